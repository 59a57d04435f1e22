theorem kw_489 : Cond.methodLink R_Mo 1017 y_Mo_thread_ ∈ wA := kinm (show _ ∈ tables_1 from (List.mem_append_right _ (List.mem_append_right _ (List.mem_append_right _ (List.mem_append_right _ (List.mem_append_right _ (List.mem_append_right _ (List.mem_append_right _ (List.mem_append_right _ (List.mem_append_right _ (List.mem_append_right _ (List.mem_append_right _ (List.mem_append_right _ (List.mem_append_left _ (List.mem_of_getElem? (l := tables_1_13) (i := 232) (by decide +kernel)))))))))))))))) (by decide +kernel)
theorem kw_490 : Cond.instanceMethod y_Mo_variableAt ∈ wA := kinm (show _ ∈ tables_1 from (List.mem_append_right _ (List.mem_append_right _ (List.mem_append_right _ (List.mem_append_right _ (List.mem_append_right _ (List.mem_append_right _ (List.mem_append_right _ (List.mem_append_right _ (List.mem_append_right _ (List.mem_append_right _ (List.mem_append_right _ (List.mem_append_right _ (List.mem_append_left _ (List.mem_of_getElem? (l := tables_1_13) (i := 230) (by decide +kernel)))))))))))))))) (by decide +kernel)
theorem kw_491 : Cond.selects R_Mo y_Mo_variableAt y_Mo_variableAt ∈ wA := kinp 224 (by decide +kernel) (by decide +kernel)
def M_Mo_variableAt_L2 : (Int32 × Int32 × Int32) → M ((Int32 × Int32 × Int32) ⊕ ((Int32 × Int32) ⊕ (Int32 × Int32))) := fun x =>
  oB (oGI 3587 x.1) fun v4 =>
  oC (v4 ≤ x.2.2)
    (oR (Sum.inr (Sum.inr (x.1, x.2.1))))
    (oB (oAI 29 4100 x.1 x.2.2) fun v19 =>
    oB (oAI 63 4100 0 v19) fun v20 =>
    oC (v20 = x.2.1)
      (oR (Sum.inr (Sum.inl (x.1, x.2.2))))
      (oR (Sum.inl (x.1, x.2.1, x.2.2 + 1))))

def M_Mo_variableAt (l1 : Int32) (l2 : Int32) : M (Int32) :=
  oB (oW M_Mo_variableAt_L2 (l1, l2, 0)) fun e2 =>
  Sum.elim
    (fun y2_25 : Int32 × Int32 =>
      oB (oAI 29 4100 y2_25.1 y2_25.2) fun v30 =>
      oR v30)
    (fun y2_38 : Int32 × Int32 =>
      oB (M_Mo_may 0) fun v40 =>
      oC (v40 = 0)
        (oR (-1))
        (oB (M_Mo_object 8) fun v51 =>
        oB (M_Mo_thread_ y2_38.1) fun v62 =>
        oB (oSI 62 4100 0 v51 v62) fun _ =>
        oB (oSI 63 4100 0 v51 y2_38.2) fun _ =>
        oB (oGI 3587 y2_38.1) fun v79 =>
        oB (oPI 3587 y2_38.1 (v79 + 1)) fun _ =>
        oB (oSI 29 4100 y2_38.1 v79 v51) fun _ =>
        oR v51)) e2

theorem cv_Mo_variableAt : CV y_Mo_variableAt b_Mo_variableAt 4 (some .int) 2 := ⟨kw_490, kw_491, kw_17, k_Mo_variableAt, by decide +kernel⟩
theorem lp_Mo_variableAt_L2 {X : Cx} {q : PL} (g : Gd X y_Mo_variableAt b_Mo_variableAt 4 (some .int) 7 154 R_Mo) (x : Int32 × Int32 × Int32) (s : S1) (o : ((Int32 × Int32 × Int32) ⊕ ((Int32 × Int32) ⊕ (Int32 × Int32))) × S1) (h : M_Mo_variableAt_L2 x s = some o) (hR : (Sum.elim (fun y : Int32 × Int32 × Int32 => ∀ ls : Array Slot, (0 ≤ y.1 ∧ y.1 < 33) → lv_has ls 4 [(0, .ref (q.1 0 0)), (1, .ref (q.1 28 y.1)), (2, .int y.2.1), (3, .int y.2.2)] → WW X q o.2 2 ls []) (Sum.elim (fun y : Int32 × Int32 => ∀ ls : Array Slot, (0 ≤ y.1 ∧ y.1 < 33) → lv_has ls 4 [(1, .ref (q.1 28 y.1)), (3, .int y.2)] → WW X q o.2 25 ls []) (fun y : Int32 × Int32 => ∀ ls : Array Slot, (0 ≤ y.1 ∧ y.1 < 33) → lv_has ls 4 [(0, .ref (q.1 0 0)), (1, .ref (q.1 28 y.1)), (2, .int y.2)] → WW X q o.2 38 ls [])) o.1)) : ∀ ls : Array Slot, (0 ≤ x.1 ∧ x.1 < 33) → lv_has ls 4 [(0, .ref (q.1 0 0)), (1, .ref (q.1 28 x.1)), (2, .int x.2.1), (3, .int x.2.2)] → WW X q s 2 ls [] := by
  intro ls hp0 hl
  unfold M_Mo_variableAt_L2 at h
  refine ww_iload_n (pc := 2) g.1 d_Mo_variableAt_2 rfl (lv_at hl 3 rfl) ?_
  refine ww_aload_n (pc := 3) g.1 d_Mo_variableAt_3 rfl (lv_at hl 1 rfl) ?_
  refine ww_gI (pc := 4) g (k := 3) cl_Th (pt rfl rfl hp0) (by decide) (Or.inl kw_106) (f := 3587) rfl rfl d_Mo_variableAt_4 h fun v4 h => ?_
  refine ww_icmp_ge (pc := 7) (tgt := 38) g.1 d_Mo_variableAt_7 (by decide) h (fun c h => ?_) (fun c h => ?_)
  · rw [oR_eq h] at hR
    exact hR ls hp0 (lv_sub hl [0, 1, 2] rfl)
  · refine ww_aload_n (pc := 10) g.1 d_Mo_variableAt_10 rfl (lv_at hl 0 rfl) ?_
    refine ww_gR (pc := 11) g (k := 50) cl_Mo (pz rfl (by decide)) (by decide) (Or.inl kw_93) (f := 50) (t := 63) rfl rfl rfl d_Mo_variableAt_11 ?_
    refine ww_aload_n (pc := 14) g.1 d_Mo_variableAt_14 rfl (lv_at hl 1 rfl) ?_
    refine ww_gR (pc := 15) g (k := 10) cl_Th (pt rfl rfl hp0) (by decide) (Or.inl kw_107) (f := 3594) (t := 29) rfl rfl rfl d_Mo_variableAt_15 ?_
    refine ww_iload_n (pc := 18) g.1 d_Mo_variableAt_18 rfl (lv_at hl 3 rfl) ?_
    refine ww_ai (pc := 19) g (pt rfl rfl hp0) rfl rfl d_Mo_variableAt_19 h fun v19 h => ?_
    refine ww_ai (pc := 20) g (pz rfl (by decide)) rfl rfl d_Mo_variableAt_20 h fun v20 h => ?_
    refine ww_iload_n (pc := 21) g.1 d_Mo_variableAt_21 rfl (lv_at hl 2 rfl) ?_
    refine ww_icmp_ne (pc := 22) (tgt := 32) g.1 d_Mo_variableAt_22 (by decide) h (fun c h => ?_) (fun c h => ?_)
    · refine ww_iinc (pc := 32) g.1 (v := x.2.2 + 1) (lv' := [(3, .int (x.2.2 + 1)), (0, .ref (q.1 0 0)), (1, .ref (q.1 28 x.1)), (2, .int x.2.1)]) d_Mo_variableAt_32 hl (k := 3) rfl (by rfl) (by decide) rfl fun ls hl => ?_
      refine ww_goto (pc := 35) (tgt := 2) g.1 d_Mo_variableAt_35 (by decide) ?_
      rw [oR_eq h] at hR
      exact hR ls hp0 (lv_sub hl [1, 2, 3, 0] rfl)
    · rw [oR_eq h] at hR
      exact hR ls hp0 (lv_sub hl [1, 3] rfl)

theorem ct_Mo_variableAt {l : Launch} {P : PP} {q : PL} {s s' : S1} {l1 : Int32} {l2 : Int32} (hp0 : 0 ≤ l1 ∧ l1 < 33) {r : Int32} (h : M_Mo_variableAt l1 l2 s = some (r, s')) : Ct l y_Mo_variableAt b_Mo_variableAt 4 (some .int) 7 154 P q s [.ref (q.1 0 0), .ref (q.1 28 l1), .int l2] (some (.int r)) q s' := by
  refine ct_of (by decide) (Nat.le_of_ble_eq_true rfl) fun X ls eP el g hR hl => ?_
  have hR : Rt X q ((r, s') : Int32 × S1).2 (some (.int ((r, s') : Int32 × S1).1)) := hR
  have hl : lv_has ls 4 [(0, .ref (q.1 0 0)), (1, .ref (q.1 28 l1)), (2, .int l2)] := hl
  generalize (r, s') = o at h hR
  unfold M_Mo_variableAt at h
  refine ww_iconst (pc := 0) g.1 (v := 0) d_Mo_variableAt_0 (by decide) ?_
  refine ww_istore_n (pc := 1) g.1 (lv' := [(3, .int 0), (0, .ref (q.1 0 0)), (1, .ref (q.1 28 l1)), (2, .int l2)]) d_Mo_variableAt_1 rfl hl (by decide) rfl fun ls hl => ?_
  obtain ⟨e2, s1, hw, h⟩ := oB_of h
  refine oW_rule (Wh := fun (x : Int32 × Int32 × Int32) (s : S1) => ∀ ls : Array Slot, (0 ≤ x.1 ∧ x.1 < 33) → lv_has ls 4 [(0, .ref (q.1 0 0)), (1, .ref (q.1 28 x.1)), (2, .int x.2.1), (3, .int x.2.2)] → WW X q s 2 ls []) (We := fun (e : (Int32 × Int32) ⊕ (Int32 × Int32)) (s : S1) => (Sum.elim (fun y : Int32 × Int32 => ∀ ls : Array Slot, (0 ≤ y.1 ∧ y.1 < 33) → lv_has ls 4 [(1, .ref (q.1 28 y.1)), (3, .int y.2)] → WW X q s 25 ls []) (fun y : Int32 × Int32 => ∀ ls : Array Slot, (0 ≤ y.1 ∧ y.1 < 33) → lv_has ls 4 [(0, .ref (q.1 0 0)), (1, .ref (q.1 28 y.1)), (2, .int y.2)] → WW X q s 38 ls [])) e) (fun x s o hb hc => lp_Mo_variableAt_L2 (q := q) g x s o hb hc) hw ?_ ls hp0 (lv_sub hl [1, 2, 3, 0] rfl)
  clear hw hl
  clear ls
  generalize s1 = s at h ⊢
  rcases e2 with y2_25 | y2_38
  · intro ls hq2_0 hl
    dsimp only [Sum.elim_inl, Sum.elim_inr] at h
    refine ww_aload_n (pc := 25) g.1 d_Mo_variableAt_25 rfl (lv_at hl 0 rfl) ?_
    refine ww_gR (pc := 26) g (k := 10) cl_Th (pt rfl rfl hq2_0) (by decide) (Or.inl kw_107) (f := 3594) (t := 29) rfl rfl rfl d_Mo_variableAt_26 ?_
    refine ww_iload_n (pc := 29) g.1 d_Mo_variableAt_29 rfl (lv_at hl 1 rfl) ?_
    refine ww_ai (pc := 30) g (pt rfl rfl hq2_0) rfl rfl d_Mo_variableAt_30 h fun v30 h => ?_
    exact ww_iretH (pc := 31) g h hR d_Mo_variableAt_31
  · intro ls hq2_0 hl
    dsimp only [Sum.elim_inl, Sum.elim_inr] at h
    refine ww_aload_n (pc := 38) g.1 d_Mo_variableAt_38 rfl (lv_at hl 0 rfl) ?_
    refine ww_iconst (pc := 39) g.1 (v := 0) d_Mo_variableAt_39 (by decide) ?_
    obtain ⟨v40, s, hc40, h⟩ := oB_of h
    refine ww_callV (pc := 40) (rest := []) g cv_Mo_may (Or.inl kw_465) cl_Mo (pz rfl (by decide)) (ct_Mo_may hc40) ⟨by decide, by decide⟩ rfl hl.1 (Nat.le_of_ble_eq_true rfl) d_Mo_variableAt_40 rfl ?_
    refine ww_st (st' := [.int v40]) rfl ?_
    refine ww_if_ne (pc := 43) (tgt := 48) g.1 d_Mo_variableAt_43 (by decide) h (fun c h => ?_) (fun c h => ?_)
    · refine ww_aload_n (pc := 48) g.1 d_Mo_variableAt_48 rfl (lv_at hl 0 rfl) ?_
      refine ww_bipush (pc := 49) g.1 (v := 8) d_Mo_variableAt_49 (by decide) ?_
      obtain ⟨v51, s, hc51, h⟩ := oB_of h
      refine ww_callV (pc := 51) (rest := []) g cv_Mo_object (Or.inl kw_466) cl_Mo (pz rfl (by decide)) (ct_Mo_object hc51) ⟨by decide, by decide⟩ rfl hl.1 (Nat.le_of_ble_eq_true rfl) d_Mo_variableAt_51 rfl ?_
      refine ww_st (st' := [.int v51]) rfl ?_
      refine ww_istore_n (pc := 54) g.1 (lv' := [(3, .int v51), (0, .ref (q.1 0 0)), (1, .ref (q.1 28 y2_38.1)), (2, .int y2_38.2)]) d_Mo_variableAt_54 rfl hl (by decide) rfl fun ls hl => ?_
      refine ww_aload_n (pc := 55) g.1 d_Mo_variableAt_55 rfl (lv_at hl 1 rfl) ?_
      refine ww_gR (pc := 56) g (k := 49) cl_Mo (pz rfl (by decide)) (by decide) (Or.inl kw_89) (f := 49) (t := 62) rfl rfl rfl d_Mo_variableAt_56 ?_
      refine ww_iload_n (pc := 59) g.1 d_Mo_variableAt_59 rfl (lv_at hl 0 rfl) ?_
      refine ww_aload_n (pc := 60) g.1 d_Mo_variableAt_60 rfl (lv_at hl 1 rfl) ?_
      refine ww_aload_n (pc := 61) g.1 d_Mo_variableAt_61 rfl (lv_at hl 2 rfl) ?_
      obtain ⟨v62, s, hc62, h⟩ := oB_of h
      refine ww_callV (pc := 62) (rest := [.int v51, .ref (q.1 62 0)]) g cv_Mo_thread_ (Or.inl kw_489) cl_Mo (pz rfl (by decide)) (ct_Mo_thread_ hq2_0 hc62) ⟨by decide, by decide⟩ rfl hl.1 (Nat.le_of_ble_eq_true rfl) d_Mo_variableAt_62 rfl ?_
      refine ww_st (st' := [.int v62, .int v51, .ref (q.1 62 0)]) rfl ?_
      refine ww_si (pc := 65) g (pz rfl (by decide)) rfl rfl d_Mo_variableAt_65 h fun s hs h => ?_
      refine ww_aload_n (pc := 66) g.1 d_Mo_variableAt_66 rfl (lv_at hl 1 rfl) ?_
      refine ww_gR (pc := 67) g (k := 50) cl_Mo (pz rfl (by decide)) (by decide) (Or.inl kw_93) (f := 50) (t := 63) rfl rfl rfl d_Mo_variableAt_67 ?_
      refine ww_iload_n (pc := 70) g.1 d_Mo_variableAt_70 rfl (lv_at hl 0 rfl) ?_
      refine ww_iload_n (pc := 71) g.1 d_Mo_variableAt_71 rfl (lv_at hl 3 rfl) ?_
      refine ww_si (pc := 72) g (pz rfl (by decide)) rfl rfl d_Mo_variableAt_72 h fun s hs h => ?_
      refine ww_aload_n (pc := 73) g.1 d_Mo_variableAt_73 rfl (lv_at hl 2 rfl) ?_
      refine ww_gR (pc := 74) g (k := 10) cl_Th (pt rfl rfl hq2_0) (by decide) (Or.inl kw_107) (f := 3594) (t := 29) rfl rfl rfl d_Mo_variableAt_74 ?_
      refine ww_aload_n (pc := 77) g.1 d_Mo_variableAt_77 rfl (lv_at hl 2 rfl) ?_
      refine ww_dup (pc := 78) g.1 d_Mo_variableAt_78 rfl ?_
      refine ww_gI (pc := 79) g (k := 3) cl_Th (pt rfl rfl hq2_0) (by decide) (Or.inl kw_106) (f := 3587) rfl rfl d_Mo_variableAt_79 h fun v79 h => ?_
      refine ww_dup_x1 (pc := 82) g.1 d_Mo_variableAt_82 rfl rfl ?_
      refine ww_iconst (pc := 83) g.1 (v := 1) d_Mo_variableAt_83 (by decide) ?_
      refine ww_iadd (pc := 84) g.1 d_Mo_variableAt_84 ?_
      refine ww_pI (pc := 85) g (k := 3) cl_Th (pt rfl rfl hq2_0) (by decide) (Or.inl kw_106) rfl (f := 3587) rfl rfl rfl rfl d_Mo_variableAt_85 h fun s hs h => ?_
      refine ww_iload_n (pc := 88) g.1 d_Mo_variableAt_88 rfl (lv_at hl 0 rfl) ?_
      refine ww_si (pc := 89) g (pt rfl rfl hq2_0) rfl rfl d_Mo_variableAt_89 h fun s hs h => ?_
      refine ww_iload_n (pc := 90) g.1 d_Mo_variableAt_90 rfl (lv_at hl 0 rfl) ?_
      exact ww_iretH (pc := 91) g h hR d_Mo_variableAt_91
    · refine ww_iconst (pc := 46) g.1 (v := (-1)) d_Mo_variableAt_46 (by decide) ?_
      exact ww_iretH (pc := 47) g h hR d_Mo_variableAt_47

theorem kw_492 : Cond.instanceMethod y_Mo_table ∈ wA := kinm (show _ ∈ tables_1 from (List.mem_append_right _ (List.mem_append_right _ (List.mem_append_right _ (List.mem_append_right _ (List.mem_append_right _ (List.mem_append_right _ (List.mem_append_right _ (List.mem_append_right _ (List.mem_append_right _ (List.mem_append_right _ (List.mem_append_left _ (List.mem_of_getElem? (l := tables_1_11) (i := 230) (by decide +kernel)))))))))))))) (by decide +kernel)
theorem kw_493 : Cond.selects R_Mo y_Mo_table y_Mo_table ∈ wA := kinp 126 (by decide +kernel) (by decide +kernel)
def M_Mo_table  : M (Int32) :=
  oB (M_Mo_may 0) fun v2 =>
  oC (v2 = 0)
    (oR (-1))
    (oB (M_Mo_object 5) fun v12 =>
    oB (oSI 62 4100 0 v12 0) fun _ =>
    oB (oSI 63 4100 0 v12 0) fun _ =>
    oB (oSI 64 4100 0 v12 0) fun _ =>
    oB (oSI 65 4100 0 v12 (-1)) fun _ =>
    oR v12)

theorem cv_Mo_table : CV y_Mo_table b_Mo_table 2 (some .int) 0 := ⟨kw_492, kw_493, kw_17, k_Mo_table, by decide +kernel⟩
theorem ct_Mo_table {l : Launch} {P : PP} {q : PL} {s s' : S1}  {r : Int32} (h : M_Mo_table s = some (r, s')) : Ct l y_Mo_table b_Mo_table 2 (some .int) 7 154 P q s [.ref (q.1 0 0)] (some (.int r)) q s' := by
  refine ct_of (by decide) (Nat.le_of_ble_eq_true rfl) fun X ls eP el g hR hl => ?_
  have hR : Rt X q ((r, s') : Int32 × S1).2 (some (.int ((r, s') : Int32 × S1).1)) := hR
  have hl : lv_has ls 2 [(0, .ref (q.1 0 0))] := hl
  generalize (r, s') = o at h hR
  unfold M_Mo_table at h
  refine ww_aload_n (pc := 0) g.1 d_Mo_table_0 rfl (lv_at hl 0 rfl) ?_
  refine ww_iconst (pc := 1) g.1 (v := 0) d_Mo_table_1 (by decide) ?_
  obtain ⟨v2, s, hc2, h⟩ := oB_of h
  refine ww_callV (pc := 2) (rest := []) g cv_Mo_may (Or.inl kw_465) cl_Mo (pz rfl (by decide)) (ct_Mo_may hc2) ⟨by decide, by decide⟩ rfl hl.1 (Nat.le_of_ble_eq_true rfl) d_Mo_table_2 rfl ?_
  refine ww_st (st' := [.int v2]) rfl ?_
  refine ww_if_ne (pc := 5) (tgt := 10) g.1 d_Mo_table_5 (by decide) h (fun c h => ?_) (fun c h => ?_)
  · refine ww_aload_n (pc := 10) g.1 d_Mo_table_10 rfl (lv_at hl 0 rfl) ?_
    refine ww_iconst (pc := 11) g.1 (v := 5) d_Mo_table_11 (by decide) ?_
    obtain ⟨v12, s, hc12, h⟩ := oB_of h
    refine ww_callV (pc := 12) (rest := []) g cv_Mo_object (Or.inl kw_466) cl_Mo (pz rfl (by decide)) (ct_Mo_object hc12) ⟨by decide, by decide⟩ rfl hl.1 (Nat.le_of_ble_eq_true rfl) d_Mo_table_12 rfl ?_
    refine ww_st (st' := [.int v12]) rfl ?_
    refine ww_istore_n (pc := 15) g.1 (lv' := [(1, .int v12), (0, .ref (q.1 0 0))]) d_Mo_table_15 rfl hl (by decide) rfl fun ls hl => ?_
    refine ww_aload_n (pc := 16) g.1 d_Mo_table_16 rfl (lv_at hl 1 rfl) ?_
    refine ww_gR (pc := 17) g (k := 49) cl_Mo (pz rfl (by decide)) (by decide) (Or.inl kw_89) (f := 49) (t := 62) rfl rfl rfl d_Mo_table_17 ?_
    refine ww_iload_n (pc := 20) g.1 d_Mo_table_20 rfl (lv_at hl 0 rfl) ?_
    refine ww_iconst (pc := 21) g.1 (v := 0) d_Mo_table_21 (by decide) ?_
    refine ww_si (pc := 22) g (pz rfl (by decide)) rfl rfl d_Mo_table_22 h fun s hs h => ?_
    refine ww_aload_n (pc := 23) g.1 d_Mo_table_23 rfl (lv_at hl 1 rfl) ?_
    refine ww_gR (pc := 24) g (k := 50) cl_Mo (pz rfl (by decide)) (by decide) (Or.inl kw_93) (f := 50) (t := 63) rfl rfl rfl d_Mo_table_24 ?_
    refine ww_iload_n (pc := 27) g.1 d_Mo_table_27 rfl (lv_at hl 0 rfl) ?_
    refine ww_iconst (pc := 28) g.1 (v := 0) d_Mo_table_28 (by decide) ?_
    refine ww_si (pc := 29) g (pz rfl (by decide)) rfl rfl d_Mo_table_29 h fun s hs h => ?_
    refine ww_aload_n (pc := 30) g.1 d_Mo_table_30 rfl (lv_at hl 1 rfl) ?_
    refine ww_gR (pc := 31) g (k := 51) cl_Mo (pz rfl (by decide)) (by decide) (Or.inl kw_126) (f := 51) (t := 64) rfl rfl rfl d_Mo_table_31 ?_
    refine ww_iload_n (pc := 34) g.1 d_Mo_table_34 rfl (lv_at hl 0 rfl) ?_
    refine ww_iconst (pc := 35) g.1 (v := 0) d_Mo_table_35 (by decide) ?_
    refine ww_si (pc := 36) g (pz rfl (by decide)) rfl rfl d_Mo_table_36 h fun s hs h => ?_
    refine ww_aload_n (pc := 37) g.1 d_Mo_table_37 rfl (lv_at hl 1 rfl) ?_
    refine ww_gR (pc := 38) g (k := 52) cl_Mo (pz rfl (by decide)) (by decide) (Or.inl kw_347) (f := 52) (t := 65) rfl rfl rfl d_Mo_table_38 ?_
    refine ww_iload_n (pc := 41) g.1 d_Mo_table_41 rfl (lv_at hl 0 rfl) ?_
    refine ww_iconst (pc := 42) g.1 (v := (-1)) d_Mo_table_42 (by decide) ?_
    refine ww_si (pc := 43) g (pz rfl (by decide)) rfl rfl d_Mo_table_43 h fun s hs h => ?_
    refine ww_iload_n (pc := 44) g.1 d_Mo_table_44 rfl (lv_at hl 0 rfl) ?_
    exact ww_iretH (pc := 45) g h hR d_Mo_table_45
  · refine ww_iconst (pc := 8) g.1 (v := (-1)) d_Mo_table_8 (by decide) ?_
    exact ww_iretH (pc := 9) g h hR d_Mo_table_9

theorem kw_494 : Cond.methodLink R_Mo 925 y_Mo_up ∈ wA := kinm (show _ ∈ tables_1 from (List.mem_append_right _ (List.mem_append_right _ (List.mem_append_right _ (List.mem_append_right _ (List.mem_append_right _ (List.mem_append_right _ (List.mem_append_right _ (List.mem_append_right _ (List.mem_append_right _ (List.mem_append_right _ (List.mem_append_right _ (List.mem_append_right _ (List.mem_append_left _ (List.mem_of_getElem? (l := tables_1_13) (i := 139) (by decide +kernel)))))))))))))))) (by decide +kernel)
theorem kw_495 : Cond.methodLink R_Mo 936 y_Mo_write ∈ wA := kinm (show _ ∈ tables_1 from (List.mem_append_right _ (List.mem_append_right _ (List.mem_append_right _ (List.mem_append_right _ (List.mem_append_right _ (List.mem_append_right _ (List.mem_append_right _ (List.mem_append_right _ (List.mem_append_right _ (List.mem_append_right _ (List.mem_append_right _ (List.mem_append_right _ (List.mem_append_left _ (List.mem_of_getElem? (l := tables_1_13) (i := 155) (by decide +kernel)))))))))))))))) (by decide +kernel)
theorem kw_496 : Cond.methodLink R_Mo 940 y_Mo_store ∈ wA := kinm (show _ ∈ tables_1 from (List.mem_append_right _ (List.mem_append_right _ (List.mem_append_right _ (List.mem_append_right _ (List.mem_append_right _ (List.mem_append_right _ (List.mem_append_right _ (List.mem_append_right _ (List.mem_append_right _ (List.mem_append_right _ (List.mem_append_right _ (List.mem_append_right _ (List.mem_append_left _ (List.mem_of_getElem? (l := tables_1_13) (i := 159) (by decide +kernel)))))))))))))))) (by decide +kernel)
theorem kw_497 : Cond.methodLink R_Mo 675 y_Mo_table ∈ wA := kinm (show _ ∈ tables_1 from (List.mem_append_right _ (List.mem_append_right _ (List.mem_append_right _ (List.mem_append_right _ (List.mem_append_right _ (List.mem_append_right _ (List.mem_append_right _ (List.mem_append_right _ (List.mem_append_right _ (List.mem_append_right _ (List.mem_append_left _ (List.mem_of_getElem? (l := tables_1_11) (i := 228) (by decide +kernel)))))))))))))) (by decide +kernel)
theorem kw_498 : Cond.instanceMethod y_Mo_small ∈ wA := kinm (show _ ∈ tables_1 from (List.mem_append_right _ (List.mem_append_right _ (List.mem_append_right _ (List.mem_append_right _ (List.mem_append_right _ (List.mem_append_right _ (List.mem_append_right _ (List.mem_append_right _ (List.mem_append_right _ (List.mem_append_right _ (List.mem_append_right _ (List.mem_append_right _ (List.mem_append_left _ (List.mem_of_getElem? (l := tables_1_13) (i := 133) (by decide +kernel)))))))))))))))) (by decide +kernel)
theorem kw_499 : Cond.selects R_Mo y_Mo_small y_Mo_small ∈ wA := kinp 204 (by decide +kernel) (by decide +kernel)
def M_Mo_small_j133 (l1 : Int32) (l2 : Int32) (l4 : Int32) (k0 : Int32) (k1 : Int32) (k2r : Nat) (k2 : Int32) : M (Unit) :=
  oB (M_Va_set k2r k2 k1 k0 0) fun _ =>
  oB (M_Mo_c l4) fun v139 =>
  oC (v139 = 0)
    (oR ())
    (oB (oAI 32 201 l1 l2) fun v151 =>
    oB (oSI 32 201 l1 l2 (v151 + 1)) fun _ =>
    oR ())

def M_Mo_small_L161 : (Int32 × Nat × Int32 × Int32 × Int32) → M ((Int32 × Nat × Int32 × Int32 × Int32) ⊕ ((Unit))) := fun x =>
  oB (M_Mo_b x.1) fun v165 =>
  oC (v165 < x.2.2.2.2)
    (oR (Sum.inr ()))
    (oB (M_Va_set x.2.1 x.2.2.1 (x.2.2.2.1 + x.2.2.2.2) 0 0) fun _ =>
    oR (Sum.inl (x.1, x.2.1, x.2.2.1, x.2.2.2.1, x.2.2.2.2 + 1)))

def M_Mo_small (l1 : Int32) (l2 : Int32) (l3 : Int32) (l4 : Int32) (l5 : Int32) (l6r : Nat) (l6 : Int32) (l7 : Int32) : M (Unit) :=
  oB (oAI 33 201 l1 l2) fun v5 =>
  oC (l5 = 0)
    (oB (M_Mo_b l4) fun v78 =>
    oB (M_Va_set_ l6r l6 l7 l6r l6 (v5 + v78)) fun _ =>
    oR ())
  (oC (l5 = 1)
    (oB (M_Mo_bx l4) fun v92 =>
    oB (M_Mo_constant l3 v92) fun _ =>
    oB (oGI 98 0) fun v103 =>
    oB (oGL 99 0) fun v107 =>
    oB (M_Va_set l6r l6 l7 v103 v107) fun _ =>
    oR ())
  (oC (l5 = 3)
    (oB (M_Mo_b l4) fun v122 =>
    oC (v122 = 0)
      (M_Mo_small_j133 l1 l2 l4 1 l7 l6r l6)
      (M_Mo_small_j133 l1 l2 l4 2 l7 l6r l6))
  (oC (l5 = 4)
    (oB (oW M_Mo_small_L161 (l4, l6r, l6, l7, 0)) fun e161 =>
    oR ())
  (oC (l5 = 5)
    (oB (M_Mo_b l4) fun v198 =>
    oB (M_Mo_up l1 l2 v198) fun v201 =>
    oB (M_Mo_load_ v201) fun _ =>
    oB (oGI 66 0) fun v212 =>
    oB (oGL 67 0) fun v216 =>
    oB (M_Va_set l6r l6 l7 v212 v216) fun _ =>
    oR ())
  (oC (l5 = 6)
    (oB (M_Mo_c l4) fun v231 =>
    oB (M_Mo_rk_ l1 l2 l3 v231) fun _ =>
    oB (M_Mo_b l4) fun v243 =>
    oB (M_Mo_up l1 l2 v243) fun v246 =>
    oB (M_Mo_load_ v246) fun _ =>
    oB (oGI 66 0) fun v254 =>
    oB (oGL 67 0) fun v258 =>
    oB (oGI 98 0) fun v262 =>
    oB (oGL 99 0) fun v266 =>
    oB (M_Mo_a l4) fun v271 =>
    oB (M_Mo_index v254 v258 v262 v266 v271) fun _ =>
    oR ())
  (oC (l5 = 7)
    (oB (M_Mo_c l4) fun v286 =>
    oB (M_Mo_rk_ l1 l2 l3 v286) fun _ =>
    oB (M_Mo_b l4) fun v302 =>
    oB (oAI (l6r + 1) (lnI (l6r + 1)) l6 (v5 + v302)) fun v306 =>
    oB (M_Mo_b l4) fun v316 =>
    oB (oAL (l6r + 2) (lnI (l6r + 2)) l6 (v5 + v316)) fun v320 =>
    oB (oGI 98 0) fun v322 =>
    oB (oGL 99 0) fun v326 =>
    oB (M_Mo_a l4) fun v331 =>
    oB (M_Mo_index v306 v320 v322 v326 v331) fun _ =>
    oR ())
  (oC (l5 = 8 ∨ l5 = 10)
    (oB (M_Mo_b l4) fun v346 =>
    oB (M_Mo_rk_ l1 l2 l3 v346) fun _ =>
    oB (oGI 98 0) fun v353 =>
    oB (oGL 99 0) fun v359 =>
    oB (M_Mo_c l4) fun v370 =>
    oB (M_Mo_rk_ l1 l2 l3 v370) fun _ =>
    oC (l5 = 8)
      (oB (M_Mo_a l4) fun v389 =>
      oB (M_Mo_up l1 l2 v389) fun v392 =>
      oB (M_Mo_load_ v392) fun _ =>
      oB (oGI 66 0) fun v400 =>
      oB (oGL 67 0) fun v404 =>
      oB (oGI 98 0) fun v412 =>
      oB (oGL 99 0) fun v416 =>
      oB (M_Mo_write v400 v404 v353 v359 v412 v416) fun _ =>
      oR ())
      (oB (oAI (l6r + 1) (lnI (l6r + 1)) l6 l7) fun v433 =>
      oB (oAL (l6r + 2) (lnI (l6r + 2)) l6 l7) fun v441 =>
      oB (oGI 98 0) fun v447 =>
      oB (oGL 99 0) fun v451 =>
      oB (M_Mo_write v433 v441 v353 v359 v447 v451) fun _ =>
      oR ()))
  (oC (l5 = 9)
    (oB (M_Mo_b l4) fun v466 =>
    oB (M_Mo_up l1 l2 v466) fun v469 =>
    oB (oAI (l6r + 1) (lnI (l6r + 1)) l6 l7) fun v479 =>
    oB (oAL (l6r + 2) (lnI (l6r + 2)) l6 l7) fun v487 =>
    oB (M_Mo_store v469 v479 v487) fun _ =>
    oR ())
  (oB (M_Mo_table) fun v495 =>
  oC (v495 < 0)
    (oR ())
    (oB (M_Va_set l6r l6 l7 5 v495.toInt64) fun _ =>
    oR ()))))))))))

theorem cv_Mo_small : CV y_Mo_small b_Mo_small 13 none 7 := ⟨kw_498, kw_499, kw_17, k_Mo_small, by decide +kernel⟩
theorem j_Mo_small_j133 {X : Cx} {q : PL} (g : Gd X y_Mo_small b_Mo_small 13 none 9 219 R_Mo) {o : (Unit) × S1} (hR : Rt X q o.2 none) (l1 : Int32) (l2 : Int32) (l4 : Int32) (k0 : Int32) (k1 : Int32) (k2r : Nat) (k2 : Int32) (s : S1) (hp0 : 0 ≤ l1 ∧ l1 < 33) (hp1 : VOK k2r k2) (ls : Array Slot) (hl : lv_has ls 13 [(1, .ref (q.1 28 l1)), (2, .int l2), (4, .int l4)]) (h : M_Mo_small_j133 l1 l2 l4 k0 k1 k2r k2 s = some o) : WW X q s 133 ls [.int k0, .int k1, .ref (q.1 k2r k2)] := by
  unfold M_Mo_small_j133 at h
  refine ww_lconst (pc := 133) g.1 (v := 0) d_Mo_small_133 (by decide) ?_
  obtain ⟨v134, s, hc134, h⟩ := oB_of h
  refine ww_callV (pc := 134) (rest := []) g cv_Va_set (Or.inl kw_101) (cl_Va hp1) (vok_p hp1).1 (ct_Va_set hp1 hc134) ⟨by decide, by decide⟩ rfl hl.1 (Nat.le_of_ble_eq_true rfl) d_Mo_small_134 rfl ?_
  refine ww_st (st' := []) rfl ?_
  refine ww_iload (pc := 137) g.1 d_Mo_small_137 (lv_at hl 2 rfl) ?_
  obtain ⟨v139, s, hc139, h⟩ := oB_of h
  refine ww_callS (pc := 139) (rest := []) g cs_Mo_c (Or.inl kw_317) (ct_Mo_c hc139) ⟨by decide, by decide⟩ rfl hl.1 (Nat.le_of_ble_eq_true rfl) d_Mo_small_139 rfl ?_
  refine ww_st (st' := [.int v139]) rfl ?_
  refine ww_if_eq (pc := 142) (tgt := 516) g.1 d_Mo_small_142 (by decide) h (fun c h => ?_) (fun c h => ?_)
  · exact ww_vretH (pc := 516) g h hR d_Mo_small_516
  · refine ww_aload_n (pc := 145) g.1 d_Mo_small_145 rfl (lv_at hl 0 rfl) ?_
    refine ww_gR (pc := 146) g (k := 13) cl_Th (pt rfl rfl hp0) (by decide) (Or.inl kw_281) (f := 3597) (t := 32) rfl rfl rfl d_Mo_small_146 ?_
    refine ww_iload_n (pc := 149) g.1 d_Mo_small_149 rfl (lv_at hl 1 rfl) ?_
    refine ww_dup2_11 (pc := 150) g.1 d_Mo_small_150 rfl rfl ?_
    refine ww_ai (pc := 151) g (pt rfl rfl hp0) rfl rfl d_Mo_small_151 h fun v151 h => ?_
    refine ww_iconst (pc := 152) g.1 (v := 1) d_Mo_small_152 (by decide) ?_
    refine ww_iadd (pc := 153) g.1 d_Mo_small_153 ?_
    refine ww_si (pc := 154) g (pt rfl rfl hp0) rfl rfl d_Mo_small_154 h fun s hs h => ?_
    refine ww_goto (pc := 155) (tgt := 516) g.1 d_Mo_small_155 (by decide) ?_
    exact ww_vretH (pc := 516) g h hR d_Mo_small_516

theorem lp_Mo_small_L161 {X : Cx} {q : PL} (g : Gd X y_Mo_small b_Mo_small 13 none 9 219 R_Mo) (x : Int32 × Nat × Int32 × Int32 × Int32) (s : S1) (o : ((Int32 × Nat × Int32 × Int32 × Int32) ⊕ ((Unit))) × S1) (h : M_Mo_small_L161 x s = some o) (hR : (Sum.elim (fun y : Int32 × Nat × Int32 × Int32 × Int32 => ∀ ls : Array Slot, (VOK y.2.1 y.2.2.1) → lv_has ls 13 [(4, .int y.1), (6, .ref (q.1 y.2.1 y.2.2.1)), (7, .int y.2.2.2.1), (9, .int y.2.2.2.2)] → WW X q o.2 161 ls []) (fun y : Unit => ∀ ls : Array Slot, lv_has ls 13 [] → WW X q o.2 189 ls []) o.1)) : ∀ ls : Array Slot, (VOK x.2.1 x.2.2.1) → lv_has ls 13 [(4, .int x.1), (6, .ref (q.1 x.2.1 x.2.2.1)), (7, .int x.2.2.2.1), (9, .int x.2.2.2.2)] → WW X q s 161 ls [] := by
  intro ls hp0 hl
  unfold M_Mo_small_L161 at h
  refine ww_iload (pc := 161) g.1 d_Mo_small_161 (lv_at hl 3 rfl) ?_
  refine ww_iload (pc := 163) g.1 d_Mo_small_163 (lv_at hl 0 rfl) ?_
  obtain ⟨v165, s, hc165, h⟩ := oB_of h
  refine ww_callS (pc := 165) (rest := [.int x.2.2.2.2]) g cs_Mo_b (Or.inl kw_55) (ct_Mo_b hc165) ⟨by decide, by decide⟩ rfl hl.1 (Nat.le_of_ble_eq_true rfl) d_Mo_small_165 rfl ?_
  refine ww_st (st' := [.int v165, .int x.2.2.2.2]) rfl ?_
  refine ww_icmp_gt (pc := 168) (tgt := 189) g.1 d_Mo_small_168 (by decide) h (fun c h => ?_) (fun c h => ?_)
  · rw [oR_eq h] at hR
    exact hR ls (lv_sub hl [] rfl)
  · refine ww_aload (pc := 171) g.1 d_Mo_small_171 (lv_at hl 1 rfl) ?_
    refine ww_iload (pc := 173) g.1 d_Mo_small_173 (lv_at hl 2 rfl) ?_
    refine ww_iload (pc := 175) g.1 d_Mo_small_175 (lv_at hl 3 rfl) ?_
    refine ww_iadd (pc := 177) g.1 d_Mo_small_177 ?_
    refine ww_iconst (pc := 178) g.1 (v := 0) d_Mo_small_178 (by decide) ?_
    refine ww_lconst (pc := 179) g.1 (v := 0) d_Mo_small_179 (by decide) ?_
    obtain ⟨v180, s, hc180, h⟩ := oB_of h
    refine ww_callV (pc := 180) (rest := []) g cv_Va_set (Or.inl kw_101) (cl_Va hp0) (vok_p hp0).1 (ct_Va_set hp0 hc180) ⟨by decide, by decide⟩ rfl hl.1 (Nat.le_of_ble_eq_true rfl) d_Mo_small_180 rfl ?_
    refine ww_st (st' := []) rfl ?_
    refine ww_iinc (pc := 183) g.1 (v := x.2.2.2.2 + 1) (lv' := [(9, .int (x.2.2.2.2 + 1)), (4, .int x.1), (6, .ref (q.1 x.2.1 x.2.2.1)), (7, .int x.2.2.2.1)]) d_Mo_small_183 hl (k := 3) rfl (by rfl) (by decide) rfl fun ls hl => ?_
    refine ww_goto (pc := 186) (tgt := 161) g.1 d_Mo_small_186 (by decide) ?_
    rw [oR_eq h] at hR
    exact hR ls hp0 (lv_sub hl [1, 2, 3, 0] rfl)

theorem ct_Mo_small {l : Launch} {P : PP} {q : PL} {s s' : S1} {l1 : Int32} {l2 : Int32} {l3 : Int32} {l4 : Int32} {l5 : Int32} {l6r : Nat} {l6 : Int32} {l7 : Int32} (hp0 : 0 ≤ l1 ∧ l1 < 33) (hp1 : VOK l6r l6) {r : Unit} (h : M_Mo_small l1 l2 l3 l4 l5 l6r l6 l7 s = some (r, s')) : Ct l y_Mo_small b_Mo_small 13 none 9 219 P q s [.ref (q.1 0 0), .ref (q.1 28 l1), .int l2, .int l3, .int l4, .int l5, .ref (q.1 l6r l6), .int l7] none q s' := by
  refine ct_of (by decide) (Nat.le_of_ble_eq_true rfl) fun X ls eP el g hR hl => ?_
  have hR : Rt X q ((r, s') : Unit × S1).2 none := hR
  have hl : lv_has ls 13 [(0, .ref (q.1 0 0)), (1, .ref (q.1 28 l1)), (2, .int l2), (3, .int l3), (4, .int l4), (5, .int l5), (6, .ref (q.1 l6r l6)), (7, .int l7)] := hl
  generalize (r, s') = o at h hR
  unfold M_Mo_small at h
  refine ww_aload_n (pc := 0) g.1 d_Mo_small_0 rfl (lv_at hl 1 rfl) ?_
  refine ww_gR (pc := 1) g (k := 14) cl_Th (pt rfl rfl hp0) (by decide) (Or.inl kw_260) (f := 3598) (t := 33) rfl rfl rfl d_Mo_small_1 ?_
  refine ww_iload_n (pc := 4) g.1 d_Mo_small_4 rfl (lv_at hl 2 rfl) ?_
  refine ww_ai (pc := 5) g (pt rfl rfl hp0) rfl rfl d_Mo_small_5 h fun v5 h => ?_
  refine ww_istore (pc := 6) g.1 (lv' := [(8, .int v5), (0, .ref (q.1 0 0)), (1, .ref (q.1 28 l1)), (2, .int l2), (3, .int l3), (4, .int l4), (5, .int l5), (6, .ref (q.1 l6r l6)), (7, .int l7)]) d_Mo_small_6 hl (by decide) rfl fun ls hl => ?_
  refine ww_iload (pc := 8) g.1 d_Mo_small_8 (lv_at hl 6 rfl) ?_
  by_cases c10_68 : l5 = 0
  · have h := oC_pos c10_68 h
    have c := c10_68
    refine ww_tableIn (pc := 10) (tgt := 68) g.1 d_Mo_small_10 (by rw [c]; decide) (by rw [c]; decide) (by rw [c]; rfl) (by decide) ?_
    refine ww_aload (pc := 68) g.1 d_Mo_small_68 (lv_at hl 7 rfl) ?_
    refine ww_iload (pc := 70) g.1 d_Mo_small_70 (lv_at hl 8 rfl) ?_
    refine ww_aload (pc := 72) g.1 d_Mo_small_72 (lv_at hl 7 rfl) ?_
    refine ww_iload (pc := 74) g.1 d_Mo_small_74 (lv_at hl 0 rfl) ?_
    refine ww_iload (pc := 76) g.1 d_Mo_small_76 (lv_at hl 5 rfl) ?_
    obtain ⟨v78, s, hc78, h⟩ := oB_of h
    refine ww_callS (pc := 78) (rest := [.int v5, .ref (q.1 l6r l6), .int l7, .ref (q.1 l6r l6)]) g cs_Mo_b (Or.inl kw_55) (ct_Mo_b hc78) ⟨by decide, by decide⟩ rfl hl.1 (Nat.le_of_ble_eq_true rfl) d_Mo_small_78 rfl ?_
    refine ww_st (st' := [.int v78, .int v5, .ref (q.1 l6r l6), .int l7, .ref (q.1 l6r l6)]) rfl ?_
    refine ww_iadd (pc := 81) g.1 d_Mo_small_81 ?_
    obtain ⟨v82, s, hc82, h⟩ := oB_of h
    refine ww_callV (pc := 82) (rest := []) g cv_Va_set_ (Or.inl kw_201) (cl_Va hp1) (vok_p hp1).1 (ct_Va_set_ hp1 hp1 hc82) ⟨by decide, by decide⟩ rfl hl.1 (Nat.le_of_ble_eq_true rfl) d_Mo_small_82 rfl ?_
    refine ww_st (st' := []) rfl ?_
    refine ww_goto (pc := 85) (tgt := 516) g.1 d_Mo_small_85 (by decide) ?_
    exact ww_vretH (pc := 516) g h hR d_Mo_small_516
  have h := oC_neg c10_68 h
  by_cases c10_88 : l5 = 1
  · have h := oC_pos c10_88 h
    have c := c10_88
    refine ww_tableIn (pc := 10) (tgt := 88) g.1 d_Mo_small_10 (by rw [c]; decide) (by rw [c]; decide) (by rw [c]; rfl) (by decide) ?_
    refine ww_aload_n (pc := 88) g.1 d_Mo_small_88 rfl (lv_at hl 1 rfl) ?_
    refine ww_iload_n (pc := 89) g.1 d_Mo_small_89 rfl (lv_at hl 4 rfl) ?_
    refine ww_iload (pc := 90) g.1 d_Mo_small_90 (lv_at hl 5 rfl) ?_
    obtain ⟨v92, s, hc92, h⟩ := oB_of h
    refine ww_callS (pc := 92) (rest := [.int l3, .ref (q.1 0 0)]) g cs_Mo_bx (Or.inl kw_320) (ct_Mo_bx hc92) ⟨by decide, by decide⟩ rfl hl.1 (Nat.le_of_ble_eq_true rfl) d_Mo_small_92 rfl ?_
    refine ww_st (st' := [.int v92, .int l3, .ref (q.1 0 0)]) rfl ?_
    obtain ⟨v95, s, hc95, h⟩ := oB_of h
    refine ww_callV (pc := 95) (rest := []) g cv_Mo_constant (Or.inl kw_261) cl_Mo (pz rfl (by decide)) (ct_Mo_constant hc95) ⟨by decide, by decide⟩ rfl hl.1 (Nat.le_of_ble_eq_true rfl) d_Mo_small_95 rfl ?_
    refine ww_st (st' := []) rfl ?_
    refine ww_aload (pc := 98) g.1 d_Mo_small_98 (lv_at hl 7 rfl) ?_
    refine ww_iload (pc := 100) g.1 d_Mo_small_100 (lv_at hl 8 rfl) ?_
    refine ww_aload_n (pc := 102) g.1 d_Mo_small_102 rfl (lv_at hl 1 rfl) ?_
    refine ww_gI (pc := 103) g (k := 98) cl_Mo (pz rfl (by decide)) (by decide) (Or.inl kw_254) (f := 98) rfl rfl d_Mo_small_103 h fun v103 h => ?_
    refine ww_aload_n (pc := 106) g.1 d_Mo_small_106 rfl (lv_at hl 1 rfl) ?_
    refine ww_gL (pc := 107) g (k := 99) cl_Mo (pz rfl (by decide)) (by decide) (Or.inl kw_255) (f := 99) rfl rfl d_Mo_small_107 h fun v107 h => ?_
    obtain ⟨v110, s, hc110, h⟩ := oB_of h
    refine ww_callV (pc := 110) (rest := []) g cv_Va_set (Or.inl kw_101) (cl_Va hp1) (vok_p hp1).1 (ct_Va_set hp1 hc110) ⟨by decide, by decide⟩ rfl hl.1 (Nat.le_of_ble_eq_true rfl) d_Mo_small_110 rfl ?_
    refine ww_st (st' := []) rfl ?_
    refine ww_goto (pc := 113) (tgt := 516) g.1 d_Mo_small_113 (by decide) ?_
    exact ww_vretH (pc := 516) g h hR d_Mo_small_516
  have h := oC_neg c10_88 h
  by_cases c10_116 : l5 = 3
  · have h := oC_pos c10_116 h
    have c := c10_116
    refine ww_tableIn (pc := 10) (tgt := 116) g.1 d_Mo_small_10 (by rw [c]; decide) (by rw [c]; decide) (by rw [c]; rfl) (by decide) ?_
    refine ww_aload (pc := 116) g.1 d_Mo_small_116 (lv_at hl 7 rfl) ?_
    refine ww_iload (pc := 118) g.1 d_Mo_small_118 (lv_at hl 8 rfl) ?_
    refine ww_iload (pc := 120) g.1 d_Mo_small_120 (lv_at hl 5 rfl) ?_
    obtain ⟨v122, s, hc122, h⟩ := oB_of h
    refine ww_callS (pc := 122) (rest := [.int l7, .ref (q.1 l6r l6)]) g cs_Mo_b (Or.inl kw_55) (ct_Mo_b hc122) ⟨by decide, by decide⟩ rfl hl.1 (Nat.le_of_ble_eq_true rfl) d_Mo_small_122 rfl ?_
    refine ww_st (st' := [.int v122, .int l7, .ref (q.1 l6r l6)]) rfl ?_
    refine ww_if_eq (pc := 125) (tgt := 132) g.1 d_Mo_small_125 (by decide) h (fun c h => ?_) (fun c h => ?_)
    · refine ww_iconst (pc := 132) g.1 (v := 1) d_Mo_small_132 (by decide) ?_
      exact j_Mo_small_j133 g hR l1 l2 l4 1 l7 l6r l6 s hp0 hp1 ls (lv_sub hl [2, 3, 5] rfl) h
    · refine ww_iconst (pc := 128) g.1 (v := 2) d_Mo_small_128 (by decide) ?_
      refine ww_goto (pc := 129) (tgt := 133) g.1 d_Mo_small_129 (by decide) ?_
      exact j_Mo_small_j133 g hR l1 l2 l4 2 l7 l6r l6 s hp0 hp1 ls (lv_sub hl [2, 3, 5] rfl) h
  have h := oC_neg c10_116 h
  by_cases c10_158 : l5 = 4
  · have h := oC_pos c10_158 h
    have c := c10_158
    refine ww_tableIn (pc := 10) (tgt := 158) g.1 d_Mo_small_10 (by rw [c]; decide) (by rw [c]; decide) (by rw [c]; rfl) (by decide) ?_
    refine ww_iconst (pc := 158) g.1 (v := 0) d_Mo_small_158 (by decide) ?_
    refine ww_istore (pc := 159) g.1 (lv' := [(9, .int 0), (8, .int v5), (0, .ref (q.1 0 0)), (1, .ref (q.1 28 l1)), (2, .int l2), (3, .int l3), (4, .int l4), (5, .int l5), (6, .ref (q.1 l6r l6)), (7, .int l7)]) d_Mo_small_159 hl (by decide) rfl fun ls hl => ?_
    obtain ⟨e161, s1, hw, h⟩ := oB_of h
    refine oW_rule (Wh := fun (x : Int32 × Nat × Int32 × Int32 × Int32) (s : S1) => ∀ ls : Array Slot, (VOK x.2.1 x.2.2.1) → lv_has ls 13 [(4, .int x.1), (6, .ref (q.1 x.2.1 x.2.2.1)), (7, .int x.2.2.2.1), (9, .int x.2.2.2.2)] → WW X q s 161 ls []) (We := fun (e : (Unit)) (s : S1) => ∀ ls : Array Slot, lv_has ls 13 [] → WW X q s 189 ls []) (fun x s o hb hc => lp_Mo_small_L161 (q := q) g x s o hb hc) hw ?_ ls hp1 (lv_sub hl [6, 8, 9, 0] rfl)
    clear hw hl
    clear ls
    intro ls hl
    generalize s1 = s at h ⊢
    refine ww_goto (pc := 189) (tgt := 516) g.1 d_Mo_small_189 (by decide) ?_
    exact ww_vretH (pc := 516) g h hR d_Mo_small_516
  have h := oC_neg c10_158 h
  by_cases c10_192 : l5 = 5
  · have h := oC_pos c10_192 h
    have c := c10_192
    refine ww_tableIn (pc := 10) (tgt := 192) g.1 d_Mo_small_10 (by rw [c]; decide) (by rw [c]; decide) (by rw [c]; rfl) (by decide) ?_
    refine ww_aload_n (pc := 192) g.1 d_Mo_small_192 rfl (lv_at hl 1 rfl) ?_
    refine ww_aload_n (pc := 193) g.1 d_Mo_small_193 rfl (lv_at hl 1 rfl) ?_
    refine ww_aload_n (pc := 194) g.1 d_Mo_small_194 rfl (lv_at hl 2 rfl) ?_
    refine ww_iload_n (pc := 195) g.1 d_Mo_small_195 rfl (lv_at hl 3 rfl) ?_
    refine ww_iload (pc := 196) g.1 d_Mo_small_196 (lv_at hl 5 rfl) ?_
    obtain ⟨v198, s, hc198, h⟩ := oB_of h
    refine ww_callS (pc := 198) (rest := [.int l2, .ref (q.1 28 l1), .ref (q.1 0 0), .ref (q.1 0 0)]) g cs_Mo_b (Or.inl kw_55) (ct_Mo_b hc198) ⟨by decide, by decide⟩ rfl hl.1 (Nat.le_of_ble_eq_true rfl) d_Mo_small_198 rfl ?_
    refine ww_st (st' := [.int v198, .int l2, .ref (q.1 28 l1), .ref (q.1 0 0), .ref (q.1 0 0)]) rfl ?_
    obtain ⟨v201, s, hc201, h⟩ := oB_of h
    refine ww_callV (pc := 201) (rest := [.ref (q.1 0 0)]) g cv_Mo_up (Or.inl kw_494) cl_Mo (pz rfl (by decide)) (ct_Mo_up hp0 hc201) ⟨by decide, by decide⟩ rfl hl.1 (Nat.le_of_ble_eq_true rfl) d_Mo_small_201 rfl ?_
    refine ww_st (st' := [.int v201, .ref (q.1 0 0)]) rfl ?_
    obtain ⟨v204, s, hc204, h⟩ := oB_of h
    refine ww_callV (pc := 204) (rest := []) g cv_Mo_load_ (Or.inl kw_100) cl_Mo (pz rfl (by decide)) (ct_Mo_load_ hc204) ⟨by decide, by decide⟩ rfl hl.1 (Nat.le_of_ble_eq_true rfl) d_Mo_small_204 rfl ?_
    refine ww_st (st' := []) rfl ?_
    refine ww_aload (pc := 207) g.1 d_Mo_small_207 (lv_at hl 7 rfl) ?_
    refine ww_iload (pc := 209) g.1 d_Mo_small_209 (lv_at hl 8 rfl) ?_
    refine ww_aload_n (pc := 211) g.1 d_Mo_small_211 rfl (lv_at hl 1 rfl) ?_
    refine ww_gI (pc := 212) g (k := 66) cl_Mo (pz rfl (by decide)) (by decide) (Or.inl kw_94) (f := 66) rfl rfl d_Mo_small_212 h fun v212 h => ?_
    refine ww_aload_n (pc := 215) g.1 d_Mo_small_215 rfl (lv_at hl 1 rfl) ?_
    refine ww_gL (pc := 216) g (k := 67) cl_Mo (pz rfl (by decide)) (by decide) (Or.inl kw_96) (f := 67) rfl rfl d_Mo_small_216 h fun v216 h => ?_
    obtain ⟨v219, s, hc219, h⟩ := oB_of h
    refine ww_callV (pc := 219) (rest := []) g cv_Va_set (Or.inl kw_101) (cl_Va hp1) (vok_p hp1).1 (ct_Va_set hp1 hc219) ⟨by decide, by decide⟩ rfl hl.1 (Nat.le_of_ble_eq_true rfl) d_Mo_small_219 rfl ?_
    refine ww_st (st' := []) rfl ?_
    refine ww_goto (pc := 222) (tgt := 516) g.1 d_Mo_small_222 (by decide) ?_
    exact ww_vretH (pc := 516) g h hR d_Mo_small_516
  have h := oC_neg c10_192 h
  by_cases c10_225 : l5 = 6
  · have h := oC_pos c10_225 h
    have c := c10_225
    refine ww_tableIn (pc := 10) (tgt := 225) g.1 d_Mo_small_10 (by rw [c]; decide) (by rw [c]; decide) (by rw [c]; rfl) (by decide) ?_
    refine ww_aload_n (pc := 225) g.1 d_Mo_small_225 rfl (lv_at hl 1 rfl) ?_
    refine ww_aload_n (pc := 226) g.1 d_Mo_small_226 rfl (lv_at hl 2 rfl) ?_
    refine ww_iload_n (pc := 227) g.1 d_Mo_small_227 rfl (lv_at hl 3 rfl) ?_
    refine ww_iload_n (pc := 228) g.1 d_Mo_small_228 rfl (lv_at hl 4 rfl) ?_
    refine ww_iload (pc := 229) g.1 d_Mo_small_229 (lv_at hl 5 rfl) ?_
    obtain ⟨v231, s, hc231, h⟩ := oB_of h
    refine ww_callS (pc := 231) (rest := [.int l3, .int l2, .ref (q.1 28 l1), .ref (q.1 0 0)]) g cs_Mo_c (Or.inl kw_317) (ct_Mo_c hc231) ⟨by decide, by decide⟩ rfl hl.1 (Nat.le_of_ble_eq_true rfl) d_Mo_small_231 rfl ?_
    refine ww_st (st' := [.int v231, .int l3, .int l2, .ref (q.1 28 l1), .ref (q.1 0 0)]) rfl ?_
    obtain ⟨v234, s, hc234, h⟩ := oB_of h
    refine ww_callV (pc := 234) (rest := []) g cv_Mo_rk_ (Or.inl kw_425) cl_Mo (pz rfl (by decide)) (ct_Mo_rk_ hp0 hc234) ⟨by decide, by decide⟩ rfl hl.1 (Nat.le_of_ble_eq_true rfl) d_Mo_small_234 rfl ?_
    refine ww_st (st' := []) rfl ?_
    refine ww_aload_n (pc := 237) g.1 d_Mo_small_237 rfl (lv_at hl 1 rfl) ?_
    refine ww_aload_n (pc := 238) g.1 d_Mo_small_238 rfl (lv_at hl 1 rfl) ?_
    refine ww_aload_n (pc := 239) g.1 d_Mo_small_239 rfl (lv_at hl 2 rfl) ?_
    refine ww_iload_n (pc := 240) g.1 d_Mo_small_240 rfl (lv_at hl 3 rfl) ?_
    refine ww_iload (pc := 241) g.1 d_Mo_small_241 (lv_at hl 5 rfl) ?_
    obtain ⟨v243, s, hc243, h⟩ := oB_of h
    refine ww_callS (pc := 243) (rest := [.int l2, .ref (q.1 28 l1), .ref (q.1 0 0), .ref (q.1 0 0)]) g cs_Mo_b (Or.inl kw_55) (ct_Mo_b hc243) ⟨by decide, by decide⟩ rfl hl.1 (Nat.le_of_ble_eq_true rfl) d_Mo_small_243 rfl ?_
    refine ww_st (st' := [.int v243, .int l2, .ref (q.1 28 l1), .ref (q.1 0 0), .ref (q.1 0 0)]) rfl ?_
    obtain ⟨v246, s, hc246, h⟩ := oB_of h
    refine ww_callV (pc := 246) (rest := [.ref (q.1 0 0)]) g cv_Mo_up (Or.inl kw_494) cl_Mo (pz rfl (by decide)) (ct_Mo_up hp0 hc246) ⟨by decide, by decide⟩ rfl hl.1 (Nat.le_of_ble_eq_true rfl) d_Mo_small_246 rfl ?_
    refine ww_st (st' := [.int v246, .ref (q.1 0 0)]) rfl ?_
    obtain ⟨v249, s, hc249, h⟩ := oB_of h
    refine ww_callV (pc := 249) (rest := []) g cv_Mo_load_ (Or.inl kw_100) cl_Mo (pz rfl (by decide)) (ct_Mo_load_ hc249) ⟨by decide, by decide⟩ rfl hl.1 (Nat.le_of_ble_eq_true rfl) d_Mo_small_249 rfl ?_
    refine ww_st (st' := []) rfl ?_
    refine ww_aload_n (pc := 252) g.1 d_Mo_small_252 rfl (lv_at hl 1 rfl) ?_
    refine ww_aload_n (pc := 253) g.1 d_Mo_small_253 rfl (lv_at hl 1 rfl) ?_
    refine ww_gI (pc := 254) g (k := 66) cl_Mo (pz rfl (by decide)) (by decide) (Or.inl kw_94) (f := 66) rfl rfl d_Mo_small_254 h fun v254 h => ?_
    refine ww_aload_n (pc := 257) g.1 d_Mo_small_257 rfl (lv_at hl 1 rfl) ?_
    refine ww_gL (pc := 258) g (k := 67) cl_Mo (pz rfl (by decide)) (by decide) (Or.inl kw_96) (f := 67) rfl rfl d_Mo_small_258 h fun v258 h => ?_
    refine ww_aload_n (pc := 261) g.1 d_Mo_small_261 rfl (lv_at hl 1 rfl) ?_
    refine ww_gI (pc := 262) g (k := 98) cl_Mo (pz rfl (by decide)) (by decide) (Or.inl kw_254) (f := 98) rfl rfl d_Mo_small_262 h fun v262 h => ?_
    refine ww_aload_n (pc := 265) g.1 d_Mo_small_265 rfl (lv_at hl 1 rfl) ?_
    refine ww_gL (pc := 266) g (k := 99) cl_Mo (pz rfl (by decide)) (by decide) (Or.inl kw_255) (f := 99) rfl rfl d_Mo_small_266 h fun v266 h => ?_
    refine ww_iload (pc := 269) g.1 d_Mo_small_269 (lv_at hl 5 rfl) ?_
    obtain ⟨v271, s, hc271, h⟩ := oB_of h
    refine ww_callS (pc := 271) (rest := [.long v266, .int v262, .long v258, .int v254, .ref (q.1 0 0)]) g cs_Mo_a (Or.inl kw_287) (ct_Mo_a hc271) ⟨by decide, by decide⟩ rfl hl.1 (Nat.le_of_ble_eq_true rfl) d_Mo_small_271 rfl ?_
    refine ww_st (st' := [.int v271, .long v266, .int v262, .long v258, .int v254, .ref (q.1 0 0)]) rfl ?_
    obtain ⟨v274, s, hc274, h⟩ := oB_of h
    refine ww_callV (pc := 274) (rest := []) g cv_Mo_index (Or.inl kw_426) cl_Mo (pz rfl (by decide)) (ct_Mo_index hc274) ⟨by decide, by decide⟩ rfl hl.1 (Nat.le_of_ble_eq_true rfl) d_Mo_small_274 rfl ?_
    refine ww_st (st' := []) rfl ?_
    refine ww_goto (pc := 277) (tgt := 516) g.1 d_Mo_small_277 (by decide) ?_
    exact ww_vretH (pc := 516) g h hR d_Mo_small_516
  have h := oC_neg c10_225 h
  by_cases c10_280 : l5 = 7
  · have h := oC_pos c10_280 h
    have c := c10_280
    refine ww_tableIn (pc := 10) (tgt := 280) g.1 d_Mo_small_10 (by rw [c]; decide) (by rw [c]; decide) (by rw [c]; rfl) (by decide) ?_
    refine ww_aload_n (pc := 280) g.1 d_Mo_small_280 rfl (lv_at hl 1 rfl) ?_
    refine ww_aload_n (pc := 281) g.1 d_Mo_small_281 rfl (lv_at hl 2 rfl) ?_
    refine ww_iload_n (pc := 282) g.1 d_Mo_small_282 rfl (lv_at hl 3 rfl) ?_
    refine ww_iload_n (pc := 283) g.1 d_Mo_small_283 rfl (lv_at hl 4 rfl) ?_
    refine ww_iload (pc := 284) g.1 d_Mo_small_284 (lv_at hl 5 rfl) ?_
    obtain ⟨v286, s, hc286, h⟩ := oB_of h
    refine ww_callS (pc := 286) (rest := [.int l3, .int l2, .ref (q.1 28 l1), .ref (q.1 0 0)]) g cs_Mo_c (Or.inl kw_317) (ct_Mo_c hc286) ⟨by decide, by decide⟩ rfl hl.1 (Nat.le_of_ble_eq_true rfl) d_Mo_small_286 rfl ?_
    refine ww_st (st' := [.int v286, .int l3, .int l2, .ref (q.1 28 l1), .ref (q.1 0 0)]) rfl ?_
    obtain ⟨v289, s, hc289, h⟩ := oB_of h
    refine ww_callV (pc := 289) (rest := []) g cv_Mo_rk_ (Or.inl kw_425) cl_Mo (pz rfl (by decide)) (ct_Mo_rk_ hp0 hc289) ⟨by decide, by decide⟩ rfl hl.1 (Nat.le_of_ble_eq_true rfl) d_Mo_small_289 rfl ?_
    refine ww_st (st' := []) rfl ?_
    refine ww_aload_n (pc := 292) g.1 d_Mo_small_292 rfl (lv_at hl 1 rfl) ?_
    refine ww_aload (pc := 293) g.1 d_Mo_small_293 (lv_at hl 7 rfl) ?_
    refine ww_gR (pc := 295) g (k := 0) (cl_Va hp1) (vok_p hp1).1 (by rw [(vok_f hp1).1.2.2]; decide) (Or.inl kw_92) (f := (128 * l6r + 0)) (t := l6r + 1) rfl (vok_f hp1).2.1.1 (vok_f hp1).2.1.2 d_Mo_small_295 ?_
    refine ww_iload (pc := 298) g.1 d_Mo_small_298 (lv_at hl 0 rfl) ?_
    refine ww_iload (pc := 300) g.1 d_Mo_small_300 (lv_at hl 5 rfl) ?_
    obtain ⟨v302, s, hc302, h⟩ := oB_of h
    refine ww_callS (pc := 302) (rest := [.int v5, .ref (q.1 (l6r + 1) l6), .ref (q.1 0 0)]) g cs_Mo_b (Or.inl kw_55) (ct_Mo_b hc302) ⟨by decide, by decide⟩ rfl hl.1 (Nat.le_of_ble_eq_true rfl) d_Mo_small_302 rfl ?_
    refine ww_st (st' := [.int v302, .int v5, .ref (q.1 (l6r + 1) l6), .ref (q.1 0 0)]) rfl ?_
    refine ww_iadd (pc := 305) g.1 d_Mo_small_305 ?_
    refine ww_ab (pc := 306) g (vok_p hp1).2.1 (vok_f hp1).2.2.2.2.1 (vok_n hp1).1 d_Mo_small_306 h fun v306 h => ?_
    refine ww_aload (pc := 307) g.1 d_Mo_small_307 (lv_at hl 7 rfl) ?_
    refine ww_gR (pc := 309) g (k := 1) (cl_Va hp1) (vok_p hp1).1 (by rw [(vok_f hp1).1.2.2]; decide) (Or.inl kw_95) (f := (128 * l6r + 1)) (t := l6r + 2) rfl (vok_f hp1).2.2.1.1 (vok_f hp1).2.2.1.2 d_Mo_small_309 ?_
    refine ww_iload (pc := 312) g.1 d_Mo_small_312 (lv_at hl 0 rfl) ?_
    refine ww_iload (pc := 314) g.1 d_Mo_small_314 (lv_at hl 5 rfl) ?_
    obtain ⟨v316, s, hc316, h⟩ := oB_of h
    refine ww_callS (pc := 316) (rest := [.int v5, .ref (q.1 (l6r + 2) l6), .int v306, .ref (q.1 0 0)]) g cs_Mo_b (Or.inl kw_55) (ct_Mo_b hc316) ⟨by decide, by decide⟩ rfl hl.1 (Nat.le_of_ble_eq_true rfl) d_Mo_small_316 rfl ?_
    refine ww_st (st' := [.int v316, .int v5, .ref (q.1 (l6r + 2) l6), .int v306, .ref (q.1 0 0)]) rfl ?_
    refine ww_iadd (pc := 319) g.1 d_Mo_small_319 ?_
    refine ww_al (pc := 320) g (vok_p hp1).2.2 (vok_f hp1).2.2.2.2.2 (vok_n hp1).2 d_Mo_small_320 h fun v320 h => ?_
    refine ww_aload_n (pc := 321) g.1 d_Mo_small_321 rfl (lv_at hl 1 rfl) ?_
    refine ww_gI (pc := 322) g (k := 98) cl_Mo (pz rfl (by decide)) (by decide) (Or.inl kw_254) (f := 98) rfl rfl d_Mo_small_322 h fun v322 h => ?_
    refine ww_aload_n (pc := 325) g.1 d_Mo_small_325 rfl (lv_at hl 1 rfl) ?_
    refine ww_gL (pc := 326) g (k := 99) cl_Mo (pz rfl (by decide)) (by decide) (Or.inl kw_255) (f := 99) rfl rfl d_Mo_small_326 h fun v326 h => ?_
    refine ww_iload (pc := 329) g.1 d_Mo_small_329 (lv_at hl 5 rfl) ?_
    obtain ⟨v331, s, hc331, h⟩ := oB_of h
    refine ww_callS (pc := 331) (rest := [.long v326, .int v322, .long v320, .int v306, .ref (q.1 0 0)]) g cs_Mo_a (Or.inl kw_287) (ct_Mo_a hc331) ⟨by decide, by decide⟩ rfl hl.1 (Nat.le_of_ble_eq_true rfl) d_Mo_small_331 rfl ?_
    refine ww_st (st' := [.int v331, .long v326, .int v322, .long v320, .int v306, .ref (q.1 0 0)]) rfl ?_
    obtain ⟨v334, s, hc334, h⟩ := oB_of h
    refine ww_callV (pc := 334) (rest := []) g cv_Mo_index (Or.inl kw_426) cl_Mo (pz rfl (by decide)) (ct_Mo_index hc334) ⟨by decide, by decide⟩ rfl hl.1 (Nat.le_of_ble_eq_true rfl) d_Mo_small_334 rfl ?_
    refine ww_st (st' := []) rfl ?_
    refine ww_goto (pc := 337) (tgt := 516) g.1 d_Mo_small_337 (by decide) ?_
    exact ww_vretH (pc := 516) g h hR d_Mo_small_516
  have h := oC_neg c10_280 h
  by_cases c10_340 : l5 = 8 ∨ l5 = 10
  · have h := oC_pos c10_340 h
    rcases c10_340 with c | c
    · refine ww_tableIn (pc := 10) (tgt := 340) g.1 d_Mo_small_10 (by rw [c]; decide) (by rw [c]; decide) (by rw [c]; rfl) (by decide) ?_
      refine ww_aload_n (pc := 340) g.1 d_Mo_small_340 rfl (lv_at hl 1 rfl) ?_
      refine ww_aload_n (pc := 341) g.1 d_Mo_small_341 rfl (lv_at hl 2 rfl) ?_
      refine ww_iload_n (pc := 342) g.1 d_Mo_small_342 rfl (lv_at hl 3 rfl) ?_
      refine ww_iload_n (pc := 343) g.1 d_Mo_small_343 rfl (lv_at hl 4 rfl) ?_
      refine ww_iload (pc := 344) g.1 d_Mo_small_344 (lv_at hl 5 rfl) ?_
      obtain ⟨v346, s, hc346, h⟩ := oB_of h
      refine ww_callS (pc := 346) (rest := [.int l3, .int l2, .ref (q.1 28 l1), .ref (q.1 0 0)]) g cs_Mo_b (Or.inl kw_55) (ct_Mo_b hc346) ⟨by decide, by decide⟩ rfl hl.1 (Nat.le_of_ble_eq_true rfl) d_Mo_small_346 rfl ?_
      refine ww_st (st' := [.int v346, .int l3, .int l2, .ref (q.1 28 l1), .ref (q.1 0 0)]) rfl ?_
      obtain ⟨v349, s, hc349, h⟩ := oB_of h
      refine ww_callV (pc := 349) (rest := []) g cv_Mo_rk_ (Or.inl kw_425) cl_Mo (pz rfl (by decide)) (ct_Mo_rk_ hp0 hc349) ⟨by decide, by decide⟩ rfl hl.1 (Nat.le_of_ble_eq_true rfl) d_Mo_small_349 rfl ?_
      refine ww_st (st' := []) rfl ?_
      refine ww_aload_n (pc := 352) g.1 d_Mo_small_352 rfl (lv_at hl 1 rfl) ?_
      refine ww_gI (pc := 353) g (k := 98) cl_Mo (pz rfl (by decide)) (by decide) (Or.inl kw_254) (f := 98) rfl rfl d_Mo_small_353 h fun v353 h => ?_
      refine ww_istore (pc := 356) g.1 (lv' := [(9, .int v353), (8, .int v5), (0, .ref (q.1 0 0)), (1, .ref (q.1 28 l1)), (2, .int l2), (3, .int l3), (4, .int l4), (5, .int l5), (6, .ref (q.1 l6r l6)), (7, .int l7)]) d_Mo_small_356 hl (by decide) rfl fun ls hl => ?_
      refine ww_aload_n (pc := 358) g.1 d_Mo_small_358 rfl (lv_at hl 2 rfl) ?_
      refine ww_gL (pc := 359) g (k := 99) cl_Mo (pz rfl (by decide)) (by decide) (Or.inl kw_255) (f := 99) rfl rfl d_Mo_small_359 h fun v359 h => ?_
      refine ww_lstore (pc := 362) g.1 (lv' := [(10, .long v359), (9, .int v353), (8, .int v5), (0, .ref (q.1 0 0)), (1, .ref (q.1 28 l1)), (2, .int l2), (3, .int l3), (4, .int l4), (5, .int l5), (6, .ref (q.1 l6r l6)), (7, .int l7)]) d_Mo_small_362 hl (by decide) rfl fun ls hl => ?_
      refine ww_aload_n (pc := 364) g.1 d_Mo_small_364 rfl (lv_at hl 3 rfl) ?_
      refine ww_aload_n (pc := 365) g.1 d_Mo_small_365 rfl (lv_at hl 4 rfl) ?_
      refine ww_iload_n (pc := 366) g.1 d_Mo_small_366 rfl (lv_at hl 5 rfl) ?_
      refine ww_iload_n (pc := 367) g.1 d_Mo_small_367 rfl (lv_at hl 6 rfl) ?_
      refine ww_iload (pc := 368) g.1 d_Mo_small_368 (lv_at hl 7 rfl) ?_
      obtain ⟨v370, s, hc370, h⟩ := oB_of h
      refine ww_callS (pc := 370) (rest := [.int l3, .int l2, .ref (q.1 28 l1), .ref (q.1 0 0)]) g cs_Mo_c (Or.inl kw_317) (ct_Mo_c hc370) ⟨by decide, by decide⟩ rfl hl.1 (Nat.le_of_ble_eq_true rfl) d_Mo_small_370 rfl ?_
      refine ww_st (st' := [.int v370, .int l3, .int l2, .ref (q.1 28 l1), .ref (q.1 0 0)]) rfl ?_
      obtain ⟨v373, s, hc373, h⟩ := oB_of h
      refine ww_callV (pc := 373) (rest := []) g cv_Mo_rk_ (Or.inl kw_425) cl_Mo (pz rfl (by decide)) (ct_Mo_rk_ hp0 hc373) ⟨by decide, by decide⟩ rfl hl.1 (Nat.le_of_ble_eq_true rfl) d_Mo_small_373 rfl ?_
      refine ww_st (st' := []) rfl ?_
      refine ww_iload (pc := 376) g.1 d_Mo_small_376 (lv_at hl 8 rfl) ?_
      refine ww_bipush (pc := 378) g.1 (v := 8) d_Mo_small_378 (by decide) ?_
      refine ww_icmp_ne (pc := 380) (tgt := 425) g.1 d_Mo_small_380 (by decide) h (fun c h => ?_) (fun c h => ?_)
      · refine ww_aload_n (pc := 425) g.1 d_Mo_small_425 rfl (lv_at hl 3 rfl) ?_
        refine ww_aload (pc := 426) g.1 d_Mo_small_426 (lv_at hl 9 rfl) ?_
        refine ww_gR (pc := 428) g (k := 0) (cl_Va hp1) (vok_p hp1).1 (by rw [(vok_f hp1).1.2.2]; decide) (Or.inl kw_92) (f := (128 * l6r + 0)) (t := l6r + 1) rfl (vok_f hp1).2.1.1 (vok_f hp1).2.1.2 d_Mo_small_428 ?_
        refine ww_iload (pc := 431) g.1 d_Mo_small_431 (lv_at hl 10 rfl) ?_
        refine ww_ab (pc := 433) g (vok_p hp1).2.1 (vok_f hp1).2.2.2.2.1 (vok_n hp1).1 d_Mo_small_433 h fun v433 h => ?_
        refine ww_aload (pc := 434) g.1 d_Mo_small_434 (lv_at hl 9 rfl) ?_
        refine ww_gR (pc := 436) g (k := 1) (cl_Va hp1) (vok_p hp1).1 (by rw [(vok_f hp1).1.2.2]; decide) (Or.inl kw_95) (f := (128 * l6r + 1)) (t := l6r + 2) rfl (vok_f hp1).2.2.1.1 (vok_f hp1).2.2.1.2 d_Mo_small_436 ?_
        refine ww_iload (pc := 439) g.1 d_Mo_small_439 (lv_at hl 10 rfl) ?_
        refine ww_al (pc := 441) g (vok_p hp1).2.2 (vok_f hp1).2.2.2.2.2 (vok_n hp1).2 d_Mo_small_441 h fun v441 h => ?_
        refine ww_iload (pc := 442) g.1 d_Mo_small_442 (lv_at hl 1 rfl) ?_
        refine ww_lload (pc := 444) g.1 d_Mo_small_444 (lv_at hl 0 rfl) ?_
        refine ww_aload_n (pc := 446) g.1 d_Mo_small_446 rfl (lv_at hl 3 rfl) ?_
        refine ww_gI (pc := 447) g (k := 98) cl_Mo (pz rfl (by decide)) (by decide) (Or.inl kw_254) (f := 98) rfl rfl d_Mo_small_447 h fun v447 h => ?_
        refine ww_aload_n (pc := 450) g.1 d_Mo_small_450 rfl (lv_at hl 3 rfl) ?_
        refine ww_gL (pc := 451) g (k := 99) cl_Mo (pz rfl (by decide)) (by decide) (Or.inl kw_255) (f := 99) rfl rfl d_Mo_small_451 h fun v451 h => ?_
        obtain ⟨v454, s, hc454, h⟩ := oB_of h
        refine ww_callV (pc := 454) (rest := []) g cv_Mo_write (Or.inl kw_495) cl_Mo (pz rfl (by decide)) (ct_Mo_write hc454) ⟨by decide, by decide⟩ rfl hl.1 (Nat.le_of_ble_eq_true rfl) d_Mo_small_454 rfl ?_
        refine ww_st (st' := []) rfl ?_
        refine ww_goto (pc := 457) (tgt := 516) g.1 d_Mo_small_457 (by decide) ?_
        exact ww_vretH (pc := 516) g h hR d_Mo_small_516
      · refine ww_aload_n (pc := 383) g.1 d_Mo_small_383 rfl (lv_at hl 3 rfl) ?_
        refine ww_aload_n (pc := 384) g.1 d_Mo_small_384 rfl (lv_at hl 3 rfl) ?_
        refine ww_aload_n (pc := 385) g.1 d_Mo_small_385 rfl (lv_at hl 4 rfl) ?_
        refine ww_iload_n (pc := 386) g.1 d_Mo_small_386 rfl (lv_at hl 5 rfl) ?_
        refine ww_iload (pc := 387) g.1 d_Mo_small_387 (lv_at hl 7 rfl) ?_
        obtain ⟨v389, s, hc389, h⟩ := oB_of h
        refine ww_callS (pc := 389) (rest := [.int l2, .ref (q.1 28 l1), .ref (q.1 0 0), .ref (q.1 0 0)]) g cs_Mo_a (Or.inl kw_287) (ct_Mo_a hc389) ⟨by decide, by decide⟩ rfl hl.1 (Nat.le_of_ble_eq_true rfl) d_Mo_small_389 rfl ?_
        refine ww_st (st' := [.int v389, .int l2, .ref (q.1 28 l1), .ref (q.1 0 0), .ref (q.1 0 0)]) rfl ?_
        obtain ⟨v392, s, hc392, h⟩ := oB_of h
        refine ww_callV (pc := 392) (rest := [.ref (q.1 0 0)]) g cv_Mo_up (Or.inl kw_494) cl_Mo (pz rfl (by decide)) (ct_Mo_up hp0 hc392) ⟨by decide, by decide⟩ rfl hl.1 (Nat.le_of_ble_eq_true rfl) d_Mo_small_392 rfl ?_
        refine ww_st (st' := [.int v392, .ref (q.1 0 0)]) rfl ?_
        obtain ⟨v395, s, hc395, h⟩ := oB_of h
        refine ww_callV (pc := 395) (rest := []) g cv_Mo_load_ (Or.inl kw_100) cl_Mo (pz rfl (by decide)) (ct_Mo_load_ hc395) ⟨by decide, by decide⟩ rfl hl.1 (Nat.le_of_ble_eq_true rfl) d_Mo_small_395 rfl ?_
        refine ww_st (st' := []) rfl ?_
        refine ww_aload_n (pc := 398) g.1 d_Mo_small_398 rfl (lv_at hl 3 rfl) ?_
        refine ww_aload_n (pc := 399) g.1 d_Mo_small_399 rfl (lv_at hl 3 rfl) ?_
        refine ww_gI (pc := 400) g (k := 66) cl_Mo (pz rfl (by decide)) (by decide) (Or.inl kw_94) (f := 66) rfl rfl d_Mo_small_400 h fun v400 h => ?_
        refine ww_aload_n (pc := 403) g.1 d_Mo_small_403 rfl (lv_at hl 3 rfl) ?_
        refine ww_gL (pc := 404) g (k := 67) cl_Mo (pz rfl (by decide)) (by decide) (Or.inl kw_96) (f := 67) rfl rfl d_Mo_small_404 h fun v404 h => ?_
        refine ww_iload (pc := 407) g.1 d_Mo_small_407 (lv_at hl 1 rfl) ?_
        refine ww_lload (pc := 409) g.1 d_Mo_small_409 (lv_at hl 0 rfl) ?_
        refine ww_aload_n (pc := 411) g.1 d_Mo_small_411 rfl (lv_at hl 3 rfl) ?_
        refine ww_gI (pc := 412) g (k := 98) cl_Mo (pz rfl (by decide)) (by decide) (Or.inl kw_254) (f := 98) rfl rfl d_Mo_small_412 h fun v412 h => ?_
        refine ww_aload_n (pc := 415) g.1 d_Mo_small_415 rfl (lv_at hl 3 rfl) ?_
        refine ww_gL (pc := 416) g (k := 99) cl_Mo (pz rfl (by decide)) (by decide) (Or.inl kw_255) (f := 99) rfl rfl d_Mo_small_416 h fun v416 h => ?_
        obtain ⟨v419, s, hc419, h⟩ := oB_of h
        refine ww_callV (pc := 419) (rest := []) g cv_Mo_write (Or.inl kw_495) cl_Mo (pz rfl (by decide)) (ct_Mo_write hc419) ⟨by decide, by decide⟩ rfl hl.1 (Nat.le_of_ble_eq_true rfl) d_Mo_small_419 rfl ?_
        refine ww_st (st' := []) rfl ?_
        refine ww_goto (pc := 422) (tgt := 516) g.1 d_Mo_small_422 (by decide) ?_
        exact ww_vretH (pc := 516) g h hR d_Mo_small_516
    · refine ww_tableIn (pc := 10) (tgt := 340) g.1 d_Mo_small_10 (by rw [c]; decide) (by rw [c]; decide) (by rw [c]; rfl) (by decide) ?_
      refine ww_aload_n (pc := 340) g.1 d_Mo_small_340 rfl (lv_at hl 1 rfl) ?_
      refine ww_aload_n (pc := 341) g.1 d_Mo_small_341 rfl (lv_at hl 2 rfl) ?_
      refine ww_iload_n (pc := 342) g.1 d_Mo_small_342 rfl (lv_at hl 3 rfl) ?_
      refine ww_iload_n (pc := 343) g.1 d_Mo_small_343 rfl (lv_at hl 4 rfl) ?_
      refine ww_iload (pc := 344) g.1 d_Mo_small_344 (lv_at hl 5 rfl) ?_
      obtain ⟨v346, s, hc346, h⟩ := oB_of h
      refine ww_callS (pc := 346) (rest := [.int l3, .int l2, .ref (q.1 28 l1), .ref (q.1 0 0)]) g cs_Mo_b (Or.inl kw_55) (ct_Mo_b hc346) ⟨by decide, by decide⟩ rfl hl.1 (Nat.le_of_ble_eq_true rfl) d_Mo_small_346 rfl ?_
      refine ww_st (st' := [.int v346, .int l3, .int l2, .ref (q.1 28 l1), .ref (q.1 0 0)]) rfl ?_
      obtain ⟨v349, s, hc349, h⟩ := oB_of h
      refine ww_callV (pc := 349) (rest := []) g cv_Mo_rk_ (Or.inl kw_425) cl_Mo (pz rfl (by decide)) (ct_Mo_rk_ hp0 hc349) ⟨by decide, by decide⟩ rfl hl.1 (Nat.le_of_ble_eq_true rfl) d_Mo_small_349 rfl ?_
      refine ww_st (st' := []) rfl ?_
      refine ww_aload_n (pc := 352) g.1 d_Mo_small_352 rfl (lv_at hl 1 rfl) ?_
      refine ww_gI (pc := 353) g (k := 98) cl_Mo (pz rfl (by decide)) (by decide) (Or.inl kw_254) (f := 98) rfl rfl d_Mo_small_353 h fun v353 h => ?_
      refine ww_istore (pc := 356) g.1 (lv' := [(9, .int v353), (8, .int v5), (0, .ref (q.1 0 0)), (1, .ref (q.1 28 l1)), (2, .int l2), (3, .int l3), (4, .int l4), (5, .int l5), (6, .ref (q.1 l6r l6)), (7, .int l7)]) d_Mo_small_356 hl (by decide) rfl fun ls hl => ?_
      refine ww_aload_n (pc := 358) g.1 d_Mo_small_358 rfl (lv_at hl 2 rfl) ?_
      refine ww_gL (pc := 359) g (k := 99) cl_Mo (pz rfl (by decide)) (by decide) (Or.inl kw_255) (f := 99) rfl rfl d_Mo_small_359 h fun v359 h => ?_
      refine ww_lstore (pc := 362) g.1 (lv' := [(10, .long v359), (9, .int v353), (8, .int v5), (0, .ref (q.1 0 0)), (1, .ref (q.1 28 l1)), (2, .int l2), (3, .int l3), (4, .int l4), (5, .int l5), (6, .ref (q.1 l6r l6)), (7, .int l7)]) d_Mo_small_362 hl (by decide) rfl fun ls hl => ?_
      refine ww_aload_n (pc := 364) g.1 d_Mo_small_364 rfl (lv_at hl 3 rfl) ?_
      refine ww_aload_n (pc := 365) g.1 d_Mo_small_365 rfl (lv_at hl 4 rfl) ?_
      refine ww_iload_n (pc := 366) g.1 d_Mo_small_366 rfl (lv_at hl 5 rfl) ?_
      refine ww_iload_n (pc := 367) g.1 d_Mo_small_367 rfl (lv_at hl 6 rfl) ?_
      refine ww_iload (pc := 368) g.1 d_Mo_small_368 (lv_at hl 7 rfl) ?_
      obtain ⟨v370, s, hc370, h⟩ := oB_of h
      refine ww_callS (pc := 370) (rest := [.int l3, .int l2, .ref (q.1 28 l1), .ref (q.1 0 0)]) g cs_Mo_c (Or.inl kw_317) (ct_Mo_c hc370) ⟨by decide, by decide⟩ rfl hl.1 (Nat.le_of_ble_eq_true rfl) d_Mo_small_370 rfl ?_
      refine ww_st (st' := [.int v370, .int l3, .int l2, .ref (q.1 28 l1), .ref (q.1 0 0)]) rfl ?_
      obtain ⟨v373, s, hc373, h⟩ := oB_of h
      refine ww_callV (pc := 373) (rest := []) g cv_Mo_rk_ (Or.inl kw_425) cl_Mo (pz rfl (by decide)) (ct_Mo_rk_ hp0 hc373) ⟨by decide, by decide⟩ rfl hl.1 (Nat.le_of_ble_eq_true rfl) d_Mo_small_373 rfl ?_
      refine ww_st (st' := []) rfl ?_
      refine ww_iload (pc := 376) g.1 d_Mo_small_376 (lv_at hl 8 rfl) ?_
      refine ww_bipush (pc := 378) g.1 (v := 8) d_Mo_small_378 (by decide) ?_
      refine ww_icmp_ne (pc := 380) (tgt := 425) g.1 d_Mo_small_380 (by decide) h (fun c h => ?_) (fun c h => ?_)
      · refine ww_aload_n (pc := 425) g.1 d_Mo_small_425 rfl (lv_at hl 3 rfl) ?_
        refine ww_aload (pc := 426) g.1 d_Mo_small_426 (lv_at hl 9 rfl) ?_
        refine ww_gR (pc := 428) g (k := 0) (cl_Va hp1) (vok_p hp1).1 (by rw [(vok_f hp1).1.2.2]; decide) (Or.inl kw_92) (f := (128 * l6r + 0)) (t := l6r + 1) rfl (vok_f hp1).2.1.1 (vok_f hp1).2.1.2 d_Mo_small_428 ?_
        refine ww_iload (pc := 431) g.1 d_Mo_small_431 (lv_at hl 10 rfl) ?_
        refine ww_ab (pc := 433) g (vok_p hp1).2.1 (vok_f hp1).2.2.2.2.1 (vok_n hp1).1 d_Mo_small_433 h fun v433 h => ?_
        refine ww_aload (pc := 434) g.1 d_Mo_small_434 (lv_at hl 9 rfl) ?_
        refine ww_gR (pc := 436) g (k := 1) (cl_Va hp1) (vok_p hp1).1 (by rw [(vok_f hp1).1.2.2]; decide) (Or.inl kw_95) (f := (128 * l6r + 1)) (t := l6r + 2) rfl (vok_f hp1).2.2.1.1 (vok_f hp1).2.2.1.2 d_Mo_small_436 ?_
        refine ww_iload (pc := 439) g.1 d_Mo_small_439 (lv_at hl 10 rfl) ?_
        refine ww_al (pc := 441) g (vok_p hp1).2.2 (vok_f hp1).2.2.2.2.2 (vok_n hp1).2 d_Mo_small_441 h fun v441 h => ?_
        refine ww_iload (pc := 442) g.1 d_Mo_small_442 (lv_at hl 1 rfl) ?_
        refine ww_lload (pc := 444) g.1 d_Mo_small_444 (lv_at hl 0 rfl) ?_
        refine ww_aload_n (pc := 446) g.1 d_Mo_small_446 rfl (lv_at hl 3 rfl) ?_
        refine ww_gI (pc := 447) g (k := 98) cl_Mo (pz rfl (by decide)) (by decide) (Or.inl kw_254) (f := 98) rfl rfl d_Mo_small_447 h fun v447 h => ?_
        refine ww_aload_n (pc := 450) g.1 d_Mo_small_450 rfl (lv_at hl 3 rfl) ?_
        refine ww_gL (pc := 451) g (k := 99) cl_Mo (pz rfl (by decide)) (by decide) (Or.inl kw_255) (f := 99) rfl rfl d_Mo_small_451 h fun v451 h => ?_
        obtain ⟨v454, s, hc454, h⟩ := oB_of h
        refine ww_callV (pc := 454) (rest := []) g cv_Mo_write (Or.inl kw_495) cl_Mo (pz rfl (by decide)) (ct_Mo_write hc454) ⟨by decide, by decide⟩ rfl hl.1 (Nat.le_of_ble_eq_true rfl) d_Mo_small_454 rfl ?_
        refine ww_st (st' := []) rfl ?_
        refine ww_goto (pc := 457) (tgt := 516) g.1 d_Mo_small_457 (by decide) ?_
        exact ww_vretH (pc := 516) g h hR d_Mo_small_516
      · refine ww_aload_n (pc := 383) g.1 d_Mo_small_383 rfl (lv_at hl 3 rfl) ?_
        refine ww_aload_n (pc := 384) g.1 d_Mo_small_384 rfl (lv_at hl 3 rfl) ?_
        refine ww_aload_n (pc := 385) g.1 d_Mo_small_385 rfl (lv_at hl 4 rfl) ?_
        refine ww_iload_n (pc := 386) g.1 d_Mo_small_386 rfl (lv_at hl 5 rfl) ?_
        refine ww_iload (pc := 387) g.1 d_Mo_small_387 (lv_at hl 7 rfl) ?_
        obtain ⟨v389, s, hc389, h⟩ := oB_of h
        refine ww_callS (pc := 389) (rest := [.int l2, .ref (q.1 28 l1), .ref (q.1 0 0), .ref (q.1 0 0)]) g cs_Mo_a (Or.inl kw_287) (ct_Mo_a hc389) ⟨by decide, by decide⟩ rfl hl.1 (Nat.le_of_ble_eq_true rfl) d_Mo_small_389 rfl ?_
        refine ww_st (st' := [.int v389, .int l2, .ref (q.1 28 l1), .ref (q.1 0 0), .ref (q.1 0 0)]) rfl ?_
        obtain ⟨v392, s, hc392, h⟩ := oB_of h
        refine ww_callV (pc := 392) (rest := [.ref (q.1 0 0)]) g cv_Mo_up (Or.inl kw_494) cl_Mo (pz rfl (by decide)) (ct_Mo_up hp0 hc392) ⟨by decide, by decide⟩ rfl hl.1 (Nat.le_of_ble_eq_true rfl) d_Mo_small_392 rfl ?_
        refine ww_st (st' := [.int v392, .ref (q.1 0 0)]) rfl ?_
        obtain ⟨v395, s, hc395, h⟩ := oB_of h
        refine ww_callV (pc := 395) (rest := []) g cv_Mo_load_ (Or.inl kw_100) cl_Mo (pz rfl (by decide)) (ct_Mo_load_ hc395) ⟨by decide, by decide⟩ rfl hl.1 (Nat.le_of_ble_eq_true rfl) d_Mo_small_395 rfl ?_
        refine ww_st (st' := []) rfl ?_
        refine ww_aload_n (pc := 398) g.1 d_Mo_small_398 rfl (lv_at hl 3 rfl) ?_
        refine ww_aload_n (pc := 399) g.1 d_Mo_small_399 rfl (lv_at hl 3 rfl) ?_
        refine ww_gI (pc := 400) g (k := 66) cl_Mo (pz rfl (by decide)) (by decide) (Or.inl kw_94) (f := 66) rfl rfl d_Mo_small_400 h fun v400 h => ?_
        refine ww_aload_n (pc := 403) g.1 d_Mo_small_403 rfl (lv_at hl 3 rfl) ?_
        refine ww_gL (pc := 404) g (k := 67) cl_Mo (pz rfl (by decide)) (by decide) (Or.inl kw_96) (f := 67) rfl rfl d_Mo_small_404 h fun v404 h => ?_
        refine ww_iload (pc := 407) g.1 d_Mo_small_407 (lv_at hl 1 rfl) ?_
        refine ww_lload (pc := 409) g.1 d_Mo_small_409 (lv_at hl 0 rfl) ?_
        refine ww_aload_n (pc := 411) g.1 d_Mo_small_411 rfl (lv_at hl 3 rfl) ?_
        refine ww_gI (pc := 412) g (k := 98) cl_Mo (pz rfl (by decide)) (by decide) (Or.inl kw_254) (f := 98) rfl rfl d_Mo_small_412 h fun v412 h => ?_
        refine ww_aload_n (pc := 415) g.1 d_Mo_small_415 rfl (lv_at hl 3 rfl) ?_
        refine ww_gL (pc := 416) g (k := 99) cl_Mo (pz rfl (by decide)) (by decide) (Or.inl kw_255) (f := 99) rfl rfl d_Mo_small_416 h fun v416 h => ?_
        obtain ⟨v419, s, hc419, h⟩ := oB_of h
        refine ww_callV (pc := 419) (rest := []) g cv_Mo_write (Or.inl kw_495) cl_Mo (pz rfl (by decide)) (ct_Mo_write hc419) ⟨by decide, by decide⟩ rfl hl.1 (Nat.le_of_ble_eq_true rfl) d_Mo_small_419 rfl ?_
        refine ww_st (st' := []) rfl ?_
        refine ww_goto (pc := 422) (tgt := 516) g.1 d_Mo_small_422 (by decide) ?_
        exact ww_vretH (pc := 516) g h hR d_Mo_small_516
  have h := oC_neg c10_340 h
  by_cases c10_460 : l5 = 9
  · have h := oC_pos c10_460 h
    have c := c10_460
    refine ww_tableIn (pc := 10) (tgt := 460) g.1 d_Mo_small_10 (by rw [c]; decide) (by rw [c]; decide) (by rw [c]; rfl) (by decide) ?_
    refine ww_aload_n (pc := 460) g.1 d_Mo_small_460 rfl (lv_at hl 1 rfl) ?_
    refine ww_aload_n (pc := 461) g.1 d_Mo_small_461 rfl (lv_at hl 1 rfl) ?_
    refine ww_aload_n (pc := 462) g.1 d_Mo_small_462 rfl (lv_at hl 2 rfl) ?_
    refine ww_iload_n (pc := 463) g.1 d_Mo_small_463 rfl (lv_at hl 3 rfl) ?_
    refine ww_iload (pc := 464) g.1 d_Mo_small_464 (lv_at hl 5 rfl) ?_
    obtain ⟨v466, s, hc466, h⟩ := oB_of h
    refine ww_callS (pc := 466) (rest := [.int l2, .ref (q.1 28 l1), .ref (q.1 0 0), .ref (q.1 0 0)]) g cs_Mo_b (Or.inl kw_55) (ct_Mo_b hc466) ⟨by decide, by decide⟩ rfl hl.1 (Nat.le_of_ble_eq_true rfl) d_Mo_small_466 rfl ?_
    refine ww_st (st' := [.int v466, .int l2, .ref (q.1 28 l1), .ref (q.1 0 0), .ref (q.1 0 0)]) rfl ?_
    obtain ⟨v469, s, hc469, h⟩ := oB_of h
    refine ww_callV (pc := 469) (rest := [.ref (q.1 0 0)]) g cv_Mo_up (Or.inl kw_494) cl_Mo (pz rfl (by decide)) (ct_Mo_up hp0 hc469) ⟨by decide, by decide⟩ rfl hl.1 (Nat.le_of_ble_eq_true rfl) d_Mo_small_469 rfl ?_
    refine ww_st (st' := [.int v469, .ref (q.1 0 0)]) rfl ?_
    refine ww_aload (pc := 472) g.1 d_Mo_small_472 (lv_at hl 7 rfl) ?_
    refine ww_gR (pc := 474) g (k := 0) (cl_Va hp1) (vok_p hp1).1 (by rw [(vok_f hp1).1.2.2]; decide) (Or.inl kw_92) (f := (128 * l6r + 0)) (t := l6r + 1) rfl (vok_f hp1).2.1.1 (vok_f hp1).2.1.2 d_Mo_small_474 ?_
    refine ww_iload (pc := 477) g.1 d_Mo_small_477 (lv_at hl 8 rfl) ?_
    refine ww_ab (pc := 479) g (vok_p hp1).2.1 (vok_f hp1).2.2.2.2.1 (vok_n hp1).1 d_Mo_small_479 h fun v479 h => ?_
    refine ww_aload (pc := 480) g.1 d_Mo_small_480 (lv_at hl 7 rfl) ?_
    refine ww_gR (pc := 482) g (k := 1) (cl_Va hp1) (vok_p hp1).1 (by rw [(vok_f hp1).1.2.2]; decide) (Or.inl kw_95) (f := (128 * l6r + 1)) (t := l6r + 2) rfl (vok_f hp1).2.2.1.1 (vok_f hp1).2.2.1.2 d_Mo_small_482 ?_
    refine ww_iload (pc := 485) g.1 d_Mo_small_485 (lv_at hl 8 rfl) ?_
    refine ww_al (pc := 487) g (vok_p hp1).2.2 (vok_f hp1).2.2.2.2.2 (vok_n hp1).2 d_Mo_small_487 h fun v487 h => ?_
    obtain ⟨v488, s, hc488, h⟩ := oB_of h
    refine ww_callV (pc := 488) (rest := []) g cv_Mo_store (Or.inl kw_496) cl_Mo (pz rfl (by decide)) (ct_Mo_store hc488) ⟨by decide, by decide⟩ rfl hl.1 (Nat.le_of_ble_eq_true rfl) d_Mo_small_488 rfl ?_
    refine ww_st (st' := []) rfl ?_
    refine ww_goto (pc := 491) (tgt := 516) g.1 d_Mo_small_491 (by decide) ?_
    exact ww_vretH (pc := 516) g h hR d_Mo_small_516
  have h := oC_neg c10_460 h
  have n_0 : ¬ l5.toInt = 0 := lv_neT (fun e => c10_68 e) rfl
  have n_1 : ¬ l5.toInt = 1 := lv_neT (fun e => c10_88 e) rfl
  have n_3 : ¬ l5.toInt = 3 := lv_neT (fun e => c10_116 e) rfl
  have n_4 : ¬ l5.toInt = 4 := lv_neT (fun e => c10_158 e) rfl
  have n_5 : ¬ l5.toInt = 5 := lv_neT (fun e => c10_192 e) rfl
  have n_6 : ¬ l5.toInt = 6 := lv_neT (fun e => c10_225 e) rfl
  have n_7 : ¬ l5.toInt = 7 := lv_neT (fun e => c10_280 e) rfl
  have n_8 : ¬ l5.toInt = 8 := lv_neT (fun e => c10_340 (Or.inl e)) rfl
  have n_10 : ¬ l5.toInt = 10 := lv_neT (fun e => c10_340 (Or.inr (e))) rfl
  have n_9 : ¬ l5.toInt = 9 := lv_neT (fun e => c10_460 e) rfl
  by_cases hr : l5.toInt < 0 ∨ 10 < l5.toInt
  · refine ww_tableOut (pc := 10) (tgt := 494) g.1 d_Mo_small_10 hr (by decide) ?_
    refine ww_aload_n (pc := 494) g.1 d_Mo_small_494 rfl (lv_at hl 1 rfl) ?_
    obtain ⟨v495, s, hc495, h⟩ := oB_of h
    refine ww_callV (pc := 495) (rest := []) g cv_Mo_table (Or.inl kw_497) cl_Mo (pz rfl (by decide)) (ct_Mo_table hc495) ⟨by decide, by decide⟩ rfl hl.1 (Nat.le_of_ble_eq_true rfl) d_Mo_small_495 rfl ?_
    refine ww_st (st' := [.int v495]) rfl ?_
    refine ww_istore (pc := 498) g.1 (lv' := [(12, .int v495), (8, .int v5), (0, .ref (q.1 0 0)), (1, .ref (q.1 28 l1)), (2, .int l2), (3, .int l3), (4, .int l4), (5, .int l5), (6, .ref (q.1 l6r l6)), (7, .int l7)]) d_Mo_small_498 hl (by decide) rfl fun ls hl => ?_
    refine ww_iload (pc := 500) g.1 d_Mo_small_500 (lv_at hl 0 rfl) ?_
    refine ww_if_lt (pc := 502) (tgt := 516) g.1 d_Mo_small_502 (by decide) h (fun c h => ?_) (fun c h => ?_)
    · exact ww_vretH (pc := 516) g h hR d_Mo_small_516
    · refine ww_aload (pc := 505) g.1 d_Mo_small_505 (lv_at hl 8 rfl) ?_
      refine ww_iload (pc := 507) g.1 d_Mo_small_507 (lv_at hl 9 rfl) ?_
      refine ww_iconst (pc := 509) g.1 (v := 5) d_Mo_small_509 (by decide) ?_
      refine ww_iload (pc := 510) g.1 d_Mo_small_510 (lv_at hl 0 rfl) ?_
      refine ww_i2l (pc := 512) g.1 (v := v495.toInt64) d_Mo_small_512 rfl ?_
      obtain ⟨v513, s, hc513, h⟩ := oB_of h
      refine ww_callV (pc := 513) (rest := []) g cv_Va_set (Or.inl kw_101) (cl_Va hp1) (vok_p hp1).1 (ct_Va_set hp1 hc513) ⟨by decide, by decide⟩ rfl hl.1 (Nat.le_of_ble_eq_true rfl) d_Mo_small_513 rfl ?_
      refine ww_st (st' := []) rfl ?_
      exact ww_vretH (pc := 516) g h hR d_Mo_small_516
  have hh : l5.toInt = 2 := by omega
  rcases hh with c
  refine ww_tableIn (pc := 10) (tgt := 494) g.1 d_Mo_small_10 (by rw [c]; decide) (by rw [c]; decide) (by rw [c]; rfl) (by decide) ?_
  refine ww_aload_n (pc := 494) g.1 d_Mo_small_494 rfl (lv_at hl 1 rfl) ?_
  obtain ⟨v495, s, hc495, h⟩ := oB_of h
  refine ww_callV (pc := 495) (rest := []) g cv_Mo_table (Or.inl kw_497) cl_Mo (pz rfl (by decide)) (ct_Mo_table hc495) ⟨by decide, by decide⟩ rfl hl.1 (Nat.le_of_ble_eq_true rfl) d_Mo_small_495 rfl ?_
  refine ww_st (st' := [.int v495]) rfl ?_
  refine ww_istore (pc := 498) g.1 (lv' := [(12, .int v495), (8, .int v5), (0, .ref (q.1 0 0)), (1, .ref (q.1 28 l1)), (2, .int l2), (3, .int l3), (4, .int l4), (5, .int l5), (6, .ref (q.1 l6r l6)), (7, .int l7)]) d_Mo_small_498 hl (by decide) rfl fun ls hl => ?_
  refine ww_iload (pc := 500) g.1 d_Mo_small_500 (lv_at hl 0 rfl) ?_
  refine ww_if_lt (pc := 502) (tgt := 516) g.1 d_Mo_small_502 (by decide) h (fun c h => ?_) (fun c h => ?_)
  · exact ww_vretH (pc := 516) g h hR d_Mo_small_516
  · refine ww_aload (pc := 505) g.1 d_Mo_small_505 (lv_at hl 8 rfl) ?_
    refine ww_iload (pc := 507) g.1 d_Mo_small_507 (lv_at hl 9 rfl) ?_
    refine ww_iconst (pc := 509) g.1 (v := 5) d_Mo_small_509 (by decide) ?_
    refine ww_iload (pc := 510) g.1 d_Mo_small_510 (lv_at hl 0 rfl) ?_
    refine ww_i2l (pc := 512) g.1 (v := v495.toInt64) d_Mo_small_512 rfl ?_
    obtain ⟨v513, s, hc513, h⟩ := oB_of h
    refine ww_callV (pc := 513) (rest := []) g cv_Va_set (Or.inl kw_101) (cl_Va hp1) (vok_p hp1).1 (ct_Va_set hp1 hc513) ⟨by decide, by decide⟩ rfl hl.1 (Nat.le_of_ble_eq_true rfl) d_Mo_small_513 rfl ?_
    refine ww_st (st' := []) rfl ?_
    exact ww_vretH (pc := 516) g h hR d_Mo_small_516

