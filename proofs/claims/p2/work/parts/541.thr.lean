set_option maxRecDepth 20000 in
theorem xo_1 : ∀ w ∈ (Bundle.ownAtoms0 R_LM 65 "java/lang/IllegalStateException" ["java/lang/RuntimeException", "java/lang/Exception"]).filter goodWord, w ∈ wA := by decide +kernel
set_option maxRecDepth 20000 in
theorem xn_1 : ∀ w ∈ (Bundle.ownAtoms0 R_LM 65 "java/lang/IllegalStateException" ["java/lang/RuntimeException", "java/lang/Exception"]).filter (fun w => !goodWord w), w ∈ xFour ∨ (w ∈ xW ∧ w.onTables = true) := by decide +kernel
set_option maxRecDepth 20000 in
theorem xo_2 : ∀ w ∈ (Bundle.ownAtoms0 R_LM 76 "java/lang/IllegalArgumentException" ["java/lang/RuntimeException", "java/lang/Exception"]).filter goodWord, w ∈ wA := by decide +kernel
set_option maxRecDepth 20000 in
theorem xn_2 : ∀ w ∈ (Bundle.ownAtoms0 R_LM 76 "java/lang/IllegalArgumentException" ["java/lang/RuntimeException", "java/lang/Exception"]).filter (fun w => !goodWord w), w ∈ xFour ∨ (w ∈ xW ∧ w.onTables = true) := by decide +kernel
set_option maxRecDepth 20000 in
theorem xo_3 : ∀ w ∈ (Bundle.ownAtoms0 R_LM 91 "java/lang/UnsupportedOperationException" ["java/lang/RuntimeException", "java/lang/Exception"]).filter goodWord, w ∈ wA := by decide +kernel
set_option maxRecDepth 20000 in
theorem xn_3 : ∀ w ∈ (Bundle.ownAtoms0 R_LM 91 "java/lang/UnsupportedOperationException" ["java/lang/RuntimeException", "java/lang/Exception"]).filter (fun w => !goodWord w), w ∈ xFour ∨ (w ∈ xW ∧ w.onTables = true) := by decide +kernel
set_option maxRecDepth 20000 in
theorem xo_4 : ∀ w ∈ (Bundle.ownAtoms0 R_LM 151 "java/lang/IndexOutOfBoundsException" ["java/lang/RuntimeException", "java/lang/Exception"]).filter goodWord, w ∈ wA := by decide +kernel
set_option maxRecDepth 20000 in
theorem xn_4 : ∀ w ∈ (Bundle.ownAtoms0 R_LM 151 "java/lang/IndexOutOfBoundsException" ["java/lang/RuntimeException", "java/lang/Exception"]).filter (fun w => !goodWord w), w ∈ xFour ∨ (w ∈ xW ∧ w.onTables = true) := by decide +kernel
theorem kt_0 : Cond.classLink R_LM 63 "java/lang/IllegalStateException" ∈ wA := kinm (show _ ∈ tables_1 from (List.mem_append_right _ (List.mem_append_right _ (List.mem_append_left _ (List.mem_of_getElem? (l := tables_1_3) (i := 5) (by decide +kernel)))))) (by decide +kernel)
theorem kt_1 : Cond.initialized "java/lang/IllegalStateException" ∈ wA := kinm (show _ ∈ tables_1 from (List.mem_append_left _ (List.mem_of_getElem? (l := tables_1_1) (i := 15) (by decide +kernel)))) (by decide +kernel)
theorem kt_2 : Cond.instantiable "java/lang/IllegalStateException" 6 ∈ wA := kinm (show _ ∈ tables_1 from (List.mem_append_right _ (List.mem_append_right _ (List.mem_append_left _ (List.mem_of_getElem? (l := tables_1_3) (i := 6) (by decide +kernel)))))) (by decide +kernel)
theorem kt_3 : Cond.classLink R_LM 74 "java/lang/IllegalArgumentException" ∈ wA := kinm (show _ ∈ tables_1 from (List.mem_append_right _ (List.mem_append_right _ (List.mem_append_left _ (List.mem_of_getElem? (l := tables_1_3) (i := 83) (by decide +kernel)))))) (by decide +kernel)
theorem kt_4 : Cond.initialized "java/lang/IllegalArgumentException" ∈ wA := kinm (show _ ∈ tables_1 from (List.mem_append_left _ (List.mem_of_getElem? (l := tables_1_1) (i := 16) (by decide +kernel)))) (by decide +kernel)
theorem kt_5 : Cond.instantiable "java/lang/IllegalArgumentException" 6 ∈ wA := kinm (show _ ∈ tables_1 from (List.mem_append_right _ (List.mem_append_right _ (List.mem_append_left _ (List.mem_of_getElem? (l := tables_1_3) (i := 84) (by decide +kernel)))))) (by decide +kernel)
theorem kt_6 : Cond.classLink R_LM 89 "java/lang/UnsupportedOperationException" ∈ wA := kinm (show _ ∈ tables_1 from (List.mem_append_right _ (List.mem_append_right _ (List.mem_append_right _ (List.mem_append_left _ (List.mem_of_getElem? (l := tables_1_4) (i := 55) (by decide +kernel))))))) (by decide +kernel)
theorem kt_7 : Cond.initialized "java/lang/UnsupportedOperationException" ∈ wA := kinm (show _ ∈ tables_1 from (List.mem_append_left _ (List.mem_of_getElem? (l := tables_1_1) (i := 23) (by decide +kernel)))) (by decide +kernel)
theorem kt_8 : Cond.instantiable "java/lang/UnsupportedOperationException" 6 ∈ wA := kinm (show _ ∈ tables_1 from (List.mem_append_right _ (List.mem_append_right _ (List.mem_append_right _ (List.mem_append_left _ (List.mem_of_getElem? (l := tables_1_4) (i := 56) (by decide +kernel))))))) (by decide +kernel)
theorem kt_9 : Cond.classLink R_LM 149 "java/lang/IndexOutOfBoundsException" ∈ wA := kinm (show _ ∈ tables_1 from (List.mem_append_right _ (List.mem_append_right _ (List.mem_append_right _ (List.mem_append_right _ (List.mem_append_right _ (List.mem_append_right _ (List.mem_append_right _ (List.mem_append_right _ (List.mem_append_left _ (List.mem_of_getElem? (l := tables_1_9) (i := 72) (by decide +kernel)))))))))))) (by decide +kernel)
theorem kt_10 : Cond.initialized "java/lang/IndexOutOfBoundsException" ∈ wA := kinm (show _ ∈ tables_1 from (List.mem_append_left _ (List.mem_of_getElem? (l := tables_1_1) (i := 30) (by decide +kernel)))) (by decide +kernel)
theorem kt_11 : Cond.instantiable "java/lang/IndexOutOfBoundsException" 6 ∈ wA := kinm (show _ ∈ tables_1 from (List.mem_append_right _ (List.mem_append_right _ (List.mem_append_right _ (List.mem_append_right _ (List.mem_append_right _ (List.mem_append_right _ (List.mem_append_right _ (List.mem_append_right _ (List.mem_append_left _ (List.mem_of_getElem? (l := tables_1_9) (i := 73) (by decide +kernel)))))))))))) (by decide +kernel)
/-! The methods of the face that throw. 1 IllegalState, 2 IllegalArgument, 3 UnsupportedOperation, 4 IndexOutOfBounds. -/
def exN (k : Int32) : String := if k = 1 then "java/lang/IllegalStateException" else if k = 2 then "java/lang/IllegalArgumentException" else if k = 3 then "java/lang/UnsupportedOperationException" else "java/lang/IndexOutOfBoundsException"
theorem exN_1 : exN 1 = "java/lang/IllegalStateException" := by decide
theorem exN_2 : exN 2 = "java/lang/IllegalArgumentException" := by decide
theorem exN_3 : exN 3 = "java/lang/UnsupportedOperationException" := by decide
theorem exN_4 : exN 4 = "java/lang/IndexOutOfBoundsException" := by decide
theorem td_R {β : Type} {v : β} {k : Int32} {s s' : S1} (h : oR (Sum.inr v : Int32 ⊕ β) s = some (Sum.inl k, s')) : False := by
  unfold oR at h
  cases h
theorem td_X {β : Type} {v : β} {k : Int32} {n n1 : Nat × Nat} {s s' : S1} (h : oR ((Sum.inr v : Int32 ⊕ β), n) s = some ((Sum.inl k, n1), s')) : False := by
  unfold oR at h
  cases h
theorem td_B {α β : Type} {f : M α} {g : α → β} {k : Int32} {s s' : S1} (h : oB f (fun v => oR (Sum.inr (g v) : Int32 ⊕ β)) s = some (Sum.inl k, s')) : False := by
  obtain ⟨a, s1, -, h⟩ := oB_of h
  exact td_R h
theorem td_BX {α β : Type} {f : M α} {g : α → β} {n : α → Nat × Nat} {n1 : Nat × Nat} {k : Int32} {s s' : S1} (h : oB f (fun v => oR ((Sum.inr (g v) : Int32 ⊕ β), n v)) s = some ((Sum.inl k, n1), s')) : False := by
  obtain ⟨a, s1, -, h⟩ := oB_of h
  exact td_X h
theorem ta_R {β : Type} {k' k : Int32} {s s' : S1} (h : oR (Sum.inl k' : Int32 ⊕ β) s = some (Sum.inl k, s')) : k = k' ∧ s' = s := by
  unfold oR at h
  cases h
  exact ⟨rfl, rfl⟩
theorem ta_X {β : Type} {k' k : Int32} {n n1 : Nat × Nat} {s s' : S1} (h : oR ((Sum.inl k' : Int32 ⊕ β), n) s = some ((Sum.inl k, n1), s')) : k = k' ∧ n1 = n ∧ s' = s := by
  unfold oR at h
  cases h
  exact ⟨rfl, rfl, rfl⟩
theorem tt_feed {l : Launch} (hst : l.stackTraces = false) {P : PP} {q : PL} {s s' : S1} {n : Nat × Nat} {l1 : Int32} {l2 : Int32} {l3 : Int32} {l4 : Int32} {l5 : Int32} {k : Int32} (hm : Rmq P q n) (hn : 1 ≤ n.1 ∧ 6 ≤ n.2) (h : X_feed l1 l2 l3 l4 l5 s = some (Sum.inl k, s')) : CtT l y_LM_feed b_LM_feed 6 (some .int) 7 90 P [] q s [.ref (q.1 100 0), .int l1, .int l2, .int l3, .int l4, .int l5] (exN k) n s' := by
  refine ctT_of hst (by decide) (Nat.le_of_ble_eq_true rfl) fun X ls eP el g hX hR hl => ?_
  subst eP
  have hl : lv_has ls 6 [(0, .ref (q.1 100 0)), (1, .int l1), (2, .int l2), (3, .int l3), (4, .int l4), (5, .int l5)] := hl
  unfold X_feed at h
  refine ww_aload_n (pc := 0) g.1 d_LM_feed_0 rfl (lv_at hl 0 rfl) ?_
  refine ww_gI (pc := 1) g (k := 0) cl_LM (pz rfl (by decide)) (by decide) (Or.inl kw_644) (f := 12800) rfl rfl d_LM_feed_1 h fun v1 h => ?_
  refine ww_bipush (pc := 4) g.1 (v := 20) d_LM_feed_4 (by decide) ?_
  refine ww_iadd (pc := 6) g.1 d_LM_feed_6 ?_
  refine ww_ldc (pc := 7) g (v := 65536) kw_1044 d_LM_feed_7 ?_
  refine ww_icmp_le (pc := 9) (tgt := 20) g.1 d_LM_feed_9 (by decide) h (fun c h => ?_) (fun c h => ?_)
  · refine ww_aload_n (pc := 20) g.1 d_LM_feed_20 rfl (lv_at hl 0 rfl) ?_
    refine ww_iload_n (pc := 21) g.1 d_LM_feed_21 rfl (lv_at hl 1 rfl) ?_
    obtain ⟨v22, s, hc22, h⟩ := oB_of h
    refine ww_callV (pc := 22) (rest := []) g cv_LM_putOnTape (Or.inl kw_1045) cl_LM (pz rfl (by decide)) (ct_LM_putOnTape hc22) ⟨by decide, by decide⟩ rfl hl.1 (Nat.le_of_ble_eq_true rfl) d_LM_feed_22 rfl (?_)
    refine ww_st (st' := []) rfl ?_
    refine ww_aload_n (pc := 25) g.1 d_LM_feed_25 rfl (lv_at hl 0 rfl) ?_
    refine ww_iload_n (pc := 26) g.1 d_LM_feed_26 rfl (lv_at hl 2 rfl) ?_
    obtain ⟨v27, s, hc27, h⟩ := oB_of h
    refine ww_callV (pc := 27) (rest := []) g cv_LM_putOnTape (Or.inl kw_1045) cl_LM (pz rfl (by decide)) (ct_LM_putOnTape hc27) ⟨by decide, by decide⟩ rfl hl.1 (Nat.le_of_ble_eq_true rfl) d_LM_feed_27 rfl (?_)
    refine ww_st (st' := []) rfl ?_
    refine ww_aload_n (pc := 30) g.1 d_LM_feed_30 rfl (lv_at hl 0 rfl) ?_
    refine ww_iload_n (pc := 31) g.1 d_LM_feed_31 rfl (lv_at hl 3 rfl) ?_
    obtain ⟨v32, s, hc32, h⟩ := oB_of h
    refine ww_callV (pc := 32) (rest := []) g cv_LM_putOnTape (Or.inl kw_1045) cl_LM (pz rfl (by decide)) (ct_LM_putOnTape hc32) ⟨by decide, by decide⟩ rfl hl.1 (Nat.le_of_ble_eq_true rfl) d_LM_feed_32 rfl (?_)
    refine ww_st (st' := []) rfl ?_
    refine ww_aload_n (pc := 35) g.1 d_LM_feed_35 rfl (lv_at hl 0 rfl) ?_
    refine ww_iload (pc := 36) g.1 d_LM_feed_36 (lv_at hl 4 rfl) ?_
    obtain ⟨v38, s, hc38, h⟩ := oB_of h
    refine ww_callV (pc := 38) (rest := []) g cv_LM_putOnTape (Or.inl kw_1045) cl_LM (pz rfl (by decide)) (ct_LM_putOnTape hc38) ⟨by decide, by decide⟩ rfl hl.1 (Nat.le_of_ble_eq_true rfl) d_LM_feed_38 rfl (?_)
    refine ww_st (st' := []) rfl ?_
    refine ww_aload_n (pc := 41) g.1 d_LM_feed_41 rfl (lv_at hl 0 rfl) ?_
    refine ww_iload (pc := 42) g.1 d_LM_feed_42 (lv_at hl 5 rfl) ?_
    obtain ⟨v44, s, hc44, h⟩ := oB_of h
    refine ww_callV (pc := 44) (rest := []) g cv_LM_putOnTape (Or.inl kw_1045) cl_LM (pz rfl (by decide)) (ct_LM_putOnTape hc44) ⟨by decide, by decide⟩ rfl hl.1 (Nat.le_of_ble_eq_true rfl) d_LM_feed_44 rfl (?_)
    refine ww_st (st' := []) rfl ?_
    refine ww_aload_n (pc := 47) g.1 d_LM_feed_47 rfl (lv_at hl 0 rfl) ?_
    refine ww_gI (pc := 48) g (k := 0) cl_LM (pz rfl (by decide)) (by decide) (Or.inl kw_644) (f := 12800) rfl rfl d_LM_feed_48 h fun v48 h => ?_
    exact (td_R h).elim
  · obtain ⟨rfl, rfl⟩ := ta_R h
    rw [exN_1] at hR
    exact ww_throw (pc := 12) (names := ["java/lang/RuntimeException", "java/lang/Exception"]) g hX hR rfl Exq.rf hm hn hl.1 (by decide) (by decide) kt_0 kt_1 kt_2 xo_1 xn_1 d_LM_feed_12 d_LM_feed_15 d_LM_feed_16 d_LM_feed_19 (by decide) (by decide)
theorem tt_end {l : Launch} (hst : l.stackTraces = false) {P : PP} {q : PL} {s s' : S1} {n : Nat × Nat} {l1 : Int32} {k : Int32} (hm : Rmq P q n) (hn : 1 ≤ n.1 ∧ 6 ≤ n.2) (h : X_end l1 s = some (Sum.inl k, s')) : CtT l y_LM_end b_LM_end 2 (some .int) 7 90 P [] q s [.ref (q.1 100 0), .int l1] (exN k) n s' := by
  refine ctT_of hst (by decide) (Nat.le_of_ble_eq_true rfl) fun X ls eP el g hX hR hl => ?_
  subst eP
  have hl : lv_has ls 2 [(0, .ref (q.1 100 0)), (1, .int l1)] := hl
  unfold X_end at h
  refine ww_iload_n (pc := 0) g.1 d_LM_end_0 rfl (lv_at hl 1 rfl) ?_
  refine ww_if_lt (pc := 1) (tgt := 12) g.1 d_LM_end_1 (by decide) h (fun c h => ?_) (fun c h => ?_)
  · obtain ⟨rfl, rfl⟩ := ta_R h
    rw [exN_2] at hR
    exact ww_throw (pc := 12) (names := ["java/lang/RuntimeException", "java/lang/Exception"]) g hX hR rfl Exq.rf hm hn hl.1 (by decide) (by decide) kt_3 kt_4 kt_5 xo_2 xn_2 d_LM_end_12 d_LM_end_15 d_LM_end_16 d_LM_end_19 (by decide) (by decide)
  · refine ww_iload_n (pc := 4) g.1 d_LM_end_4 rfl (lv_at hl 1 rfl) ?_
    refine ww_aload_n (pc := 5) g.1 d_LM_end_5 rfl (lv_at hl 0 rfl) ?_
    refine ww_gI (pc := 6) g (k := 0) cl_LM (pz rfl (by decide)) (by decide) (Or.inl kw_644) (f := 12800) rfl rfl d_LM_end_6 h fun v6 h => ?_
    refine ww_icmp_le (pc := 9) (tgt := 20) g.1 d_LM_end_9 (by decide) h (fun c h => ?_) (fun c h => ?_)
    · refine ww_aload_n (pc := 20) g.1 d_LM_end_20 rfl (lv_at hl 0 rfl) ?_
      refine ww_iload_n (pc := 21) g.1 d_LM_end_21 rfl (lv_at hl 1 rfl) ?_
      refine ww_pI (pc := 22) g (k := 0) cl_LM (pz rfl (by decide)) (by decide) (Or.inl kw_644) rfl (f := 12800) rfl rfl rfl rfl d_LM_end_22 h fun s hs h => ?_
      refine ww_iload_n (pc := 25) g.1 d_LM_end_25 rfl (lv_at hl 1 rfl) ?_
      exact (td_R h).elim
    · obtain ⟨rfl, rfl⟩ := ta_R h
      rw [exN_2] at hR
      exact ww_throw (pc := 12) (names := ["java/lang/RuntimeException", "java/lang/Exception"]) g hX hR rfl Exq.rf hm hn hl.1 (by decide) (by decide) kt_3 kt_4 kt_5 xo_2 xn_2 d_LM_end_12 d_LM_end_15 d_LM_end_16 d_LM_end_19 (by decide) (by decide)
theorem tt_load {l : Launch} (hst : l.stackTraces = false) {P : PP} {q : PL} {s s' : S1} {n0 n1 : Nat × Nat}  {k : Int32} (hm : Rmq P q n0) (hn : 1 ≤ n1.1 ∧ 6 ≤ n1.2) (h : X_load n0 s = some ((Sum.inl k, n1), s')) : CtT l y_LM_load b_LM_load 2 (some .int) 8 221 P [118, 146, 147, 149, 150, 151, 153, 154] q s [.ref (q.1 100 0)] (exN k) n1 s' := by
  refine ctT_of hst (by decide) (Nat.le_of_ble_eq_true rfl) fun X ls eP el g hX hR hl => ?_
  subst eP
  obtain ⟨q0, hq0⟩ : ∃ q0 : PL, q0 = q := ⟨q, rfl⟩
  have hx0 : Exq (xP X) [118, 146, 147, 149, 150, 151, 153, 154] q0 q := hq0 ▸ Exq.rf
  rw [← hq0] at hR
  have hl : lv_has ls 2 [(0, .ref (q.1 100 0))] := hl
  unfold X_load at h
  refine ww_aload_n (pc := 0) g.1 d_LM_load_0 rfl (lv_at hl 0 rfl) ?_
  refine ww_gI (pc := 1) g (k := 0) cl_LM (pz rfl (by decide)) (by decide) (Or.inl kw_644) (f := 12800) rfl rfl d_LM_load_1 h fun v1 h => ?_
  refine ww_istore_n (pc := 4) (i := 1) g.1 (lv' := [(1, .int v1), (0, .ref (q.1 100 0))]) d_LM_load_4 rfl hl (by decide) rfl fun ls hl => ?_
  refine ww_aload_n (pc := 5) g.1 d_LM_load_5 rfl (lv_at hl 1 rfl) ?_
  refine ww_iconst (pc := 6) g.1 (v := 0) d_LM_load_6 (by decide) ?_
  refine ww_pI (pc := 7) g (k := 0) cl_LM (pz rfl (by decide)) (by decide) (Or.inl kw_644) rfl (f := 12800) rfl rfl rfl rfl d_LM_load_7 h fun s hs h => ?_
  refine ww_aload_n (pc := 10) g.1 d_LM_load_10 rfl (lv_at hl 1 rfl) ?_
  refine ww_iconst (pc := 11) g.1 (v := 0) d_LM_load_11 (by decide) ?_
  refine ww_pI (pc := 12) g (k := 1) cl_LM (pz rfl (by decide)) (by decide) (Or.inl kw_632) rfl (f := 12801) rfl rfl rfl rfl d_LM_load_12 h fun s hs h => ?_
  refine ww_aload_n (pc := 15) g.1 d_LM_load_15 rfl (lv_at hl 1 rfl) ?_
  refine ww_gR (pc := 16) g (k := 2) cl_LM (pz rfl (by decide)) (by decide) (Or.inl kw_648) (f := 12802) (t := 101) rfl rfl rfl d_LM_load_16 ?_
  refine ww_iload_n (pc := 19) g.1 d_LM_load_19 rfl (lv_at hl 0 rfl) ?_
  refine ww_lo fun dlo => ?_
  obtain ⟨v20, s, hc20, h⟩ := oB_of h
  refine ww_callVX (pc := 20) (rest := []) g cv_Ch_readAll (Or.inl kw_1606) cl_Ch (pz rfl (by decide)) (ct_Ch_readAll hm hc20) ⟨by decide, by decide⟩ rfl hl.1 (Nat.le_of_ble_eq_true rfl) d_LM_load_20 rfl (fun q20 hE hm => ?_)
  have ex20_0 : q20.1 100 0 = q.1 100 0 := hE _ _ (by decide) (dlo _ _ (pz rfl (by decide)))
  have hl : lv_has ls 2 [(1, .int v1), (0, .ref (q20.1 100 0))] := by rw [ex20_0]; exact hl
  refine ww_st (st' := [.int v20.1]) (by rfl) ?_
  have hx0 : Exq (xP X) [118, 146, 147, 149, 150, 151, 153, 154] _ q20 := hx0.tr (hE.sub (by decide))
  refine ww_if_eq (pc := 23) (tgt := 36) g.1 d_LM_load_23 (by decide) h (fun c h => ?_) (fun c h => ?_)
  · obtain ⟨rfl, rfl, rfl⟩ := ta_X h
    rw [exN_3] at hR
    exact ww_throw (pc := 36) (names := ["java/lang/RuntimeException", "java/lang/Exception"]) g hX hR rfl hx0 hm hn hl.1 (by decide) (by decide) kt_6 kt_7 kt_8 xo_3 xn_3 d_LM_load_36 d_LM_load_39 d_LM_load_40 d_LM_load_43 (by decide) (by decide)
  · refine ww_aload_n (pc := 26) g.1 d_LM_load_26 rfl (lv_at hl 1 rfl) ?_
    refine ww_gR (pc := 27) g (k := 2) cl_LM (pz rfl (by decide)) (by decide) (Or.inl kw_648) (f := 12802) (t := 101) rfl rfl rfl d_LM_load_27 ?_
    obtain ⟨v30, s, hc30, h⟩ := oB_of h
    refine ww_callV (pc := 30) (rest := []) g cv_Ch_checkAll (Or.inl kw_1607) cl_Ch (pz rfl (by decide)) (ct_Ch_checkAll hc30) ⟨by decide, by decide⟩ rfl hl.1 (Nat.le_of_ble_eq_true rfl) d_LM_load_30 rfl (?_)
    refine ww_st (st' := [.int v30]) rfl ?_
    refine ww_if_ne (pc := 33) (tgt := 44) g.1 d_LM_load_33 (by decide) h (fun c h => ?_) (fun c h => ?_)
    · refine ww_aload_n (pc := 44) g.1 d_LM_load_44 rfl (lv_at hl 1 rfl) ?_
      refine ww_gR (pc := 45) g (k := 6) cl_LM (pz rfl (by decide)) (by decide) (Or.inl kw_633) (f := 12806) (t := 130) rfl rfl rfl d_LM_load_45 ?_
      refine ww_iconst (pc := 48) g.1 (v := 0) d_LM_load_48 (by decide) ?_
      refine ww_pI (pc := 49) g (k := 1) cl_Bu (pz rfl (by decide)) (by decide) (Or.inl kw_634) rfl (f := 16641) rfl rfl rfl rfl d_LM_load_49 h fun s hs h => ?_
      refine ww_aload_n (pc := 52) g.1 d_LM_load_52 rfl (lv_at hl 1 rfl) ?_
      refine ww_gR (pc := 53) g (k := 4) cl_LM (pz rfl (by decide)) (by decide) (Or.inl kw_635) (f := 12804) (t := 128) rfl rfl rfl d_LM_load_53 ?_
      refine ww_lo fun dlo => ?_
      obtain ⟨v56, s, hc56, h⟩ := oB_of h
      refine ww_callVX (pc := 56) (rest := []) g cv_Ma_boot (Or.inl kw_1608) cl_Ma (pz rfl (by decide)) (ct_Ma_boot hm hc56) ⟨by decide, by decide⟩ rfl hl.1 (Nat.le_of_ble_eq_true rfl) d_LM_load_56 rfl (fun q56 hE hm => ?_)
      have ex56_0 : q56.1 100 0 = q20.1 100 0 := hE _ _ (by decide) (dlo _ _ (pz rfl (by decide)))
      have hl : lv_has ls 2 [(1, .int v1), (0, .ref (q56.1 100 0))] := by rw [ex56_0]; exact hl
      refine ww_st (st' := [.int v56.1]) (by rfl) ?_
      have hx0 : Exq (xP X) [118, 146, 147, 149, 150, 151, 153, 154] _ q56 := hx0.tr (hE.sub (by decide))
      refine ww_if_ne (pc := 59) (tgt := 70) g.1 d_LM_load_59 (by decide) h (fun c h => ?_) (fun c h => ?_)
      · refine ww_aload_n (pc := 70) g.1 d_LM_load_70 rfl (lv_at hl 1 rfl) ?_
        refine ww_iconst (pc := 71) g.1 (v := 1) d_LM_load_71 (by decide) ?_
        refine ww_pI (pc := 72) g (k := 1) cl_LM (pz rfl (by decide)) (by decide) (Or.inl kw_632) rfl (f := 12801) rfl rfl rfl rfl d_LM_load_72 h fun s hs h => ?_
        refine ww_aload_n (pc := 75) g.1 d_LM_load_75 rfl (lv_at hl 1 rfl) ?_
        refine ww_gR (pc := 76) g (k := 2) cl_LM (pz rfl (by decide)) (by decide) (Or.inl kw_648) (f := 12802) (t := 101) rfl rfl rfl d_LM_load_76 ?_
        refine ww_gI (pc := 79) g (k := 9) cl_Ch (pz rfl (by decide)) (by decide) (Or.inl kw_1609) (f := 12937) rfl rfl d_LM_load_79 h fun v79 h => ?_
        exact (td_X h).elim
      · obtain ⟨rfl, rfl, rfl⟩ := ta_X h
        rw [exN_1] at hR
        exact ww_throw (pc := 62) (names := ["java/lang/RuntimeException", "java/lang/Exception"]) g hX hR rfl hx0 hm hn hl.1 (by decide) (by decide) kt_0 kt_1 kt_2 xo_1 xn_1 d_LM_load_62 d_LM_load_65 d_LM_load_66 d_LM_load_69 (by decide) (by decide)
    · obtain ⟨rfl, rfl, rfl⟩ := ta_X h
      rw [exN_3] at hR
      exact ww_throw (pc := 36) (names := ["java/lang/RuntimeException", "java/lang/Exception"]) g hX hR rfl hx0 hm hn hl.1 (by decide) (by decide) kt_6 kt_7 kt_8 xo_3 xn_3 d_LM_load_36 d_LM_load_39 d_LM_load_40 d_LM_load_43 (by decide) (by decide)
theorem tt_fault {l : Launch} (hst : l.stackTraces = false) {P : PP} {q : PL} {s s' : S1} {n : Nat × Nat} {l1 : Int32} {k : Int32} (hm : Rmq P q n) (hn : 1 ≤ n.1 ∧ 6 ≤ n.2) (h : X_fault l1 s = some (Sum.inl k, s')) : CtT l y_LM_fault b_LM_fault 2 (some .int) 7 90 P [] q s [.ref (q.1 100 0), .int l1] (exN k) n s' := by
  refine ctT_of hst (by decide) (Nat.le_of_ble_eq_true rfl) fun X ls eP el g hX hR hl => ?_
  subst eP
  have hl : lv_has ls 2 [(0, .ref (q.1 100 0)), (1, .int l1)] := hl
  unfold X_fault at h
  refine ww_iload_n (pc := 0) g.1 d_LM_fault_0 rfl (lv_at hl 1 rfl) ?_
  refine ww_if_eq (pc := 1) (tgt := 17) g.1 d_LM_fault_1 (by decide) h (fun c h => ?_) (fun c h => ?_)
  · exact (td_B h).elim
  · refine ww_iload_n (pc := 4) g.1 d_LM_fault_4 rfl (lv_at hl 1 rfl) ?_
    refine ww_iconst (pc := 5) g.1 (v := 1) d_LM_fault_5 (by decide) ?_
    refine ww_icmp_eq (pc := 6) (tgt := 17) g.1 d_LM_fault_6 (by decide) h (fun c h => ?_) (fun c h => ?_)
    · exact (td_B h).elim
    · obtain ⟨rfl, rfl⟩ := ta_R h
      rw [exN_2] at hR
      exact ww_throw (pc := 9) (names := ["java/lang/RuntimeException", "java/lang/Exception"]) g hX hR rfl Exq.rf hm hn hl.1 (by decide) (by decide) kt_3 kt_4 kt_5 xo_2 xn_2 d_LM_fault_9 d_LM_fault_12 d_LM_fault_13 d_LM_fault_16 (by decide) (by decide)
theorem tt_limit {l : Launch} (hst : l.stackTraces = false) {P : PP} {q : PL} {s s' : S1} {n : Nat × Nat} {l1 : Int32} {k : Int32} (hm : Rmq P q n) (hn : 1 ≤ n.1 ∧ 6 ≤ n.2) (h : X_limit l1 s = some (Sum.inl k, s')) : CtT l y_LM_limit b_LM_limit 3 (some .int) 7 90 P [] q s [.ref (q.1 100 0), .int l1] (exN k) n s' := by
  refine ctT_of hst (by decide) (Nat.le_of_ble_eq_true rfl) fun X ls eP el g hX hR hl => ?_
  subst eP
  have hl : lv_has ls 3 [(0, .ref (q.1 100 0)), (1, .int l1)] := hl
  unfold X_limit at h
  refine ww_iload_n (pc := 0) g.1 d_LM_limit_0 rfl (lv_at hl 1 rfl) ?_
  refine ww_sipush (pc := 1) g.1 (v := 200) d_LM_limit_1 (by decide) ?_
  refine ww_icmp_lt (pc := 4) (tgt := 14) g.1 d_LM_limit_4 (by decide) h (fun c h => ?_) (fun c h => ?_)
  · obtain ⟨rfl, rfl⟩ := ta_R h
    rw [exN_2] at hR
    exact ww_throw (pc := 14) (names := ["java/lang/RuntimeException", "java/lang/Exception"]) g hX hR rfl Exq.rf hm hn hl.1 (by decide) (by decide) kt_3 kt_4 kt_5 xo_2 xn_2 d_LM_limit_14 d_LM_limit_17 d_LM_limit_18 d_LM_limit_21 (by decide) (by decide)
  · refine ww_iload_n (pc := 7) g.1 d_LM_limit_7 rfl (lv_at hl 1 rfl) ?_
    refine ww_sipush (pc := 8) g.1 (v := 4000) d_LM_limit_8 (by decide) ?_
    refine ww_icmp_le (pc := 11) (tgt := 22) g.1 d_LM_limit_11 (by decide) h (fun c h => ?_) (fun c h => ?_)
    · refine ww_aload_n (pc := 22) g.1 d_LM_limit_22 rfl (lv_at hl 0 rfl) ?_
      refine ww_gR (pc := 23) g (k := 3) cl_LM (pz rfl (by decide)) (by decide) (Or.inl kw_642) (f := 12803) (t := 111) rfl rfl rfl d_LM_limit_23 ?_
      refine ww_gI (pc := 26) g (k := 12) cl_He (pz rfl (by decide)) (by decide) (Or.inl kw_860) (f := 14220) rfl rfl d_LM_limit_26 h fun v26 h => ?_
      refine ww_istore_n (pc := 29) (i := 2) g.1 (lv' := [(2, .int v26), (0, .ref (q.1 100 0)), (1, .int l1)]) d_LM_limit_29 rfl hl (by decide) rfl fun ls hl => ?_
      refine ww_aload_n (pc := 30) g.1 d_LM_limit_30 rfl (lv_at hl 1 rfl) ?_
      refine ww_gR (pc := 31) g (k := 3) cl_LM (pz rfl (by decide)) (by decide) (Or.inl kw_642) (f := 12803) (t := 111) rfl rfl rfl d_LM_limit_31 ?_
      refine ww_iload_n (pc := 34) g.1 d_LM_limit_34 rfl (lv_at hl 2 rfl) ?_
      refine ww_pI (pc := 35) g (k := 12) cl_He (pz rfl (by decide)) (by decide) (Or.inl kw_860) rfl (f := 14220) rfl rfl rfl rfl d_LM_limit_35 h fun s hs h => ?_
      refine ww_iload_n (pc := 38) g.1 d_LM_limit_38 rfl (lv_at hl 0 rfl) ?_
      exact (td_R h).elim
    · obtain ⟨rfl, rfl⟩ := ta_R h
      rw [exN_2] at hR
      exact ww_throw (pc := 14) (names := ["java/lang/RuntimeException", "java/lang/Exception"]) g hX hR rfl Exq.rf hm hn hl.1 (by decide) (by decide) kt_3 kt_4 kt_5 xo_2 xn_2 d_LM_limit_14 d_LM_limit_17 d_LM_limit_18 d_LM_limit_21 (by decide) (by decide)
theorem tt_run {l : Launch} (hst : l.stackTraces = false) {P : PP} {q : PL} {s s' : S1} {n0 n1 : Nat × Nat} {l1 : Int32} {k : Int32} (hm : Rmq P q n0) (hn : 1 ≤ n1.1 ∧ 6 ≤ n1.2) (h : X_run n0 l1 s = some ((Sum.inl k, n1), s')) : CtT l y_LM_run b_LM_run 4 (some .int) 9 239 P [118, 146, 147, 149, 150, 151, 153, 154] q s [.ref (q.1 100 0), .int l1] (exN k) n1 s' := by
  refine ctT_of hst (by decide) (Nat.le_of_ble_eq_true rfl) fun X ls eP el g hX hR hl => ?_
  subst eP
  obtain ⟨q0, hq0⟩ : ∃ q0 : PL, q0 = q := ⟨q, rfl⟩
  have hx0 : Exq (xP X) [118, 146, 147, 149, 150, 151, 153, 154] q0 q := hq0 ▸ Exq.rf
  rw [← hq0] at hR
  have hl : lv_has ls 4 [(0, .ref (q.1 100 0)), (1, .int l1)] := hl
  unfold X_run at h
  refine ww_iload_n (pc := 0) g.1 d_LM_run_0 rfl (lv_at hl 1 rfl) ?_
  refine ww_iconst (pc := 1) g.1 (v := 1) d_LM_run_1 (by decide) ?_
  refine ww_icmp_lt (pc := 2) (tgt := 11) g.1 d_LM_run_2 (by decide) h (fun c h => ?_) (fun c h => ?_)
  · obtain ⟨rfl, rfl, rfl⟩ := ta_X h
    rw [exN_2] at hR
    exact ww_throw (pc := 11) (names := ["java/lang/RuntimeException", "java/lang/Exception"]) g hX hR rfl hx0 hm hn hl.1 (by decide) (by decide) kt_3 kt_4 kt_5 xo_2 xn_2 d_LM_run_11 d_LM_run_14 d_LM_run_15 d_LM_run_18 (by decide) (by decide)
  · refine ww_iload_n (pc := 5) g.1 d_LM_run_5 rfl (lv_at hl 1 rfl) ?_
    refine ww_ldc (pc := 6) g (v := 100000) kw_1593 d_LM_run_6 ?_
    refine ww_icmp_le (pc := 8) (tgt := 19) g.1 d_LM_run_8 (by decide) h (fun c h => ?_) (fun c h => ?_)
    · refine ww_aload_n (pc := 19) g.1 d_LM_run_19 rfl (lv_at hl 0 rfl) ?_
      refine ww_gI (pc := 20) g (k := 1) cl_LM (pz rfl (by decide)) (by decide) (Or.inl kw_632) (f := 12801) rfl rfl d_LM_run_20 h fun v20 h => ?_
      refine ww_if_ne (pc := 23) (tgt := 34) g.1 d_LM_run_23 (by decide) h (fun c h => ?_) (fun c h => ?_)
      · exact (td_BX h).elim
      · obtain ⟨rfl, rfl, rfl⟩ := ta_X h
        rw [exN_1] at hR
        exact ww_throw (pc := 26) (names := ["java/lang/RuntimeException", "java/lang/Exception"]) g hX hR rfl hx0 hm hn hl.1 (by decide) (by decide) kt_0 kt_1 kt_2 xo_1 xn_1 d_LM_run_26 d_LM_run_29 d_LM_run_30 d_LM_run_33 (by decide) (by decide)
    · obtain ⟨rfl, rfl, rfl⟩ := ta_X h
      rw [exN_2] at hR
      exact ww_throw (pc := 11) (names := ["java/lang/RuntimeException", "java/lang/Exception"]) g hX hR rfl hx0 hm hn hl.1 (by decide) (by decide) kt_3 kt_4 kt_5 xo_2 xn_2 d_LM_run_11 d_LM_run_14 d_LM_run_15 d_LM_run_18 (by decide) (by decide)
theorem tt_collect {l : Launch} (hst : l.stackTraces = false) {P : PP} {q : PL} {s s' : S1} {n : Nat × Nat}  {k : Int32} (hm : Rmq P q n) (hn : 1 ≤ n.1 ∧ 6 ≤ n.2) (h : X_collect s = some (Sum.inl k, s')) : CtT l y_LM_collect b_LM_collect 1 (some .int) 7 90 P [] q s [.ref (q.1 100 0)] (exN k) n s' := by
  refine ctT_of hst (by decide) (Nat.le_of_ble_eq_true rfl) fun X ls eP el g hX hR hl => ?_
  subst eP
  have hl : lv_has ls 1 [(0, .ref (q.1 100 0))] := hl
  unfold X_collect at h
  refine ww_aload_n (pc := 0) g.1 d_LM_collect_0 rfl (lv_at hl 0 rfl) ?_
  refine ww_gI (pc := 1) g (k := 1) cl_LM (pz rfl (by decide)) (by decide) (Or.inl kw_632) (f := 12801) rfl rfl d_LM_collect_1 h fun v1 h => ?_
  refine ww_if_ne (pc := 4) (tgt := 15) g.1 d_LM_collect_4 (by decide) h (fun c h => ?_) (fun c h => ?_)
  · refine ww_aload_n (pc := 15) g.1 d_LM_collect_15 rfl (lv_at hl 0 rfl) ?_
    refine ww_gR (pc := 16) g (k := 3) cl_LM (pz rfl (by decide)) (by decide) (Or.inl kw_642) (f := 12803) (t := 111) rfl rfl rfl d_LM_collect_16 ?_
    obtain ⟨v19, s, hc19, h⟩ := oB_of h
    refine ww_callV (pc := 19) (rest := []) g cv_He_clean (Or.inl kw_1334) cl_He (pz rfl (by decide)) (ct_He_clean hc19) ⟨by decide, by decide⟩ rfl hl.1 (Nat.le_of_ble_eq_true rfl) d_LM_collect_19 rfl (?_)
    refine ww_st (st' := []) rfl ?_
    refine ww_aload_n (pc := 22) g.1 d_LM_collect_22 rfl (lv_at hl 0 rfl) ?_
    refine ww_gR (pc := 23) g (k := 3) cl_LM (pz rfl (by decide)) (by decide) (Or.inl kw_642) (f := 12803) (t := 111) rfl rfl rfl d_LM_collect_23 ?_
    refine ww_gR (pc := 26) g (k := 4) cl_He (pz rfl (by decide)) (by decide) (Or.inl kw_643) (f := 14212) (t := 114) rfl rfl rfl d_LM_collect_26 ?_
    refine ww_iconst (pc := 29) g.1 (v := 3) d_LM_collect_29 (by decide) ?_
    refine ww_ai (pc := 30) g (pz rfl (by decide)) rfl rfl d_LM_collect_30 h fun v30 h => ?_
    exact (td_R h).elim
  · obtain ⟨rfl, rfl⟩ := ta_R h
    rw [exN_1] at hR
    exact ww_throw (pc := 7) (names := ["java/lang/RuntimeException", "java/lang/Exception"]) g hX hR rfl Exq.rf hm hn hl.1 (by decide) (by decide) kt_0 kt_1 kt_2 xo_1 xn_1 d_LM_collect_7 d_LM_collect_10 d_LM_collect_11 d_LM_collect_14 (by decide) (by decide)
theorem tt_kind {l : Launch} (hst : l.stackTraces = false) {P : PP} {q : PL} {s s' : S1} {n : Nat × Nat} {l1 : Int32} {k : Int32} (hm : Rmq P q n) (hn : 1 ≤ n.1 ∧ 6 ≤ n.2) (h : X_kind l1 s = some (Sum.inl k, s')) : CtT l y_LM_kind b_LM_kind 2 (some .int) 7 90 P [] q s [.ref (q.1 100 0), .int l1] (exN k) n s' := by
  refine ctT_of hst (by decide) (Nat.le_of_ble_eq_true rfl) fun X ls eP el g hX hR hl => ?_
  subst eP
  have hl : lv_has ls 2 [(0, .ref (q.1 100 0)), (1, .int l1)] := hl
  unfold X_kind at h
  refine ww_aload_n (pc := 0) g.1 d_LM_kind_0 rfl (lv_at hl 0 rfl) ?_
  refine ww_iload_n (pc := 1) g.1 d_LM_kind_1 rfl (lv_at hl 1 rfl) ?_
  obtain ⟨v2, s, hc2, h⟩ := oB_of h
  refine ww_callV (pc := 2) (rest := []) g cv_LM_hasNoResult (Or.inl kw_1031) cl_LM (pz rfl (by decide)) (ct_LM_hasNoResult hc2) ⟨by decide, by decide⟩ rfl hl.1 (Nat.le_of_ble_eq_true rfl) d_LM_kind_2 rfl (?_)
  refine ww_st (st' := [.int v2]) rfl ?_
  refine ww_if_eq (pc := 5) (tgt := 16) g.1 d_LM_kind_5 (by decide) h (fun c h => ?_) (fun c h => ?_)
  · refine ww_aload_n (pc := 16) g.1 d_LM_kind_16 rfl (lv_at hl 0 rfl) ?_
    refine ww_gR (pc := 17) g (k := 4) cl_LM (pz rfl (by decide)) (by decide) (Or.inl kw_635) (f := 12804) (t := 128) rfl rfl rfl d_LM_kind_17 ?_
    refine ww_gR (pc := 20) g (k := 7) cl_Ma (pz rfl (by decide)) (by decide) (Or.inl kw_640) (f := 16391) (t := 141) rfl rfl rfl d_LM_kind_20 ?_
    refine ww_gR (pc := 23) g (k := 0) (cl_Ro ⟨by decide, rfl⟩) (pz rfl (by decide)) (by decide) (Or.inl kw_1032) (f := 18048) (t := 142) rfl rfl rfl d_LM_kind_23 ?_
    refine ww_iload_n (pc := 26) g.1 d_LM_kind_26 rfl (lv_at hl 1 rfl) ?_
    refine ww_ab (pc := 27) g (pz rfl (by decide)) rfl rfl d_LM_kind_27 h fun v27 h => ?_
    exact (td_R h).elim
  · obtain ⟨rfl, rfl⟩ := ta_R h
    rw [exN_4] at hR
    exact ww_throw (pc := 8) (names := ["java/lang/RuntimeException", "java/lang/Exception"]) g hX hR rfl Exq.rf hm hn hl.1 (by decide) (by decide) kt_9 kt_10 kt_11 xo_4 xn_4 d_LM_kind_8 d_LM_kind_11 d_LM_kind_12 d_LM_kind_15 (by decide) (by decide)
theorem tt_value {l : Launch} (hst : l.stackTraces = false) {P : PP} {q : PL} {s s' : S1} {n : Nat × Nat} {l1 : Int32} {k : Int32} (hm : Rmq P q n) (hn : 1 ≤ n.1 ∧ 6 ≤ n.2) (h : X_value l1 s = some (Sum.inl k, s')) : CtT l y_LM_value b_LM_value 5 (some .long) 7 90 P [] q s [.ref (q.1 100 0), .int l1] (exN k) n s' := by
  refine ctT_of hst (by decide) (Nat.le_of_ble_eq_true rfl) fun X ls eP el g hX hR hl => ?_
  subst eP
  have hl : lv_has ls 5 [(0, .ref (q.1 100 0)), (1, .int l1)] := hl
  unfold X_value at h
  refine ww_aload_n (pc := 0) g.1 d_LM_value_0 rfl (lv_at hl 0 rfl) ?_
  refine ww_iload_n (pc := 1) g.1 d_LM_value_1 rfl (lv_at hl 1 rfl) ?_
  obtain ⟨v2, s, hc2, h⟩ := oB_of h
  refine ww_callV (pc := 2) (rest := []) g cv_LM_hasNoResult (Or.inl kw_1031) cl_LM (pz rfl (by decide)) (ct_LM_hasNoResult hc2) ⟨by decide, by decide⟩ rfl hl.1 (Nat.le_of_ble_eq_true rfl) d_LM_value_2 rfl (?_)
  refine ww_st (st' := [.int v2]) rfl ?_
  refine ww_if_eq (pc := 5) (tgt := 16) g.1 d_LM_value_5 (by decide) h (fun c h => ?_) (fun c h => ?_)
  · refine ww_aload_n (pc := 16) g.1 d_LM_value_16 rfl (lv_at hl 0 rfl) ?_
    refine ww_gR (pc := 17) g (k := 4) cl_LM (pz rfl (by decide)) (by decide) (Or.inl kw_635) (f := 12804) (t := 128) rfl rfl rfl d_LM_value_17 ?_
    refine ww_gR (pc := 20) g (k := 7) cl_Ma (pz rfl (by decide)) (by decide) (Or.inl kw_640) (f := 16391) (t := 141) rfl rfl rfl d_LM_value_20 ?_
    refine ww_gR (pc := 23) g (k := 0) (cl_Ro ⟨by decide, rfl⟩) (pz rfl (by decide)) (by decide) (Or.inl kw_1032) (f := 18048) (t := 142) rfl rfl rfl d_LM_value_23 ?_
    refine ww_iload_n (pc := 26) g.1 d_LM_value_26 rfl (lv_at hl 1 rfl) ?_
    refine ww_ab (pc := 27) g (pz rfl (by decide)) rfl rfl d_LM_value_27 h fun v27 h => ?_
    refine ww_istore_n (pc := 28) (i := 2) g.1 (lv' := [(2, .int v27), (0, .ref (q.1 100 0)), (1, .int l1)]) d_LM_value_28 rfl hl (by decide) rfl fun ls hl => ?_
    refine ww_aload_n (pc := 29) g.1 d_LM_value_29 rfl (lv_at hl 1 rfl) ?_
    refine ww_gR (pc := 30) g (k := 4) cl_LM (pz rfl (by decide)) (by decide) (Or.inl kw_635) (f := 12804) (t := 128) rfl rfl rfl d_LM_value_30 ?_
    refine ww_gR (pc := 33) g (k := 7) cl_Ma (pz rfl (by decide)) (by decide) (Or.inl kw_640) (f := 16391) (t := 141) rfl rfl rfl d_LM_value_33 ?_
    refine ww_gR (pc := 36) g (k := 1) (cl_Ro ⟨by decide, rfl⟩) (pz rfl (by decide)) (by decide) (Or.inl kw_1033) (f := 18049) (t := 143) rfl rfl rfl d_LM_value_36 ?_
    refine ww_iload_n (pc := 39) g.1 d_LM_value_39 rfl (lv_at hl 2 rfl) ?_
    refine ww_al (pc := 40) g (pz rfl (by decide)) rfl rfl d_LM_value_40 h fun v40 h => ?_
    refine ww_lstore_n (pc := 41) (i := 3) g.1 (lv' := [(3, .long v40), (2, .int v27), (0, .ref (q.1 100 0)), (1, .int l1)]) d_LM_value_41 rfl hl (by decide) rfl fun ls hl => ?_
    refine ww_iload_n (pc := 42) g.1 d_LM_value_42 rfl (lv_at hl 1 rfl) ?_
    refine ww_iconst (pc := 43) g.1 (v := 4) d_LM_value_43 (by decide) ?_
    refine ww_icmp_ne (pc := 44) (tgt := 63) g.1 d_LM_value_44 (by decide) h (fun c h => ?_) (fun c h => ?_)
    · refine ww_iload_n (pc := 63) g.1 d_LM_value_63 rfl (lv_at hl 1 rfl) ?_
      refine ww_iconst (pc := 64) g.1 (v := 4) d_LM_value_64 (by decide) ?_
      refine ww_icmp_le (pc := 65) (tgt := 79) g.1 d_LM_value_65 (by decide) h (fun c h => ?_) (fun c h => ?_)
      · refine ww_lload_n (pc := 79) g.1 d_LM_value_79 rfl (lv_at hl 0 rfl) ?_
        exact (td_R h).elim
      · refine ww_aload_n (pc := 68) g.1 d_LM_value_68 rfl (lv_at hl 2 rfl) ?_
        refine ww_gR (pc := 69) g (k := 3) cl_LM (pz rfl (by decide)) (by decide) (Or.inl kw_642) (f := 12803) (t := 111) rfl rfl rfl d_LM_value_69 ?_
        refine ww_lload_n (pc := 72) g.1 d_LM_value_72 rfl (lv_at hl 0 rfl) ?_
        obtain ⟨v73, s, hc73, h⟩ := oB_of h
        refine ww_callV (pc := 73) (rest := []) g cv_He_numberOf (Or.inl kw_1034) cl_He (pz rfl (by decide)) (ct_He_numberOf hc73) ⟨by decide, by decide⟩ rfl hl.1 (Nat.le_of_ble_eq_true rfl) d_LM_value_73 rfl (?_)
        refine ww_st (st' := [.long v73]) rfl ?_
        refine ww_goto (pc := 76) (tgt := 80) g.1 d_LM_value_76 (by decide) ?_
        exact (td_R h).elim
    · refine ww_aload_n (pc := 47) g.1 d_LM_value_47 rfl (lv_at hl 2 rfl) ?_
      refine ww_gR (pc := 48) g (k := 3) cl_LM (pz rfl (by decide)) (by decide) (Or.inl kw_642) (f := 12803) (t := 111) rfl rfl rfl d_LM_value_48 ?_
      refine ww_gR (pc := 51) g (k := 0) cl_He (pz rfl (by decide)) (by decide) (Or.inl kw_1035) (f := 14208) (t := 112) rfl rfl rfl d_LM_value_51 ?_
      refine ww_lload_n (pc := 54) g.1 d_LM_value_54 rfl (lv_at hl 0 rfl) ?_
      refine ww_l2i (pc := 55) g.1 (v := v40.toInt32) d_LM_value_55 rfl ?_
      refine ww_a8 (pc := 56) g (t := 145) (n := 4000) (pz rfl (by decide)) rfl rfl rfl rfl d_LM_value_56 h fun pa56 h => ?_
      refine ww_g5 (pc := 57) g (k := 9) cl_Tg pa56 (by decide) (Or.inl kw_1036) (f := 18569) (t := 146) (f2 := 18815) rfl rfl rfl rfl d_LM_value_57 h fun v57 hv57 h => ?_
      refine ww_ok h fun cv57 h => ?_
      refine ww_dn cv57 ?_
      have pd57 : prs s 146 v40.toInt32 := pdn (hv57 ▸ cv57) pa56.2.1 pa56.2.2
      refine ww_ln pd57 h fun n60 hmn60 hnn60 h => ?_
      refine ww_alen (pc := 60) g (n := n60) pd57 (by decide) hmn60 d_LM_value_60 ?_
      refine ww_i2l (pc := 61) g.1 (v := n60.toInt64) d_LM_value_61 rfl ?_
      exact (td_R h).elim
  · obtain ⟨rfl, rfl⟩ := ta_R h
    rw [exN_4] at hR
    exact ww_throw (pc := 8) (names := ["java/lang/RuntimeException", "java/lang/Exception"]) g hX hR rfl Exq.rf hm hn hl.1 (by decide) (by decide) kt_9 kt_10 kt_11 xo_4 xn_4 d_LM_value_8 d_LM_value_11 d_LM_value_12 d_LM_value_15 (by decide) (by decide)
theorem tt_byteOf {l : Launch} (hst : l.stackTraces = false) {P : PP} {q : PL} {s s' : S1} {n : Nat × Nat} {l1 : Int32} {l2 : Int32} {k : Int32} (hm : Rmq P q n) (hn : 1 ≤ n.1 ∧ 6 ≤ n.2) (h : X_byteOf l1 l2 s = some (Sum.inl k, s')) : CtT l y_LM_byteOf b_LM_byteOf 4 (some .int) 7 90 P [] q s [.ref (q.1 100 0), .int l1, .int l2] (exN k) n s' := by
  refine ctT_of hst (by decide) (Nat.le_of_ble_eq_true rfl) fun X ls eP el g hX hR hl => ?_
  subst eP
  have hl : lv_has ls 4 [(0, .ref (q.1 100 0)), (1, .int l1), (2, .int l2)] := hl
  unfold X_byteOf at h
  refine ww_aload_n (pc := 0) g.1 d_LM_byteOf_0 rfl (lv_at hl 0 rfl) ?_
  refine ww_iload_n (pc := 1) g.1 d_LM_byteOf_1 rfl (lv_at hl 1 rfl) ?_
  obtain ⟨v2, s, hc2, h⟩ := oB_of h
  refine ww_callV (pc := 2) (rest := []) g cv_LM_hasNoResult (Or.inl kw_1031) cl_LM (pz rfl (by decide)) (ct_LM_hasNoResult hc2) ⟨by decide, by decide⟩ rfl hl.1 (Nat.le_of_ble_eq_true rfl) d_LM_byteOf_2 rfl (?_)
  refine ww_st (st' := [.int v2]) rfl ?_
  refine ww_if_eq (pc := 5) (tgt := 16) g.1 d_LM_byteOf_5 (by decide) h (fun c h => ?_) (fun c h => ?_)
  · refine ww_aload_n (pc := 16) g.1 d_LM_byteOf_16 rfl (lv_at hl 0 rfl) ?_
    refine ww_gR (pc := 17) g (k := 4) cl_LM (pz rfl (by decide)) (by decide) (Or.inl kw_635) (f := 12804) (t := 128) rfl rfl rfl d_LM_byteOf_17 ?_
    refine ww_gR (pc := 20) g (k := 7) cl_Ma (pz rfl (by decide)) (by decide) (Or.inl kw_640) (f := 16391) (t := 141) rfl rfl rfl d_LM_byteOf_20 ?_
    refine ww_gR (pc := 23) g (k := 0) (cl_Ro ⟨by decide, rfl⟩) (pz rfl (by decide)) (by decide) (Or.inl kw_1032) (f := 18048) (t := 142) rfl rfl rfl d_LM_byteOf_23 ?_
    refine ww_iload_n (pc := 26) g.1 d_LM_byteOf_26 rfl (lv_at hl 1 rfl) ?_
    refine ww_ab (pc := 27) g (pz rfl (by decide)) rfl rfl d_LM_byteOf_27 h fun v27 h => ?_
    refine ww_iconst (pc := 28) g.1 (v := 4) d_LM_byteOf_28 (by decide) ?_
    refine ww_icmp_eq (pc := 29) (tgt := 40) g.1 d_LM_byteOf_29 (by decide) h (fun c h => ?_) (fun c h => ?_)
    · refine ww_aload_n (pc := 40) g.1 d_LM_byteOf_40 rfl (lv_at hl 0 rfl) ?_
      refine ww_gR (pc := 41) g (k := 3) cl_LM (pz rfl (by decide)) (by decide) (Or.inl kw_642) (f := 12803) (t := 111) rfl rfl rfl d_LM_byteOf_41 ?_
      refine ww_gR (pc := 44) g (k := 0) cl_He (pz rfl (by decide)) (by decide) (Or.inl kw_1035) (f := 14208) (t := 112) rfl rfl rfl d_LM_byteOf_44 ?_
      refine ww_aload_n (pc := 47) g.1 d_LM_byteOf_47 rfl (lv_at hl 0 rfl) ?_
      refine ww_gR (pc := 48) g (k := 4) cl_LM (pz rfl (by decide)) (by decide) (Or.inl kw_635) (f := 12804) (t := 128) rfl rfl rfl d_LM_byteOf_48 ?_
      refine ww_gR (pc := 51) g (k := 7) cl_Ma (pz rfl (by decide)) (by decide) (Or.inl kw_640) (f := 16391) (t := 141) rfl rfl rfl d_LM_byteOf_51 ?_
      refine ww_gR (pc := 54) g (k := 1) (cl_Ro ⟨by decide, rfl⟩) (pz rfl (by decide)) (by decide) (Or.inl kw_1033) (f := 18049) (t := 143) rfl rfl rfl d_LM_byteOf_54 ?_
      refine ww_iload_n (pc := 57) g.1 d_LM_byteOf_57 rfl (lv_at hl 1 rfl) ?_
      refine ww_al (pc := 58) g (pz rfl (by decide)) rfl rfl d_LM_byteOf_58 h fun v58 h => ?_
      refine ww_l2i (pc := 59) g.1 (v := v58.toInt32) d_LM_byteOf_59 rfl ?_
      refine ww_a8 (pc := 60) g (t := 145) (n := 4000) (pz rfl (by decide)) rfl rfl rfl rfl d_LM_byteOf_60 h fun pa60 h => ?_
      refine ww_g5 (pc := 61) g (k := 9) cl_Tg pa60 (by decide) (Or.inl kw_1036) (f := 18569) (t := 146) (f2 := 18815) rfl rfl rfl rfl d_LM_byteOf_61 h fun v61 hv61 h => ?_
      refine ww_ok h fun cv61 h => ?_
      refine ww_dn cv61 ?_
      have pd61 : prs s 146 v58.toInt32 := pdn (hv61 ▸ cv61) pa60.2.1 pa60.2.2
      refine ww_astore_n (pc := 64) (i := 3) g.1 (lv' := [(3, .ref (q.1 146 v58.toInt32)), (0, .ref (q.1 100 0)), (1, .int l1), (2, .int l2)]) d_LM_byteOf_64 rfl hl (by decide) rfl fun ls hl => ?_
      refine ww_iload_n (pc := 65) g.1 d_LM_byteOf_65 rfl (lv_at hl 3 rfl) ?_
      refine ww_if_lt (pc := 66) (tgt := 75) g.1 d_LM_byteOf_66 (by decide) h (fun c h => ?_) (fun c h => ?_)
      · obtain ⟨rfl, rfl⟩ := ta_R h
        rw [exN_2] at hR
        exact ww_throw (pc := 75) (names := ["java/lang/RuntimeException", "java/lang/Exception"]) g hX hR rfl Exq.rf hm hn hl.1 (by decide) (by decide) kt_3 kt_4 kt_5 xo_2 xn_2 d_LM_byteOf_75 d_LM_byteOf_78 d_LM_byteOf_79 d_LM_byteOf_82 (by decide) (by decide)
      · refine ww_iload_n (pc := 69) g.1 d_LM_byteOf_69 rfl (lv_at hl 3 rfl) ?_
        refine ww_aload_n (pc := 70) g.1 d_LM_byteOf_70 rfl (lv_at hl 0 rfl) ?_
        refine ww_ln pd61 h fun n71 hmn71 hnn71 h => ?_
        refine ww_alen (pc := 71) g (n := n71) pd61 (by decide) hmn71 d_LM_byteOf_71 ?_
        refine ww_icmp_lt (pc := 72) (tgt := 83) g.1 d_LM_byteOf_72 (by decide) h (fun c h => ?_) (fun c h => ?_)
        · refine ww_aload_n (pc := 83) g.1 d_LM_byteOf_83 rfl (lv_at hl 0 rfl) ?_
          refine ww_iload_n (pc := 84) g.1 d_LM_byteOf_84 rfl (lv_at hl 3 rfl) ?_
          refine ww_ln pd61 h fun n85 hmn85 hnn85 h => ?_
          refine ww_ab (pc := 85) g pd61 rfl hnn85 d_LM_byteOf_85 h fun v85 h => ?_
          refine ww_sipush (pc := 86) g.1 (v := 255) d_LM_byteOf_86 (by decide) ?_
          refine ww_iand (pc := 89) g.1 d_LM_byteOf_89 ?_
          exact (td_R h).elim
        · obtain ⟨rfl, rfl⟩ := ta_R h
          rw [exN_2] at hR
          exact ww_throw (pc := 75) (names := ["java/lang/RuntimeException", "java/lang/Exception"]) g hX hR rfl Exq.rf hm hn hl.1 (by decide) (by decide) kt_3 kt_4 kt_5 xo_2 xn_2 d_LM_byteOf_75 d_LM_byteOf_78 d_LM_byteOf_79 d_LM_byteOf_82 (by decide) (by decide)
    · obtain ⟨rfl, rfl⟩ := ta_R h
      rw [exN_2] at hR
      exact ww_throw (pc := 32) (names := ["java/lang/RuntimeException", "java/lang/Exception"]) g hX hR rfl Exq.rf hm hn hl.1 (by decide) (by decide) kt_3 kt_4 kt_5 xo_2 xn_2 d_LM_byteOf_32 d_LM_byteOf_35 d_LM_byteOf_36 d_LM_byteOf_39 (by decide) (by decide)
  · obtain ⟨rfl, rfl⟩ := ta_R h
    rw [exN_4] at hR
    exact ww_throw (pc := 8) (names := ["java/lang/RuntimeException", "java/lang/Exception"]) g hX hR rfl Exq.rf hm hn hl.1 (by decide) (by decide) kt_9 kt_10 kt_11 xo_4 xn_4 d_LM_byteOf_8 d_LM_byteOf_11 d_LM_byteOf_12 d_LM_byteOf_15 (by decide) (by decide)
theorem tt_output {l : Launch} (hst : l.stackTraces = false) {P : PP} {q : PL} {s s' : S1} {n : Nat × Nat} {l1 : Int32} {k : Int32} (hm : Rmq P q n) (hn : 1 ≤ n.1 ∧ 6 ≤ n.2) (h : X_output l1 s = some (Sum.inl k, s')) : CtT l y_LM_output b_LM_output 2 (some .int) 7 90 P [] q s [.ref (q.1 100 0), .int l1] (exN k) n s' := by
  refine ctT_of hst (by decide) (Nat.le_of_ble_eq_true rfl) fun X ls eP el g hX hR hl => ?_
  subst eP
  have hl : lv_has ls 2 [(0, .ref (q.1 100 0)), (1, .int l1)] := hl
  unfold X_output at h
  refine ww_aload_n (pc := 0) g.1 d_LM_output_0 rfl (lv_at hl 0 rfl) ?_
  refine ww_gI (pc := 1) g (k := 1) cl_LM (pz rfl (by decide)) (by decide) (Or.inl kw_632) (f := 12801) rfl rfl d_LM_output_1 h fun v1 h => ?_
  refine ww_if_eq (pc := 4) (tgt := 22) g.1 d_LM_output_4 (by decide) h (fun c h => ?_) (fun c h => ?_)
  · obtain ⟨rfl, rfl⟩ := ta_R h
    rw [exN_4] at hR
    exact ww_throw (pc := 22) (names := ["java/lang/RuntimeException", "java/lang/Exception"]) g hX hR rfl Exq.rf hm hn hl.1 (by decide) (by decide) kt_9 kt_10 kt_11 xo_4 xn_4 d_LM_output_22 d_LM_output_25 d_LM_output_26 d_LM_output_29 (by decide) (by decide)
  · refine ww_iload_n (pc := 7) g.1 d_LM_output_7 rfl (lv_at hl 1 rfl) ?_
    refine ww_if_lt (pc := 8) (tgt := 22) g.1 d_LM_output_8 (by decide) h (fun c h => ?_) (fun c h => ?_)
    · obtain ⟨rfl, rfl⟩ := ta_R h
      rw [exN_4] at hR
      exact ww_throw (pc := 22) (names := ["java/lang/RuntimeException", "java/lang/Exception"]) g hX hR rfl Exq.rf hm hn hl.1 (by decide) (by decide) kt_9 kt_10 kt_11 xo_4 xn_4 d_LM_output_22 d_LM_output_25 d_LM_output_26 d_LM_output_29 (by decide) (by decide)
    · refine ww_iload_n (pc := 11) g.1 d_LM_output_11 rfl (lv_at hl 1 rfl) ?_
      refine ww_aload_n (pc := 12) g.1 d_LM_output_12 rfl (lv_at hl 0 rfl) ?_
      refine ww_gR (pc := 13) g (k := 6) cl_LM (pz rfl (by decide)) (by decide) (Or.inl kw_633) (f := 12806) (t := 130) rfl rfl rfl d_LM_output_13 ?_
      refine ww_gI (pc := 16) g (k := 1) cl_Bu (pz rfl (by decide)) (by decide) (Or.inl kw_634) (f := 16641) rfl rfl d_LM_output_16 h fun v16 h => ?_
      refine ww_icmp_lt (pc := 19) (tgt := 30) g.1 d_LM_output_19 (by decide) h (fun c h => ?_) (fun c h => ?_)
      · refine ww_aload_n (pc := 30) g.1 d_LM_output_30 rfl (lv_at hl 0 rfl) ?_
        refine ww_gR (pc := 31) g (k := 6) cl_LM (pz rfl (by decide)) (by decide) (Or.inl kw_633) (f := 12806) (t := 130) rfl rfl rfl d_LM_output_31 ?_
        refine ww_gR (pc := 34) g (k := 0) cl_Bu (pz rfl (by decide)) (by decide) (Or.inl kw_1041) (f := 16640) (t := 131) rfl rfl rfl d_LM_output_34 ?_
        refine ww_iload_n (pc := 37) g.1 d_LM_output_37 rfl (lv_at hl 1 rfl) ?_
        refine ww_ab (pc := 38) g (pz rfl (by decide)) rfl rfl d_LM_output_38 h fun v38 h => ?_
        refine ww_sipush (pc := 39) g.1 (v := 255) d_LM_output_39 (by decide) ?_
        refine ww_iand (pc := 42) g.1 d_LM_output_42 ?_
        exact (td_R h).elim
      · obtain ⟨rfl, rfl⟩ := ta_R h
        rw [exN_4] at hR
        exact ww_throw (pc := 22) (names := ["java/lang/RuntimeException", "java/lang/Exception"]) g hX hR rfl Exq.rf hm hn hl.1 (by decide) (by decide) kt_9 kt_10 kt_11 xo_4 xn_4 d_LM_output_22 d_LM_output_25 d_LM_output_26 d_LM_output_29 (by decide) (by decide)
