theorem kw_356 : Cond.instanceMethod y_Mo_topOf ∈ wA := kinm (show _ ∈ tables_1 from (List.mem_append_right _ (List.mem_append_right _ (List.mem_append_right _ (List.mem_append_right _ (List.mem_append_right _ (List.mem_append_right _ (List.mem_append_right _ (List.mem_append_right _ (List.mem_append_right _ (List.mem_append_right _ (List.mem_append_right _ (List.mem_append_left _ (List.mem_of_getElem? (l := tables_1_12) (i := 132) (by decide +kernel))))))))))))))) (by decide +kernel)
theorem kw_357 : Cond.selects R_Mo y_Mo_topOf y_Mo_topOf ∈ wA := kinp 155 (by decide +kernel) (by decide +kernel)
def M_Mo_topOf_L5 : (Int32 × Int32) → M ((Int32 × Int32) ⊕ ((Int32 × Int32) ⊕ (Unit))) := fun x =>
  oC (x.2 < 0)
    (oR (Sum.inr (Sum.inr ())))
    (oB (oAI 30 201 x.1 x.2) fun v14 =>
    oC (v14 = 0)
      (oR (Sum.inr (Sum.inl (x.1, x.2))))
      (oR (Sum.inl (x.1, x.2 + (-1)))))

def M_Mo_topOf (l1 : Int32) : M (Int32) :=
  oB (M_Th_top l1) fun v1 =>
  oB (oW M_Mo_topOf_L5 (l1, v1)) fun e5 =>
  Sum.elim
    (fun y5_18 : Int32 × Int32 =>
      oB (oAI 33 201 y5_18.1 y5_18.2) fun v23 =>
      oB (oAI 31 201 y5_18.1 y5_18.2) fun v37 =>
      oB (oAI 62 4100 0 v37) fun v38 =>
      oB (oAI 44 251 0 v38) fun v39 =>
      oR (v23 + v39))
    (fun y5_48 : Unit =>
      oR 0) e5

theorem cv_Mo_topOf : CV y_Mo_topOf b_Mo_topOf 3 (some .int) 1 := ⟨kw_356, kw_357, kw_17, k_Mo_topOf, by decide +kernel⟩
theorem lp_Mo_topOf_L5 {X : Cx} {q : PL} (g : Gd X y_Mo_topOf b_Mo_topOf 3 (some .int) 1 20 R_Mo) (x : Int32 × Int32) (s : S1) (o : ((Int32 × Int32) ⊕ ((Int32 × Int32) ⊕ (Unit))) × S1) (h : M_Mo_topOf_L5 x s = some o) (hR : (Sum.elim (fun y : Int32 × Int32 => ∀ ls : Array Slot, (0 ≤ y.1 ∧ y.1 < 33) → lv_has ls 3 [(0, .ref (q.1 0 0)), (1, .ref (q.1 28 y.1)), (2, .int y.2)] → WW X q o.2 5 ls []) (Sum.elim (fun y : Int32 × Int32 => ∀ ls : Array Slot, (0 ≤ y.1 ∧ y.1 < 33) → lv_has ls 3 [(0, .ref (q.1 0 0)), (1, .ref (q.1 28 y.1)), (2, .int y.2)] → WW X q o.2 18 ls []) (fun y : Unit => ∀ ls : Array Slot, lv_has ls 3 [] → WW X q o.2 48 ls [])) o.1)) : ∀ ls : Array Slot, (0 ≤ x.1 ∧ x.1 < 33) → lv_has ls 3 [(0, .ref (q.1 0 0)), (1, .ref (q.1 28 x.1)), (2, .int x.2)] → WW X q s 5 ls [] := by
  intro ls hp0 hl
  unfold M_Mo_topOf_L5 at h
  refine ww_iload_n (pc := 5) g.1 d_Mo_topOf_5 rfl (lv_at hl 2 rfl) ?_
  refine ww_if_lt (pc := 6) (tgt := 48) g.1 d_Mo_topOf_6 (by decide) h (fun c h => ?_) (fun c h => ?_)
  · rw [oR_eq h] at hR
    exact hR ls (lv_sub hl [] rfl)
  · refine ww_aload_n (pc := 9) g.1 d_Mo_topOf_9 rfl (lv_at hl 1 rfl) ?_
    refine ww_gR (pc := 10) g (k := 11) cl_Th (pt rfl rfl hp0) (by decide) (Or.inl kw_157) (f := 3595) (t := 30) rfl rfl rfl d_Mo_topOf_10 ?_
    refine ww_iload_n (pc := 13) g.1 d_Mo_topOf_13 rfl (lv_at hl 2 rfl) ?_
    refine ww_ai (pc := 14) g (pt rfl rfl hp0) rfl rfl d_Mo_topOf_14 h fun v14 h => ?_
    refine ww_if_ne (pc := 15) (tgt := 42) g.1 d_Mo_topOf_15 (by decide) h (fun c h => ?_) (fun c h => ?_)
    · refine ww_iinc (pc := 42) g.1 (v := x.2 + (-1)) (lv' := [(2, .int (x.2 + (-1))), (0, .ref (q.1 0 0)), (1, .ref (q.1 28 x.1))]) d_Mo_topOf_42 hl (k := 2) rfl (by rfl) (by decide) rfl fun ls hl => ?_
      refine ww_goto (pc := 45) (tgt := 5) g.1 d_Mo_topOf_45 (by decide) ?_
      rw [oR_eq h] at hR
      exact hR ls hp0 (lv_sub hl [1, 2, 0] rfl)
    · rw [oR_eq h] at hR
      exact hR ls hp0 (lv_sub hl [0, 1, 2] rfl)

theorem ct_Mo_topOf {l : Launch} {P : PP} {q : PL} {s s' : S1} {l1 : Int32} (hp0 : 0 ≤ l1 ∧ l1 < 33) {r : Int32} (h : M_Mo_topOf l1 s = some (r, s')) : Ct l y_Mo_topOf b_Mo_topOf 3 (some .int) 1 20 P q s [.ref (q.1 0 0), .ref (q.1 28 l1)] (some (.int r)) q s' := by
  refine ct_of (by decide) (Nat.le_of_ble_eq_true rfl) fun X ls eP el g hR hl => ?_
  have hR : Rt X q ((r, s') : Int32 × S1).2 (some (.int ((r, s') : Int32 × S1).1)) := hR
  have hl : lv_has ls 3 [(0, .ref (q.1 0 0)), (1, .ref (q.1 28 l1))] := hl
  generalize (r, s') = o at h hR
  unfold M_Mo_topOf at h
  refine ww_aload_n (pc := 0) g.1 d_Mo_topOf_0 rfl (lv_at hl 1 rfl) ?_
  obtain ⟨v1, s, hc1, h⟩ := oB_of h
  refine ww_callV (pc := 1) (rest := []) g cv_Th_top (Or.inl kw_242) cl_Th (pt rfl rfl hp0) (ct_Th_top hp0 hc1) ⟨by decide, by decide⟩ rfl hl.1 (Nat.le_of_ble_eq_true rfl) d_Mo_topOf_1 rfl ?_
  refine ww_st (st' := [.int v1]) rfl ?_
  refine ww_istore_n (pc := 4) g.1 (lv' := [(2, .int v1), (0, .ref (q.1 0 0)), (1, .ref (q.1 28 l1))]) d_Mo_topOf_4 rfl hl (by decide) rfl fun ls hl => ?_
  obtain ⟨e5, s1, hw, h⟩ := oB_of h
  refine oW_rule (Wh := fun (x : Int32 × Int32) (s : S1) => ∀ ls : Array Slot, (0 ≤ x.1 ∧ x.1 < 33) → lv_has ls 3 [(0, .ref (q.1 0 0)), (1, .ref (q.1 28 x.1)), (2, .int x.2)] → WW X q s 5 ls []) (We := fun (e : (Int32 × Int32) ⊕ (Unit)) (s : S1) => (Sum.elim (fun y : Int32 × Int32 => ∀ ls : Array Slot, (0 ≤ y.1 ∧ y.1 < 33) → lv_has ls 3 [(0, .ref (q.1 0 0)), (1, .ref (q.1 28 y.1)), (2, .int y.2)] → WW X q s 18 ls []) (fun y : Unit => ∀ ls : Array Slot, lv_has ls 3 [] → WW X q s 48 ls [])) e) (fun x s o hb hc => lp_Mo_topOf_L5 (q := q) g x s o hb hc) hw ?_ ls hp0 (lv_sub hl [1, 2, 0] rfl)
  clear hw hl
  clear ls
  generalize s1 = s at h ⊢
  rcases e5 with y5_18 | y5_48
  · intro ls hq5_0 hl
    dsimp only [Sum.elim_inl, Sum.elim_inr] at h
    refine ww_aload_n (pc := 18) g.1 d_Mo_topOf_18 rfl (lv_at hl 1 rfl) ?_
    refine ww_gR (pc := 19) g (k := 14) cl_Th (pt rfl rfl hq5_0) (by decide) (Or.inl kw_260) (f := 3598) (t := 33) rfl rfl rfl d_Mo_topOf_19 ?_
    refine ww_iload_n (pc := 22) g.1 d_Mo_topOf_22 rfl (lv_at hl 2 rfl) ?_
    refine ww_ai (pc := 23) g (pt rfl rfl hq5_0) rfl rfl d_Mo_topOf_23 h fun v23 h => ?_
    refine ww_aload_n (pc := 24) g.1 d_Mo_topOf_24 rfl (lv_at hl 0 rfl) ?_
    refine ww_gR (pc := 25) g (k := 8) cl_Mo (pz rfl (by decide)) (by decide) (Or.inl kw_42) (f := 8) (t := 44) rfl rfl rfl d_Mo_topOf_25 ?_
    refine ww_aload_n (pc := 28) g.1 d_Mo_topOf_28 rfl (lv_at hl 0 rfl) ?_
    refine ww_gR (pc := 29) g (k := 49) cl_Mo (pz rfl (by decide)) (by decide) (Or.inl kw_89) (f := 49) (t := 62) rfl rfl rfl d_Mo_topOf_29 ?_
    refine ww_aload_n (pc := 32) g.1 d_Mo_topOf_32 rfl (lv_at hl 1 rfl) ?_
    refine ww_gR (pc := 33) g (k := 12) cl_Th (pt rfl rfl hq5_0) (by decide) (Or.inl kw_158) (f := 3596) (t := 31) rfl rfl rfl d_Mo_topOf_33 ?_
    refine ww_iload_n (pc := 36) g.1 d_Mo_topOf_36 rfl (lv_at hl 2 rfl) ?_
    refine ww_ai (pc := 37) g (pt rfl rfl hq5_0) rfl rfl d_Mo_topOf_37 h fun v37 h => ?_
    refine ww_ai (pc := 38) g (pz rfl (by decide)) rfl rfl d_Mo_topOf_38 h fun v38 h => ?_
    refine ww_ai (pc := 39) g (pz rfl (by decide)) rfl rfl d_Mo_topOf_39 h fun v39 h => ?_
    refine ww_iadd (pc := 40) g.1 d_Mo_topOf_40 ?_
    exact ww_iretH (pc := 41) g h hR d_Mo_topOf_41
  · intro ls hl
    dsimp only [Sum.elim_inl, Sum.elim_inr] at h
    refine ww_iconst (pc := 48) g.1 (v := 0) d_Mo_topOf_48 (by decide) ?_
    exact ww_iretH (pc := 49) g h hR d_Mo_topOf_49

theorem kw_358 : Cond.methodLink R_Mo 552 y_Mo_entry ∈ wA := kinm (show _ ∈ tables_1 from (List.mem_append_right _ (List.mem_append_right _ (List.mem_append_right _ (List.mem_append_right _ (List.mem_append_right _ (List.mem_append_right _ (List.mem_append_right _ (List.mem_append_right _ (List.mem_append_right _ (List.mem_append_right _ (List.mem_append_right _ (List.mem_append_left _ (List.mem_of_getElem? (l := tables_1_12) (i := 85) (by decide +kernel))))))))))))))) (by decide +kernel)
theorem kw_359 : Cond.instanceMethod y_Mo_raw ∈ wA := kinm (show _ ∈ tables_1 from (List.mem_append_right _ (List.mem_append_right _ (List.mem_append_right _ (List.mem_append_right _ (List.mem_append_right _ (List.mem_append_right _ (List.mem_append_right _ (List.mem_append_right _ (List.mem_append_right _ (List.mem_append_right _ (List.mem_append_right _ (List.mem_append_left _ (List.mem_of_getElem? (l := tables_1_12) (i := 169) (by decide +kernel))))))))))))))) (by decide +kernel)
theorem kw_360 : Cond.selects R_Mo y_Mo_raw y_Mo_raw ∈ wA := kinp 159 (by decide +kernel) (by decide +kernel)
def M_Mo_raw_j54 (k0 : Int64) : M (Int32) :=
  oB (oPL 67 0 k0) fun _ =>
  oB (oGI 66 0) fun v58 =>
  oC (v58 = 0)
    (oR 0)
    (oR 1)

def M_Mo_raw_j34 (l5 : Int32) (k0 : Int32) : M (Int32) :=
  oB (oPI 66 0 k0) fun _ =>
  oC (0 ≤ l5)
    (oB (oGI 9343 0) fun v48 =>
    oB (oK (v48 = 1)) fun _ =>
    oB (oAL 72 300000 0 l5) fun v53 =>
    M_Mo_raw_j54 v53)
    (M_Mo_raw_j54 0)

def M_Mo_raw_j15 (k0 : Int32) : M (Int32) :=
  oC (0 ≤ k0)
    (oB (oGI 9087 0) fun v28 =>
    oB (oK (v28 = 1)) fun _ =>
    oB (oAI 70 300000 0 k0) fun v33 =>
    M_Mo_raw_j34 k0 v33)
    (M_Mo_raw_j34 k0 0)

def M_Mo_raw (l1 : Int32) (l2 : Int32) (l3 : Int64) : M (Int32) :=
  oC (l2 = 0)
    (M_Mo_raw_j15 (-1))
    (oB (M_Mo_entry l1 l2 l3) fun v12 =>
    M_Mo_raw_j15 v12)

theorem cv_Mo_raw : CV y_Mo_raw b_Mo_raw 6 (some .boolean) 3 := ⟨kw_359, kw_360, kw_17, k_Mo_raw, by decide +kernel⟩
theorem j_Mo_raw_j54 {X : Cx} {q : PL} (g : Gd X y_Mo_raw b_Mo_raw 6 (some .boolean) 3 74 R_Mo) {o : (Int32) × S1} (hR : Rt X q o.2 (some (.int o.1))) (k0 : Int64) (s : S1) (ls : Array Slot) (hl : lv_has ls 6 [(0, .ref (q.1 0 0))]) (h : M_Mo_raw_j54 k0 s = some o) : WW X q s 54 ls [.long k0, .ref (q.1 0 0)] := by
  unfold M_Mo_raw_j54 at h
  refine ww_pL (pc := 54) g (k := 67) cl_Mo (pz rfl (by decide)) (by decide) (Or.inl kw_96) rfl (f := 67) rfl rfl rfl rfl d_Mo_raw_54 h fun s hs h => ?_
  refine ww_aload_n (pc := 57) g.1 d_Mo_raw_57 rfl (lv_at hl 0 rfl) ?_
  refine ww_gI (pc := 58) g (k := 66) cl_Mo (pz rfl (by decide)) (by decide) (Or.inl kw_94) (f := 66) rfl rfl d_Mo_raw_58 h fun v58 h => ?_
  refine ww_if_eq (pc := 61) (tgt := 68) g.1 d_Mo_raw_61 (by decide) h (fun c h => ?_) (fun c h => ?_)
  · refine ww_iconst (pc := 68) g.1 (v := 0) d_Mo_raw_68 (by decide) ?_
    exact ww_zretH (pc := 69) g h hR (Or.inl rfl) d_Mo_raw_69
  · refine ww_iconst (pc := 64) g.1 (v := 1) d_Mo_raw_64 (by decide) ?_
    refine ww_goto (pc := 65) (tgt := 69) g.1 d_Mo_raw_65 (by decide) ?_
    exact ww_zretH (pc := 69) g h hR (Or.inr rfl) d_Mo_raw_69

theorem j_Mo_raw_j34 {X : Cx} {q : PL} (g : Gd X y_Mo_raw b_Mo_raw 6 (some .boolean) 3 74 R_Mo) {o : (Int32) × S1} (hR : Rt X q o.2 (some (.int o.1))) (l5 : Int32) (k0 : Int32) (s : S1) (ls : Array Slot) (hl : lv_has ls 6 [(0, .ref (q.1 0 0)), (5, .int l5)]) (h : M_Mo_raw_j34 l5 k0 s = some o) : WW X q s 34 ls [.int k0, .ref (q.1 0 0)] := by
  unfold M_Mo_raw_j34 at h
  refine ww_pI (pc := 34) g (k := 66) cl_Mo (pz rfl (by decide)) (by decide) (Or.inl kw_94) rfl (f := 66) rfl rfl rfl rfl d_Mo_raw_34 h fun s hs h => ?_
  refine ww_aload_n (pc := 37) g.1 d_Mo_raw_37 rfl (lv_at hl 0 rfl) ?_
  refine ww_iload (pc := 38) g.1 d_Mo_raw_38 (lv_at hl 1 rfl) ?_
  refine ww_if_ge (pc := 40) (tgt := 47) g.1 d_Mo_raw_40 (by decide) h (fun c h => ?_) (fun c h => ?_)
  · refine ww_aload_n (pc := 47) g.1 d_Mo_raw_47 rfl (lv_at hl 0 rfl) ?_
    refine ww_g5 (pc := 48) g (k := 60) cl_Mo (pz rfl (by decide)) (by decide) (Or.inl kw_130) (f := 60) (t := 72) (f2 := 9343) rfl rfl rfl rfl d_Mo_raw_48 h fun v48 hv48 h => ?_
    refine ww_ok h fun cv48 h => ?_
    refine ww_dn cv48 ?_
    have pd48 : prs s 72 0 := pd (f := 9343) rfl (by decide) hv48 cv48
    refine ww_iload (pc := 51) g.1 d_Mo_raw_51 (lv_at hl 1 rfl) ?_
    refine ww_al (pc := 53) g pd48 rfl rfl d_Mo_raw_53 h fun v53 h => ?_
    exact j_Mo_raw_j54 g hR v53 s ls (lv_sub hl [0] rfl) h
  · refine ww_lconst (pc := 43) g.1 (v := 0) d_Mo_raw_43 (by decide) ?_
    refine ww_goto (pc := 44) (tgt := 54) g.1 d_Mo_raw_44 (by decide) ?_
    exact j_Mo_raw_j54 g hR 0 s ls (lv_sub hl [0] rfl) h

theorem j_Mo_raw_j15 {X : Cx} {q : PL} (g : Gd X y_Mo_raw b_Mo_raw 6 (some .boolean) 3 74 R_Mo) {o : (Int32) × S1} (hR : Rt X q o.2 (some (.int o.1))) (k0 : Int32) (s : S1) (ls : Array Slot) (hl : lv_has ls 6 [(0, .ref (q.1 0 0))]) (h : M_Mo_raw_j15 k0 s = some o) : WW X q s 15 ls [.int k0] := by
  unfold M_Mo_raw_j15 at h
  refine ww_istore (pc := 15) g.1 (lv' := [(5, .int k0), (0, .ref (q.1 0 0))]) d_Mo_raw_15 hl (by decide) rfl fun ls hl => ?_
  refine ww_aload_n (pc := 17) g.1 d_Mo_raw_17 rfl (lv_at hl 1 rfl) ?_
  refine ww_iload (pc := 18) g.1 d_Mo_raw_18 (lv_at hl 0 rfl) ?_
  refine ww_if_ge (pc := 20) (tgt := 27) g.1 d_Mo_raw_20 (by decide) h (fun c h => ?_) (fun c h => ?_)
  · refine ww_aload_n (pc := 27) g.1 d_Mo_raw_27 rfl (lv_at hl 1 rfl) ?_
    refine ww_g5 (pc := 28) g (k := 58) cl_Mo (pz rfl (by decide)) (by decide) (Or.inl kw_129) (f := 58) (t := 70) (f2 := 9087) rfl rfl rfl rfl d_Mo_raw_28 h fun v28 hv28 h => ?_
    refine ww_ok h fun cv28 h => ?_
    refine ww_dn cv28 ?_
    have pd28 : prs s 70 0 := pd (f := 9087) rfl (by decide) hv28 cv28
    refine ww_iload (pc := 31) g.1 d_Mo_raw_31 (lv_at hl 0 rfl) ?_
    refine ww_ab (pc := 33) g pd28 rfl rfl d_Mo_raw_33 h fun v33 h => ?_
    exact j_Mo_raw_j34 g hR k0 v33 s ls (lv_sub hl [1, 0] rfl) h
  · refine ww_iconst (pc := 23) g.1 (v := 0) d_Mo_raw_23 (by decide) ?_
    refine ww_goto (pc := 24) (tgt := 34) g.1 d_Mo_raw_24 (by decide) ?_
    exact j_Mo_raw_j34 g hR k0 0 s ls (lv_sub hl [1, 0] rfl) h

theorem ct_Mo_raw {l : Launch} {P : PP} {q : PL} {s s' : S1} {l1 : Int32} {l2 : Int32} {l3 : Int64} {r : Int32} (h : M_Mo_raw l1 l2 l3 s = some (r, s')) : Ct l y_Mo_raw b_Mo_raw 6 (some .boolean) 3 74 P q s [.ref (q.1 0 0), .int l1, .int l2, .long l3] (some (.int r)) q s' := by
  refine ct_of (by decide) (Nat.le_of_ble_eq_true rfl) fun X ls eP el g hR hl => ?_
  have hR : Rt X q ((r, s') : Int32 × S1).2 (some (.int ((r, s') : Int32 × S1).1)) := hR
  have hl : lv_has ls 6 [(0, .ref (q.1 0 0)), (1, .int l1), (2, .int l2), (3, .long l3)] := hl
  generalize (r, s') = o at h hR
  unfold M_Mo_raw at h
  refine ww_iload_n (pc := 0) g.1 d_Mo_raw_0 rfl (lv_at hl 2 rfl) ?_
  refine ww_if_ne (pc := 1) (tgt := 8) g.1 d_Mo_raw_1 (by decide) h (fun c h => ?_) (fun c h => ?_)
  · refine ww_aload_n (pc := 8) g.1 d_Mo_raw_8 rfl (lv_at hl 0 rfl) ?_
    refine ww_iload_n (pc := 9) g.1 d_Mo_raw_9 rfl (lv_at hl 1 rfl) ?_
    refine ww_iload_n (pc := 10) g.1 d_Mo_raw_10 rfl (lv_at hl 2 rfl) ?_
    refine ww_lload_n (pc := 11) g.1 d_Mo_raw_11 rfl (lv_at hl 3 rfl) ?_
    obtain ⟨v12, s, hc12, h⟩ := oB_of h
    refine ww_callV (pc := 12) (rest := []) g cv_Mo_entry (Or.inl kw_358) cl_Mo (pz rfl (by decide)) (ct_Mo_entry hc12) ⟨by decide, by decide⟩ rfl hl.1 (Nat.le_of_ble_eq_true rfl) d_Mo_raw_12 rfl ?_
    refine ww_st (st' := [.int v12]) rfl ?_
    exact j_Mo_raw_j15 g hR v12 s ls (lv_sub hl [0] rfl) h
  · refine ww_iconst (pc := 4) g.1 (v := (-1)) d_Mo_raw_4 (by decide) ?_
    refine ww_goto (pc := 5) (tgt := 15) g.1 d_Mo_raw_5 (by decide) ?_
    exact j_Mo_raw_j15 g hR (-1) s ls (lv_sub hl [0] rfl) h

theorem kw_361 : Cond.fieldLink R_Mo 403 "LuaMachineModel" "event" "[I" ∈ wA := kinm (show _ ∈ tables_1 from (List.mem_append_right _ (List.mem_append_right _ (List.mem_append_right _ (List.mem_append_right _ (List.mem_append_right _ (List.mem_append_right _ (List.mem_append_right _ (List.mem_append_right _ (List.mem_append_right _ (List.mem_append_left _ (List.mem_of_getElem? (l := tables_1_10) (i := 143) (by decide +kernel))))))))))))) (by decide +kernel)
theorem kw_362 : Cond.methodLink R_Mo 581 y_Mo_raw ∈ wA := kinm (show _ ∈ tables_1 from (List.mem_append_right _ (List.mem_append_right _ (List.mem_append_right _ (List.mem_append_right _ (List.mem_append_right _ (List.mem_append_right _ (List.mem_append_right _ (List.mem_append_right _ (List.mem_append_right _ (List.mem_append_right _ (List.mem_append_right _ (List.mem_append_left _ (List.mem_of_getElem? (l := tables_1_12) (i := 167) (by decide +kernel))))))))))))))) (by decide +kernel)
theorem kw_363 : Cond.instanceMethod y_Mo_setMeta ∈ wA := kinm (show _ ∈ tables_1 from (List.mem_append_right _ (List.mem_append_right _ (List.mem_append_right _ (List.mem_append_right _ (List.mem_append_right _ (List.mem_append_right _ (List.mem_append_right _ (List.mem_append_right _ (List.mem_append_right _ (List.mem_append_right _ (List.mem_append_right _ (List.mem_append_left _ (List.mem_of_getElem? (l := tables_1_12) (i := 235) (by decide +kernel))))))))))))))) (by decide +kernel)
theorem kw_364 : Cond.selects R_Mo y_Mo_setMeta y_Mo_setMeta ∈ wA := kinp 173 (by decide +kernel) (by decide +kernel)
def M_Mo_setMeta_j27  : M (Unit) :=
  oB (M_Mo_raise 2) fun v29 =>
  oR ()

def M_Mo_setMeta_j104 (l1 : Int32) (k0 : Int32) (k1 : Int32) : M (Unit) :=
  oB (oSI 65 4100 0 k1 k0) fun _ =>
  oB (M_Mo_give 5 l1.toInt64) fun _ =>
  oR ()

def M_Mo_setMeta_j80 (l1 : Int32) : M (Unit) :=
  oB (M_Mo_is 1 5) fun v88 =>
  oC (v88 = 0)
    (M_Mo_setMeta_j104 l1 (-1) l1)
    (oB (M_Mo_av 1) fun v96 =>
    M_Mo_setMeta_j104 l1 v96.toInt32 l1)

def M_Mo_setMeta_j34  : M (Unit) :=
  oB (M_Mo_av 0) fun v36 =>
  oB (oAI 65 4100 0 v36.toInt32) fun v46 =>
  oC (v46 < 0)
    (M_Mo_setMeta_j80 v36.toInt32)
    (oB (oAI 65 4100 0 v36.toInt32) fun v56 =>
    oB (oAI 82 22 0 21) fun v64 =>
    oB (M_Mo_raw v56 4 v64.toInt64) fun v66 =>
    oC (v66 = 0)
      (M_Mo_setMeta_j80 v36.toInt32)
      (oB (M_Mo_raise 8) fun v75 =>
      oR ()))

def M_Mo_setMeta  : M (Unit) :=
  oB (M_Mo_is 0 5) fun v3 =>
  oC (v3 = 0)
    (M_Mo_setMeta_j27)
    (oB (M_Mo_is 1 5) fun v12 =>
    oC (v12 = 0)
      (oB (M_Mo_is 1 0) fun v21 =>
      oC (v21 = 0)
        (M_Mo_setMeta_j27)
        (M_Mo_setMeta_j34))
      (M_Mo_setMeta_j34))

theorem cv_Mo_setMeta : CV y_Mo_setMeta b_Mo_setMeta 2 none 0 := ⟨kw_363, kw_364, kw_17, k_Mo_setMeta, by decide +kernel⟩
theorem j_Mo_setMeta_j27 {X : Cx} {q : PL} (g : Gd X y_Mo_setMeta b_Mo_setMeta 2 none 4 99 R_Mo) {o : (Unit) × S1} (hR : Rt X q o.2 none)  (s : S1) (ls : Array Slot) (hl : lv_has ls 2 [(0, .ref (q.1 0 0))]) (h : M_Mo_setMeta_j27 s = some o) : WW X q s 27 ls [] := by
  unfold M_Mo_setMeta_j27 at h
  refine ww_aload_n (pc := 27) g.1 d_Mo_setMeta_27 rfl (lv_at hl 0 rfl) ?_
  refine ww_iconst (pc := 28) g.1 (v := 2) d_Mo_setMeta_28 (by decide) ?_
  obtain ⟨v29, s, hc29, h⟩ := oB_of h
  refine ww_callV (pc := 29) (rest := []) g cv_Mo_raise (Or.inl kw_162) cl_Mo (pz rfl (by decide)) (ct_Mo_raise hc29) ⟨by decide, by decide⟩ rfl hl.1 (Nat.le_of_ble_eq_true rfl) d_Mo_setMeta_29 rfl ?_
  refine ww_st (st' := [.int v29]) rfl ?_
  refine ww_pop (pc := 32) g.1 d_Mo_setMeta_32 rfl ?_
  exact ww_vretH (pc := 33) g h hR d_Mo_setMeta_33

theorem j_Mo_setMeta_j104 {X : Cx} {q : PL} (g : Gd X y_Mo_setMeta b_Mo_setMeta 2 none 4 99 R_Mo) {o : (Unit) × S1} (hR : Rt X q o.2 none) (l1 : Int32) (k0 : Int32) (k1 : Int32) (s : S1) (ls : Array Slot) (hl : lv_has ls 2 [(0, .ref (q.1 0 0)), (1, .int l1)]) (h : M_Mo_setMeta_j104 l1 k0 k1 s = some o) : WW X q s 104 ls [.int k0, .int k1, .ref (q.1 65 0)] := by
  unfold M_Mo_setMeta_j104 at h
  refine ww_si (pc := 104) g (pz rfl (by decide)) rfl rfl d_Mo_setMeta_104 h fun s hs h => ?_
  refine ww_aload_n (pc := 105) g.1 d_Mo_setMeta_105 rfl (lv_at hl 0 rfl) ?_
  refine ww_iconst (pc := 106) g.1 (v := 5) d_Mo_setMeta_106 (by decide) ?_
  refine ww_iload_n (pc := 107) g.1 d_Mo_setMeta_107 rfl (lv_at hl 1 rfl) ?_
  refine ww_i2l (pc := 108) g.1 (v := l1.toInt64) d_Mo_setMeta_108 rfl ?_
  obtain ⟨v109, s, hc109, h⟩ := oB_of h
  refine ww_callV (pc := 109) (rest := []) g cv_Mo_give (Or.inl kw_218) cl_Mo (pz rfl (by decide)) (ct_Mo_give hc109) ⟨by decide, by decide⟩ rfl hl.1 (Nat.le_of_ble_eq_true rfl) d_Mo_setMeta_109 rfl ?_
  refine ww_st (st' := []) rfl ?_
  exact ww_vretH (pc := 112) g h hR d_Mo_setMeta_112

theorem j_Mo_setMeta_j80 {X : Cx} {q : PL} (g : Gd X y_Mo_setMeta b_Mo_setMeta 2 none 4 99 R_Mo) {o : (Unit) × S1} (hR : Rt X q o.2 none) (l1 : Int32) (s : S1) (ls : Array Slot) (hl : lv_has ls 2 [(0, .ref (q.1 0 0)), (1, .int l1)]) (h : M_Mo_setMeta_j80 l1 s = some o) : WW X q s 80 ls [] := by
  unfold M_Mo_setMeta_j80 at h
  refine ww_aload_n (pc := 80) g.1 d_Mo_setMeta_80 rfl (lv_at hl 0 rfl) ?_
  refine ww_gR (pc := 81) g (k := 52) cl_Mo (pz rfl (by decide)) (by decide) (Or.inl kw_347) (f := 52) (t := 65) rfl rfl rfl d_Mo_setMeta_81 ?_
  refine ww_iload_n (pc := 84) g.1 d_Mo_setMeta_84 rfl (lv_at hl 1 rfl) ?_
  refine ww_aload_n (pc := 85) g.1 d_Mo_setMeta_85 rfl (lv_at hl 0 rfl) ?_
  refine ww_iconst (pc := 86) g.1 (v := 1) d_Mo_setMeta_86 (by decide) ?_
  refine ww_iconst (pc := 87) g.1 (v := 5) d_Mo_setMeta_87 (by decide) ?_
  obtain ⟨v88, s, hc88, h⟩ := oB_of h
  refine ww_callV (pc := 88) (rest := [.int l1, .ref (q.1 65 0)]) g cv_Mo_is (Or.inl kw_212) cl_Mo (pz rfl (by decide)) (ct_Mo_is hc88) ⟨by decide, by decide⟩ rfl hl.1 (Nat.le_of_ble_eq_true rfl) d_Mo_setMeta_88 rfl ?_
  refine ww_st (st' := [.int v88, .int l1, .ref (q.1 65 0)]) rfl ?_
  refine ww_if_eq (pc := 91) (tgt := 103) g.1 d_Mo_setMeta_91 (by decide) h (fun c h => ?_) (fun c h => ?_)
  · refine ww_iconst (pc := 103) g.1 (v := (-1)) d_Mo_setMeta_103 (by decide) ?_
    exact j_Mo_setMeta_j104 g hR l1 (-1) l1 s ls (lv_sub hl [0, 1] rfl) h
  · refine ww_aload_n (pc := 94) g.1 d_Mo_setMeta_94 rfl (lv_at hl 0 rfl) ?_
    refine ww_iconst (pc := 95) g.1 (v := 1) d_Mo_setMeta_95 (by decide) ?_
    obtain ⟨v96, s, hc96, h⟩ := oB_of h
    refine ww_callV (pc := 96) (rest := [.int l1, .ref (q.1 65 0)]) g cv_Mo_av (Or.inl kw_199) cl_Mo (pz rfl (by decide)) (ct_Mo_av hc96) ⟨by decide, by decide⟩ rfl hl.1 (Nat.le_of_ble_eq_true rfl) d_Mo_setMeta_96 rfl ?_
    refine ww_st (st' := [.long v96, .int l1, .ref (q.1 65 0)]) rfl ?_
    refine ww_l2i (pc := 99) g.1 (v := v96.toInt32) d_Mo_setMeta_99 rfl ?_
    refine ww_goto (pc := 100) (tgt := 104) g.1 d_Mo_setMeta_100 (by decide) ?_
    exact j_Mo_setMeta_j104 g hR l1 v96.toInt32 l1 s ls (lv_sub hl [0, 1] rfl) h

theorem j_Mo_setMeta_j34 {X : Cx} {q : PL} (g : Gd X y_Mo_setMeta b_Mo_setMeta 2 none 4 99 R_Mo) {o : (Unit) × S1} (hR : Rt X q o.2 none)  (s : S1) (ls : Array Slot) (hl : lv_has ls 2 [(0, .ref (q.1 0 0))]) (h : M_Mo_setMeta_j34 s = some o) : WW X q s 34 ls [] := by
  unfold M_Mo_setMeta_j34 at h
  refine ww_aload_n (pc := 34) g.1 d_Mo_setMeta_34 rfl (lv_at hl 0 rfl) ?_
  refine ww_iconst (pc := 35) g.1 (v := 0) d_Mo_setMeta_35 (by decide) ?_
  obtain ⟨v36, s, hc36, h⟩ := oB_of h
  refine ww_callV (pc := 36) (rest := []) g cv_Mo_av (Or.inl kw_199) cl_Mo (pz rfl (by decide)) (ct_Mo_av hc36) ⟨by decide, by decide⟩ rfl hl.1 (Nat.le_of_ble_eq_true rfl) d_Mo_setMeta_36 rfl ?_
  refine ww_st (st' := [.long v36]) rfl ?_
  refine ww_l2i (pc := 39) g.1 (v := v36.toInt32) d_Mo_setMeta_39 rfl ?_
  refine ww_istore_n (pc := 40) g.1 (lv' := [(1, .int v36.toInt32), (0, .ref (q.1 0 0))]) d_Mo_setMeta_40 rfl hl (by decide) rfl fun ls hl => ?_
  refine ww_aload_n (pc := 41) g.1 d_Mo_setMeta_41 rfl (lv_at hl 1 rfl) ?_
  refine ww_gR (pc := 42) g (k := 52) cl_Mo (pz rfl (by decide)) (by decide) (Or.inl kw_347) (f := 52) (t := 65) rfl rfl rfl d_Mo_setMeta_42 ?_
  refine ww_iload_n (pc := 45) g.1 d_Mo_setMeta_45 rfl (lv_at hl 0 rfl) ?_
  refine ww_ai (pc := 46) g (pz rfl (by decide)) rfl rfl d_Mo_setMeta_46 h fun v46 h => ?_
  refine ww_if_lt (pc := 47) (tgt := 80) g.1 d_Mo_setMeta_47 (by decide) h (fun c h => ?_) (fun c h => ?_)
  · exact j_Mo_setMeta_j80 g hR v36.toInt32 s ls (lv_sub hl [1, 0] rfl) h
  · refine ww_aload_n (pc := 50) g.1 d_Mo_setMeta_50 rfl (lv_at hl 1 rfl) ?_
    refine ww_aload_n (pc := 51) g.1 d_Mo_setMeta_51 rfl (lv_at hl 1 rfl) ?_
    refine ww_gR (pc := 52) g (k := 52) cl_Mo (pz rfl (by decide)) (by decide) (Or.inl kw_347) (f := 52) (t := 65) rfl rfl rfl d_Mo_setMeta_52 ?_
    refine ww_iload_n (pc := 55) g.1 d_Mo_setMeta_55 rfl (lv_at hl 0 rfl) ?_
    refine ww_ai (pc := 56) g (pz rfl (by decide)) rfl rfl d_Mo_setMeta_56 h fun v56 h => ?_
    refine ww_iconst (pc := 57) g.1 (v := 4) d_Mo_setMeta_57 (by decide) ?_
    refine ww_aload_n (pc := 58) g.1 d_Mo_setMeta_58 rfl (lv_at hl 1 rfl) ?_
    refine ww_gR (pc := 59) g (k := 87) cl_Mo (pz rfl (by decide)) (by decide) (Or.inl kw_361) (f := 87) (t := 82) rfl rfl rfl d_Mo_setMeta_59 ?_
    refine ww_bipush (pc := 62) g.1 (v := 21) d_Mo_setMeta_62 (by decide) ?_
    refine ww_ai (pc := 64) g (pz rfl (by decide)) rfl rfl d_Mo_setMeta_64 h fun v64 h => ?_
    refine ww_i2l (pc := 65) g.1 (v := v64.toInt64) d_Mo_setMeta_65 rfl ?_
    obtain ⟨v66, s, hc66, h⟩ := oB_of h
    refine ww_callV (pc := 66) (rest := []) g cv_Mo_raw (Or.inl kw_362) cl_Mo (pz rfl (by decide)) (ct_Mo_raw hc66) ⟨by decide, by decide⟩ rfl hl.1 (Nat.le_of_ble_eq_true rfl) d_Mo_setMeta_66 rfl ?_
    refine ww_st (st' := [.int v66]) rfl ?_
    refine ww_if_eq (pc := 69) (tgt := 80) g.1 d_Mo_setMeta_69 (by decide) h (fun c h => ?_) (fun c h => ?_)
    · exact j_Mo_setMeta_j80 g hR v36.toInt32 s ls (lv_sub hl [1, 0] rfl) h
    · refine ww_aload_n (pc := 72) g.1 d_Mo_setMeta_72 rfl (lv_at hl 1 rfl) ?_
      refine ww_bipush (pc := 73) g.1 (v := 8) d_Mo_setMeta_73 (by decide) ?_
      obtain ⟨v75, s, hc75, h⟩ := oB_of h
      refine ww_callV (pc := 75) (rest := []) g cv_Mo_raise (Or.inl kw_162) cl_Mo (pz rfl (by decide)) (ct_Mo_raise hc75) ⟨by decide, by decide⟩ rfl hl.1 (Nat.le_of_ble_eq_true rfl) d_Mo_setMeta_75 rfl ?_
      refine ww_st (st' := [.int v75]) rfl ?_
      refine ww_pop (pc := 78) g.1 d_Mo_setMeta_78 rfl ?_
      exact ww_vretH (pc := 79) g h hR d_Mo_setMeta_79

theorem ct_Mo_setMeta {l : Launch} {P : PP} {q : PL} {s s' : S1}  {r : Unit} (h : M_Mo_setMeta s = some (r, s')) : Ct l y_Mo_setMeta b_Mo_setMeta 2 none 4 99 P q s [.ref (q.1 0 0)] none q s' := by
  refine ct_of (by decide) (Nat.le_of_ble_eq_true rfl) fun X ls eP el g hR hl => ?_
  have hR : Rt X q ((r, s') : Unit × S1).2 none := hR
  have hl : lv_has ls 2 [(0, .ref (q.1 0 0))] := hl
  generalize (r, s') = o at h hR
  unfold M_Mo_setMeta at h
  refine ww_aload_n (pc := 0) g.1 d_Mo_setMeta_0 rfl (lv_at hl 0 rfl) ?_
  refine ww_iconst (pc := 1) g.1 (v := 0) d_Mo_setMeta_1 (by decide) ?_
  refine ww_iconst (pc := 2) g.1 (v := 5) d_Mo_setMeta_2 (by decide) ?_
  obtain ⟨v3, s, hc3, h⟩ := oB_of h
  refine ww_callV (pc := 3) (rest := []) g cv_Mo_is (Or.inl kw_212) cl_Mo (pz rfl (by decide)) (ct_Mo_is hc3) ⟨by decide, by decide⟩ rfl hl.1 (Nat.le_of_ble_eq_true rfl) d_Mo_setMeta_3 rfl ?_
  refine ww_st (st' := [.int v3]) rfl ?_
  refine ww_if_eq (pc := 6) (tgt := 27) g.1 d_Mo_setMeta_6 (by decide) h (fun c h => ?_) (fun c h => ?_)
  · exact j_Mo_setMeta_j27 g hR s ls (lv_sub hl [0] rfl) h
  · refine ww_aload_n (pc := 9) g.1 d_Mo_setMeta_9 rfl (lv_at hl 0 rfl) ?_
    refine ww_iconst (pc := 10) g.1 (v := 1) d_Mo_setMeta_10 (by decide) ?_
    refine ww_iconst (pc := 11) g.1 (v := 5) d_Mo_setMeta_11 (by decide) ?_
    obtain ⟨v12, s, hc12, h⟩ := oB_of h
    refine ww_callV (pc := 12) (rest := []) g cv_Mo_is (Or.inl kw_212) cl_Mo (pz rfl (by decide)) (ct_Mo_is hc12) ⟨by decide, by decide⟩ rfl hl.1 (Nat.le_of_ble_eq_true rfl) d_Mo_setMeta_12 rfl ?_
    refine ww_st (st' := [.int v12]) rfl ?_
    refine ww_if_ne (pc := 15) (tgt := 34) g.1 d_Mo_setMeta_15 (by decide) h (fun c h => ?_) (fun c h => ?_)
    · exact j_Mo_setMeta_j34 g hR s ls (lv_sub hl [0] rfl) h
    · refine ww_aload_n (pc := 18) g.1 d_Mo_setMeta_18 rfl (lv_at hl 0 rfl) ?_
      refine ww_iconst (pc := 19) g.1 (v := 1) d_Mo_setMeta_19 (by decide) ?_
      refine ww_iconst (pc := 20) g.1 (v := 0) d_Mo_setMeta_20 (by decide) ?_
      obtain ⟨v21, s, hc21, h⟩ := oB_of h
      refine ww_callV (pc := 21) (rest := []) g cv_Mo_is (Or.inl kw_212) cl_Mo (pz rfl (by decide)) (ct_Mo_is hc21) ⟨by decide, by decide⟩ rfl hl.1 (Nat.le_of_ble_eq_true rfl) d_Mo_setMeta_21 rfl ?_
      refine ww_st (st' := [.int v21]) rfl ?_
      refine ww_if_ne (pc := 24) (tgt := 34) g.1 d_Mo_setMeta_24 (by decide) h (fun c h => ?_) (fun c h => ?_)
      · exact j_Mo_setMeta_j34 g hR s ls (lv_sub hl [0] rfl) h
      · exact j_Mo_setMeta_j27 g hR s ls (lv_sub hl [0] rfl) h

theorem kw_365 : Cond.instanceMethod y_Mo_getMeta ∈ wA := kinm (show _ ∈ tables_1 from (List.mem_append_right _ (List.mem_append_right _ (List.mem_append_right _ (List.mem_append_right _ (List.mem_append_right _ (List.mem_append_right _ (List.mem_append_right _ (List.mem_append_right _ (List.mem_append_right _ (List.mem_append_right _ (List.mem_append_right _ (List.mem_append_right _ (List.mem_append_left _ (List.mem_of_getElem? (l := tables_1_13) (i := 3) (by decide +kernel)))))))))))))))) (by decide +kernel)
theorem kw_366 : Cond.selects R_Mo y_Mo_getMeta y_Mo_getMeta ∈ wA := kinp 175 (by decide +kernel) (by decide +kernel)
def M_Mo_getMeta_j23  : M (Unit) :=
  oB (M_Mo_give 0 0) fun _ =>
  oR ()

def M_Mo_getMeta  : M (Unit) :=
  oB (M_Mo_is 0 5) fun v3 =>
  oC (v3 = 0)
    (M_Mo_getMeta_j23)
    (oB (M_Mo_av 0) fun v15 =>
    oB (oAI 65 4100 0 v15.toInt32) fun v19 =>
    oC (0 ≤ v19)
      (oB (M_Mo_av 0) fun v36 =>
      oB (oAI 65 4100 0 v36.toInt32) fun v40 =>
      oB (oAI 82 22 0 21) fun v51 =>
      oB (M_Mo_raw v40 4 v51.toInt64) fun v53 =>
      oC (v53 = 0)
        (oB (M_Mo_give 5 v40.toInt64) fun _ =>
        oR ())
        (oB (oGI 66 0) fun v61 =>
        oB (oGL 67 0) fun v65 =>
        oB (M_Mo_give v61 v65) fun _ =>
        oR ()))
      (M_Mo_getMeta_j23))

theorem cv_Mo_getMeta : CV y_Mo_getMeta b_Mo_getMeta 2 none 0 := ⟨kw_365, kw_366, kw_17, k_Mo_getMeta, by decide +kernel⟩
theorem j_Mo_getMeta_j23 {X : Cx} {q : PL} (g : Gd X y_Mo_getMeta b_Mo_getMeta 2 none 4 99 R_Mo) {o : (Unit) × S1} (hR : Rt X q o.2 none)  (s : S1) (ls : Array Slot) (hl : lv_has ls 2 [(0, .ref (q.1 0 0))]) (h : M_Mo_getMeta_j23 s = some o) : WW X q s 23 ls [] := by
  unfold M_Mo_getMeta_j23 at h
  refine ww_aload_n (pc := 23) g.1 d_Mo_getMeta_23 rfl (lv_at hl 0 rfl) ?_
  refine ww_iconst (pc := 24) g.1 (v := 0) d_Mo_getMeta_24 (by decide) ?_
  refine ww_lconst (pc := 25) g.1 (v := 0) d_Mo_getMeta_25 (by decide) ?_
  obtain ⟨v26, s, hc26, h⟩ := oB_of h
  refine ww_callV (pc := 26) (rest := []) g cv_Mo_give (Or.inl kw_218) cl_Mo (pz rfl (by decide)) (ct_Mo_give hc26) ⟨by decide, by decide⟩ rfl hl.1 (Nat.le_of_ble_eq_true rfl) d_Mo_getMeta_26 rfl ?_
  refine ww_st (st' := []) rfl ?_
  exact ww_vretH (pc := 29) g h hR d_Mo_getMeta_29

theorem ct_Mo_getMeta {l : Launch} {P : PP} {q : PL} {s s' : S1}  {r : Unit} (h : M_Mo_getMeta s = some (r, s')) : Ct l y_Mo_getMeta b_Mo_getMeta 2 none 4 99 P q s [.ref (q.1 0 0)] none q s' := by
  refine ct_of (by decide) (Nat.le_of_ble_eq_true rfl) fun X ls eP el g hR hl => ?_
  have hR : Rt X q ((r, s') : Unit × S1).2 none := hR
  have hl : lv_has ls 2 [(0, .ref (q.1 0 0))] := hl
  generalize (r, s') = o at h hR
  unfold M_Mo_getMeta at h
  refine ww_aload_n (pc := 0) g.1 d_Mo_getMeta_0 rfl (lv_at hl 0 rfl) ?_
  refine ww_iconst (pc := 1) g.1 (v := 0) d_Mo_getMeta_1 (by decide) ?_
  refine ww_iconst (pc := 2) g.1 (v := 5) d_Mo_getMeta_2 (by decide) ?_
  obtain ⟨v3, s, hc3, h⟩ := oB_of h
  refine ww_callV (pc := 3) (rest := []) g cv_Mo_is (Or.inl kw_212) cl_Mo (pz rfl (by decide)) (ct_Mo_is hc3) ⟨by decide, by decide⟩ rfl hl.1 (Nat.le_of_ble_eq_true rfl) d_Mo_getMeta_3 rfl ?_
  refine ww_st (st' := [.int v3]) rfl ?_
  refine ww_if_eq (pc := 6) (tgt := 23) g.1 d_Mo_getMeta_6 (by decide) h (fun c h => ?_) (fun c h => ?_)
  · exact j_Mo_getMeta_j23 g hR s ls (lv_sub hl [0] rfl) h
  · refine ww_aload_n (pc := 9) g.1 d_Mo_getMeta_9 rfl (lv_at hl 0 rfl) ?_
    refine ww_gR (pc := 10) g (k := 52) cl_Mo (pz rfl (by decide)) (by decide) (Or.inl kw_347) (f := 52) (t := 65) rfl rfl rfl d_Mo_getMeta_10 ?_
    refine ww_aload_n (pc := 13) g.1 d_Mo_getMeta_13 rfl (lv_at hl 0 rfl) ?_
    refine ww_iconst (pc := 14) g.1 (v := 0) d_Mo_getMeta_14 (by decide) ?_
    obtain ⟨v15, s, hc15, h⟩ := oB_of h
    refine ww_callV (pc := 15) (rest := [.ref (q.1 65 0)]) g cv_Mo_av (Or.inl kw_199) cl_Mo (pz rfl (by decide)) (ct_Mo_av hc15) ⟨by decide, by decide⟩ rfl hl.1 (Nat.le_of_ble_eq_true rfl) d_Mo_getMeta_15 rfl ?_
    refine ww_st (st' := [.long v15, .ref (q.1 65 0)]) rfl ?_
    refine ww_l2i (pc := 18) g.1 (v := v15.toInt32) d_Mo_getMeta_18 rfl ?_
    refine ww_ai (pc := 19) g (pz rfl (by decide)) rfl rfl d_Mo_getMeta_19 h fun v19 h => ?_
    refine ww_if_ge (pc := 20) (tgt := 30) g.1 d_Mo_getMeta_20 (by decide) h (fun c h => ?_) (fun c h => ?_)
    · refine ww_aload_n (pc := 30) g.1 d_Mo_getMeta_30 rfl (lv_at hl 0 rfl) ?_
      refine ww_gR (pc := 31) g (k := 52) cl_Mo (pz rfl (by decide)) (by decide) (Or.inl kw_347) (f := 52) (t := 65) rfl rfl rfl d_Mo_getMeta_31 ?_
      refine ww_aload_n (pc := 34) g.1 d_Mo_getMeta_34 rfl (lv_at hl 0 rfl) ?_
      refine ww_iconst (pc := 35) g.1 (v := 0) d_Mo_getMeta_35 (by decide) ?_
      obtain ⟨v36, s, hc36, h⟩ := oB_of h
      refine ww_callV (pc := 36) (rest := [.ref (q.1 65 0)]) g cv_Mo_av (Or.inl kw_199) cl_Mo (pz rfl (by decide)) (ct_Mo_av hc36) ⟨by decide, by decide⟩ rfl hl.1 (Nat.le_of_ble_eq_true rfl) d_Mo_getMeta_36 rfl ?_
      refine ww_st (st' := [.long v36, .ref (q.1 65 0)]) rfl ?_
      refine ww_l2i (pc := 39) g.1 (v := v36.toInt32) d_Mo_getMeta_39 rfl ?_
      refine ww_ai (pc := 40) g (pz rfl (by decide)) rfl rfl d_Mo_getMeta_40 h fun v40 h => ?_
      refine ww_istore_n (pc := 41) g.1 (lv' := [(1, .int v40), (0, .ref (q.1 0 0))]) d_Mo_getMeta_41 rfl hl (by decide) rfl fun ls hl => ?_
      refine ww_aload_n (pc := 42) g.1 d_Mo_getMeta_42 rfl (lv_at hl 1 rfl) ?_
      refine ww_iload_n (pc := 43) g.1 d_Mo_getMeta_43 rfl (lv_at hl 0 rfl) ?_
      refine ww_iconst (pc := 44) g.1 (v := 4) d_Mo_getMeta_44 (by decide) ?_
      refine ww_aload_n (pc := 45) g.1 d_Mo_getMeta_45 rfl (lv_at hl 1 rfl) ?_
      refine ww_gR (pc := 46) g (k := 87) cl_Mo (pz rfl (by decide)) (by decide) (Or.inl kw_361) (f := 87) (t := 82) rfl rfl rfl d_Mo_getMeta_46 ?_
      refine ww_bipush (pc := 49) g.1 (v := 21) d_Mo_getMeta_49 (by decide) ?_
      refine ww_ai (pc := 51) g (pz rfl (by decide)) rfl rfl d_Mo_getMeta_51 h fun v51 h => ?_
      refine ww_i2l (pc := 52) g.1 (v := v51.toInt64) d_Mo_getMeta_52 rfl ?_
      obtain ⟨v53, s, hc53, h⟩ := oB_of h
      refine ww_callV (pc := 53) (rest := []) g cv_Mo_raw (Or.inl kw_362) cl_Mo (pz rfl (by decide)) (ct_Mo_raw hc53) ⟨by decide, by decide⟩ rfl hl.1 (Nat.le_of_ble_eq_true rfl) d_Mo_getMeta_53 rfl ?_
      refine ww_st (st' := [.int v53]) rfl ?_
      refine ww_if_eq (pc := 56) (tgt := 74) g.1 d_Mo_getMeta_56 (by decide) h (fun c h => ?_) (fun c h => ?_)
      · refine ww_aload_n (pc := 74) g.1 d_Mo_getMeta_74 rfl (lv_at hl 1 rfl) ?_
        refine ww_iconst (pc := 75) g.1 (v := 5) d_Mo_getMeta_75 (by decide) ?_
        refine ww_iload_n (pc := 76) g.1 d_Mo_getMeta_76 rfl (lv_at hl 0 rfl) ?_
        refine ww_i2l (pc := 77) g.1 (v := v40.toInt64) d_Mo_getMeta_77 rfl ?_
        obtain ⟨v78, s, hc78, h⟩ := oB_of h
        refine ww_callV (pc := 78) (rest := []) g cv_Mo_give (Or.inl kw_218) cl_Mo (pz rfl (by decide)) (ct_Mo_give hc78) ⟨by decide, by decide⟩ rfl hl.1 (Nat.le_of_ble_eq_true rfl) d_Mo_getMeta_78 rfl ?_
        refine ww_st (st' := []) rfl ?_
        exact ww_vretH (pc := 81) g h hR d_Mo_getMeta_81
      · refine ww_aload_n (pc := 59) g.1 d_Mo_getMeta_59 rfl (lv_at hl 1 rfl) ?_
        refine ww_aload_n (pc := 60) g.1 d_Mo_getMeta_60 rfl (lv_at hl 1 rfl) ?_
        refine ww_gI (pc := 61) g (k := 66) cl_Mo (pz rfl (by decide)) (by decide) (Or.inl kw_94) (f := 66) rfl rfl d_Mo_getMeta_61 h fun v61 h => ?_
        refine ww_aload_n (pc := 64) g.1 d_Mo_getMeta_64 rfl (lv_at hl 1 rfl) ?_
        refine ww_gL (pc := 65) g (k := 67) cl_Mo (pz rfl (by decide)) (by decide) (Or.inl kw_96) (f := 67) rfl rfl d_Mo_getMeta_65 h fun v65 h => ?_
        obtain ⟨v68, s, hc68, h⟩ := oB_of h
        refine ww_callV (pc := 68) (rest := []) g cv_Mo_give (Or.inl kw_218) cl_Mo (pz rfl (by decide)) (ct_Mo_give hc68) ⟨by decide, by decide⟩ rfl hl.1 (Nat.le_of_ble_eq_true rfl) d_Mo_getMeta_68 rfl ?_
        refine ww_st (st' := []) rfl ?_
        refine ww_goto (pc := 71) (tgt := 81) g.1 d_Mo_getMeta_71 (by decide) ?_
        exact ww_vretH (pc := 81) g h hR d_Mo_getMeta_81
    · exact j_Mo_getMeta_j23 g hR s ls (lv_sub hl [0] rfl) h

theorem kw_367 : Cond.instanceMethod y_Mo_border ∈ wA := kinm (show _ ∈ tables_1 from (List.mem_append_right _ (List.mem_append_right _ (List.mem_append_right _ (List.mem_append_right _ (List.mem_append_right _ (List.mem_append_right _ (List.mem_append_right _ (List.mem_append_right _ (List.mem_append_right _ (List.mem_append_right _ (List.mem_append_right _ (List.mem_append_right _ (List.mem_append_left _ (List.mem_of_getElem? (l := tables_1_13) (i := 11) (by decide +kernel)))))))))))))))) (by decide +kernel)
theorem kw_368 : Cond.selects R_Mo y_Mo_border y_Mo_border ∈ wA := kinp 177 (by decide +kernel) (by decide +kernel)
def M_Mo_border_L2 : (Int32 × Int64) → M ((Int32 × Int64) ⊕ ((Int64))) := fun x =>
  oB (M_Mo_raw x.1 3 (x.2 + 1)) fun v8 =>
  oC (v8 = 0)
    (oR (Sum.inr x.2))
    (oL (x.2 + 1) fun l2_17 =>
    oR (Sum.inl (x.1, l2_17)))

def M_Mo_border (l1 : Int32) : M (Int64) :=
  oB (oW M_Mo_border_L2 (l1, 0)) fun e2 =>
  oR e2

theorem cv_Mo_border : CV y_Mo_border b_Mo_border 4 (some .long) 1 := ⟨kw_367, kw_368, kw_17, k_Mo_border, by decide +kernel⟩
theorem lp_Mo_border_L2 {X : Cx} {q : PL} (g : Gd X y_Mo_border b_Mo_border 4 (some .long) 4 99 R_Mo) (x : Int32 × Int64) (s : S1) (o : ((Int32 × Int64) ⊕ ((Int64))) × S1) (h : M_Mo_border_L2 x s = some o) (hR : (Sum.elim (fun y : Int32 × Int64 => ∀ ls : Array Slot, lv_has ls 4 [(0, .ref (q.1 0 0)), (1, .int y.1), (2, .long y.2)] → WW X q o.2 2 ls []) (fun y : Int64 => ∀ ls : Array Slot, lv_has ls 4 [(2, .long y)] → WW X q o.2 21 ls []) o.1)) : ∀ ls : Array Slot, lv_has ls 4 [(0, .ref (q.1 0 0)), (1, .int x.1), (2, .long x.2)] → WW X q s 2 ls [] := by
  intro ls hl
  unfold M_Mo_border_L2 at h
  refine ww_aload_n (pc := 2) g.1 d_Mo_border_2 rfl (lv_at hl 0 rfl) ?_
  refine ww_iload_n (pc := 3) g.1 d_Mo_border_3 rfl (lv_at hl 1 rfl) ?_
  refine ww_iconst (pc := 4) g.1 (v := 3) d_Mo_border_4 (by decide) ?_
  refine ww_lload_n (pc := 5) g.1 d_Mo_border_5 rfl (lv_at hl 2 rfl) ?_
  refine ww_lconst (pc := 6) g.1 (v := 1) d_Mo_border_6 (by decide) ?_
  refine ww_ladd (pc := 7) g.1 d_Mo_border_7 ?_
  obtain ⟨v8, s, hc8, h⟩ := oB_of h
  refine ww_callV (pc := 8) (rest := []) g cv_Mo_raw (Or.inl kw_362) cl_Mo (pz rfl (by decide)) (ct_Mo_raw hc8) ⟨by decide, by decide⟩ rfl hl.1 (Nat.le_of_ble_eq_true rfl) d_Mo_border_8 rfl ?_
  refine ww_st (st' := [.int v8]) rfl ?_
  refine ww_if_eq (pc := 11) (tgt := 21) g.1 d_Mo_border_11 (by decide) h (fun c h => ?_) (fun c h => ?_)
  · rw [oR_eq h] at hR
    exact hR ls (lv_sub hl [2] rfl)
  · refine ww_lload_n (pc := 14) g.1 d_Mo_border_14 rfl (lv_at hl 2 rfl) ?_
    refine ww_lconst (pc := 15) g.1 (v := 1) d_Mo_border_15 (by decide) ?_
    refine ww_ladd (pc := 16) g.1 d_Mo_border_16 ?_
    refine ww_letl h fun l2_17 h => ?_
    refine ww_lstore_n (pc := 17) g.1 (lv' := [(2, .long l2_17), (0, .ref (q.1 0 0)), (1, .int x.1)]) d_Mo_border_17 rfl hl (by decide) rfl fun ls hl => ?_
    refine ww_goto (pc := 18) (tgt := 2) g.1 d_Mo_border_18 (by decide) ?_
    rw [oR_eq h] at hR
    exact hR ls (lv_sub hl [1, 2, 0] rfl)

theorem ct_Mo_border {l : Launch} {P : PP} {q : PL} {s s' : S1} {l1 : Int32} {r : Int64} (h : M_Mo_border l1 s = some (r, s')) : Ct l y_Mo_border b_Mo_border 4 (some .long) 4 99 P q s [.ref (q.1 0 0), .int l1] (some (.long r)) q s' := by
  refine ct_of (by decide) (Nat.le_of_ble_eq_true rfl) fun X ls eP el g hR hl => ?_
  have hR : Rt X q ((r, s') : Int64 × S1).2 (some (.long ((r, s') : Int64 × S1).1)) := hR
  have hl : lv_has ls 4 [(0, .ref (q.1 0 0)), (1, .int l1)] := hl
  generalize (r, s') = o at h hR
  unfold M_Mo_border at h
  refine ww_lconst (pc := 0) g.1 (v := 0) d_Mo_border_0 (by decide) ?_
  refine ww_lstore_n (pc := 1) g.1 (lv' := [(2, .long 0), (0, .ref (q.1 0 0)), (1, .int l1)]) d_Mo_border_1 rfl hl (by decide) rfl fun ls hl => ?_
  obtain ⟨e2, s1, hw, h⟩ := oB_of h
  refine oW_rule (Wh := fun (x : Int32 × Int64) (s : S1) => ∀ ls : Array Slot, lv_has ls 4 [(0, .ref (q.1 0 0)), (1, .int x.1), (2, .long x.2)] → WW X q s 2 ls []) (We := fun (e : (Int64)) (s : S1) => ∀ ls : Array Slot, lv_has ls 4 [(2, .long e)] → WW X q s 21 ls []) (fun x s o hb hc => lp_Mo_border_L2 (q := q) g x s o hb hc) hw ?_ ls (lv_sub hl [1, 2, 0] rfl)
  clear hw hl
  clear ls
  intro ls hl
  generalize s1 = s at h ⊢
  refine ww_lload_n (pc := 21) g.1 d_Mo_border_21 rfl (lv_at hl 0 rfl) ?_
  exact ww_lretH (pc := 22) g h hR d_Mo_border_22

theorem kw_369 : Cond.instanceMethod y_Mo_next ∈ wA := kinm (show _ ∈ tables_1 from (List.mem_append_right _ (List.mem_append_right _ (List.mem_append_right _ (List.mem_append_right _ (List.mem_append_right _ (List.mem_append_right _ (List.mem_append_right _ (List.mem_append_right _ (List.mem_append_right _ (List.mem_append_right _ (List.mem_append_right _ (List.mem_append_right _ (List.mem_append_left _ (List.mem_of_getElem? (l := tables_1_13) (i := 15) (by decide +kernel)))))))))))))))) (by decide +kernel)
theorem kw_370 : Cond.selects R_Mo y_Mo_next y_Mo_next ∈ wA := kinp 178 (by decide +kernel) (by decide +kernel)
def M_Mo_next_L85 : (Int32 × Int32) → M ((Int32 × Int32) ⊕ ((Int32 × Int32))) := fun x =>
  oC (x.2 ≤ x.1)
    (oR (Sum.inr (x.1, x.2)))
    (oB (oGI 9087 0) fun v91 =>
    oB (oK (v91 = 1)) fun _ =>
    oB (oAI 70 300000 0 x.1) fun v95 =>
    oC (v95 = 0)
      (oR (Sum.inl (x.1 + 1, x.2)))
      (oR (Sum.inr (x.1, x.2))))

def M_Mo_next_j105 (l2 : Int32) (l3 : Int32) : M (Unit) :=
  oC (l2 = l3)
    (oB (M_Mo_give 0 0) fun _ =>
    oR ())
    (oB (oGI 8959 0) fun v119 =>
    oB (oK (v119 = 1)) fun _ =>
    oB (oAI 69 300000 0 l2) fun v123 =>
    oB (oGI 9215 0) fun v125 =>
    oB (oK (v125 = 1)) fun _ =>
    oB (oAL 71 300000 0 l2) fun v129 =>
    oB (M_Mo_give v123 v129) fun _ =>
    oB (oGI 9087 0) fun v138 =>
    oB (oK (v138 = 1)) fun _ =>
    oB (oAI 70 300000 0 l2) fun v142 =>
    oB (oGI 9343 0) fun v144 =>
    oB (oK (v144 = 1)) fun _ =>
    oB (oAL 72 300000 0 l2) fun v148 =>
    oB (M_Va_add 10 0 v142 v148) fun _ =>
    oR ())

def M_Mo_next_j71 (l1 : Int32) (l2 : Int32) : M (Unit) :=
  oB (oAI 62 4100 0 l1) fun v76 =>
  oB (oAI 64 4100 0 l1) fun v82 =>
  oL (v76 + v82) fun l3_84 =>
  oB (oW M_Mo_next_L85 (l2, l3_84)) fun e85 =>
  M_Mo_next_j105 e85.1 e85.2

def M_Mo_next  : M (Unit) :=
  oB (M_Mo_is 0 5) fun v3 =>
  oC (v3 = 0)
    (oB (M_Mo_raise 2) fun v11 =>
    oR ())
    (oB (M_Mo_av 0) fun v18 =>
    oB (oAI 62 4100 0 v18.toInt32) fun v28 =>
    oB (M_Mo_is 1 0) fun v33 =>
    oC (v33 = 0)
      (oB (M_Mo_ak 1) fun v43 =>
      oB (M_Mo_av 1) fun v48 =>
      oB (M_Mo_entry v18.toInt32 v43 v48) fun v51 =>
      oC (0 ≤ v51)
        (oL (v51 + 1) fun l2_70 =>
        M_Mo_next_j71 v18.toInt32 l2_70)
        (oB (M_Mo_raise 6) fun v62 =>
        oR ()))
      (M_Mo_next_j71 v18.toInt32 v28))

theorem cv_Mo_next : CV y_Mo_next b_Mo_next 4 none 0 := ⟨kw_369, kw_370, kw_17, k_Mo_next, by decide +kernel⟩
theorem lp_Mo_next_L85 {X : Cx} {q : PL} (g : Gd X y_Mo_next b_Mo_next 4 none 3 74 R_Mo) (x : Int32 × Int32) (s : S1) (o : ((Int32 × Int32) ⊕ ((Int32 × Int32))) × S1) (h : M_Mo_next_L85 x s = some o) (hR : (Sum.elim (fun y : Int32 × Int32 => ∀ ls : Array Slot, lv_has ls 4 [(0, .ref (q.1 0 0)), (2, .int y.1), (3, .int y.2)] → WW X q o.2 85 ls []) (fun y : Int32 × Int32 => ∀ ls : Array Slot, lv_has ls 4 [(0, .ref (q.1 0 0)), (2, .int y.1), (3, .int y.2)] → WW X q o.2 105 ls []) o.1)) : ∀ ls : Array Slot, lv_has ls 4 [(0, .ref (q.1 0 0)), (2, .int x.1), (3, .int x.2)] → WW X q s 85 ls [] := by
  intro ls hl
  unfold M_Mo_next_L85 at h
  refine ww_iload_n (pc := 85) g.1 d_Mo_next_85 rfl (lv_at hl 1 rfl) ?_
  refine ww_iload_n (pc := 86) g.1 d_Mo_next_86 rfl (lv_at hl 2 rfl) ?_
  refine ww_icmp_ge (pc := 87) (tgt := 105) g.1 d_Mo_next_87 (by decide) h (fun c h => ?_) (fun c h => ?_)
  · rw [oR_eq h] at hR
    exact hR ls (lv_sub hl [0, 1, 2] rfl)
  · refine ww_aload_n (pc := 90) g.1 d_Mo_next_90 rfl (lv_at hl 0 rfl) ?_
    refine ww_g5 (pc := 91) g (k := 58) cl_Mo (pz rfl (by decide)) (by decide) (Or.inl kw_129) (f := 58) (t := 70) (f2 := 9087) rfl rfl rfl rfl d_Mo_next_91 h fun v91 hv91 h => ?_
    refine ww_ok h fun cv91 h => ?_
    refine ww_dn cv91 ?_
    have pd91 : prs s 70 0 := pd (f := 9087) rfl (by decide) hv91 cv91
    refine ww_iload_n (pc := 94) g.1 d_Mo_next_94 rfl (lv_at hl 1 rfl) ?_
    refine ww_ab (pc := 95) g pd91 rfl rfl d_Mo_next_95 h fun v95 h => ?_
    refine ww_if_ne (pc := 96) (tgt := 105) g.1 d_Mo_next_96 (by decide) h (fun c h => ?_) (fun c h => ?_)
    · rw [oR_eq h] at hR
      exact hR ls (lv_sub hl [0, 1, 2] rfl)
    · refine ww_iinc (pc := 99) g.1 (v := x.1 + 1) (lv' := [(2, .int (x.1 + 1)), (0, .ref (q.1 0 0)), (3, .int x.2)]) d_Mo_next_99 hl (k := 1) rfl (by rfl) (by decide) rfl fun ls hl => ?_
      refine ww_goto (pc := 102) (tgt := 85) g.1 d_Mo_next_102 (by decide) ?_
      rw [oR_eq h] at hR
      exact hR ls (lv_sub hl [1, 0, 2] rfl)

theorem j_Mo_next_j105 {X : Cx} {q : PL} (g : Gd X y_Mo_next b_Mo_next 4 none 3 74 R_Mo) {o : (Unit) × S1} (hR : Rt X q o.2 none) (l2 : Int32) (l3 : Int32) (s : S1) (ls : Array Slot) (hl : lv_has ls 4 [(0, .ref (q.1 0 0)), (2, .int l2), (3, .int l3)]) (h : M_Mo_next_j105 l2 l3 s = some o) : WW X q s 105 ls [] := by
  unfold M_Mo_next_j105 at h
  refine ww_iload_n (pc := 105) g.1 d_Mo_next_105 rfl (lv_at hl 1 rfl) ?_
  refine ww_iload_n (pc := 106) g.1 d_Mo_next_106 rfl (lv_at hl 2 rfl) ?_
  refine ww_icmp_ne (pc := 107) (tgt := 117) g.1 d_Mo_next_107 (by decide) h (fun c h => ?_) (fun c h => ?_)
  · refine ww_aload_n (pc := 117) g.1 d_Mo_next_117 rfl (lv_at hl 0 rfl) ?_
    refine ww_aload_n (pc := 118) g.1 d_Mo_next_118 rfl (lv_at hl 0 rfl) ?_
    refine ww_g5 (pc := 119) g (k := 57) cl_Mo (pz rfl (by decide)) (by decide) (Or.inl kw_127) (f := 57) (t := 69) (f2 := 8959) rfl rfl rfl rfl d_Mo_next_119 h fun v119 hv119 h => ?_
    refine ww_ok h fun cv119 h => ?_
    refine ww_dn cv119 ?_
    have pd119 : prs s 69 0 := pd (f := 8959) rfl (by decide) hv119 cv119
    refine ww_iload_n (pc := 122) g.1 d_Mo_next_122 rfl (lv_at hl 1 rfl) ?_
    refine ww_ab (pc := 123) g pd119 rfl rfl d_Mo_next_123 h fun v123 h => ?_
    refine ww_aload_n (pc := 124) g.1 d_Mo_next_124 rfl (lv_at hl 0 rfl) ?_
    refine ww_g5 (pc := 125) g (k := 59) cl_Mo (pz rfl (by decide)) (by decide) (Or.inl kw_128) (f := 59) (t := 71) (f2 := 9215) rfl rfl rfl rfl d_Mo_next_125 h fun v125 hv125 h => ?_
    refine ww_ok h fun cv125 h => ?_
    refine ww_dn cv125 ?_
    have pd125 : prs s 71 0 := pd (f := 9215) rfl (by decide) hv125 cv125
    refine ww_iload_n (pc := 128) g.1 d_Mo_next_128 rfl (lv_at hl 1 rfl) ?_
    refine ww_al (pc := 129) g pd125 rfl rfl d_Mo_next_129 h fun v129 h => ?_
    obtain ⟨v130, s, hc130, h⟩ := oB_of h
    refine ww_callV (pc := 130) (rest := []) g cv_Mo_give (Or.inl kw_218) cl_Mo (pz rfl (by decide)) (ct_Mo_give hc130) ⟨by decide, by decide⟩ rfl hl.1 (Nat.le_of_ble_eq_true rfl) d_Mo_next_130 rfl ?_
    refine ww_st (st' := []) rfl ?_
    refine ww_aload_n (pc := 133) g.1 d_Mo_next_133 rfl (lv_at hl 0 rfl) ?_
    refine ww_gR (pc := 134) g (k := 78) cl_Mo (pz rfl (by decide)) (by decide) (Or.inl kw_184) (f := 78) (t := 10) rfl rfl rfl d_Mo_next_134 ?_
    refine ww_aload_n (pc := 137) g.1 d_Mo_next_137 rfl (lv_at hl 0 rfl) ?_
    refine ww_g5 (pc := 138) g (k := 58) cl_Mo (pz rfl (by decide)) (by decide) (Or.inl kw_129) (f := 58) (t := 70) (f2 := 9087) rfl rfl rfl rfl d_Mo_next_138 h fun v138 hv138 h => ?_
    refine ww_ok h fun cv138 h => ?_
    refine ww_dn cv138 ?_
    have pd138 : prs s 70 0 := pd (f := 9087) rfl (by decide) hv138 cv138
    refine ww_iload_n (pc := 141) g.1 d_Mo_next_141 rfl (lv_at hl 1 rfl) ?_
    refine ww_ab (pc := 142) g pd138 rfl rfl d_Mo_next_142 h fun v142 h => ?_
    refine ww_aload_n (pc := 143) g.1 d_Mo_next_143 rfl (lv_at hl 0 rfl) ?_
    refine ww_g5 (pc := 144) g (k := 60) cl_Mo (pz rfl (by decide)) (by decide) (Or.inl kw_130) (f := 60) (t := 72) (f2 := 9343) rfl rfl rfl rfl d_Mo_next_144 h fun v144 hv144 h => ?_
    refine ww_ok h fun cv144 h => ?_
    refine ww_dn cv144 ?_
    have pd144 : prs s 72 0 := pd (f := 9343) rfl (by decide) hv144 cv144
    refine ww_iload_n (pc := 147) g.1 d_Mo_next_147 rfl (lv_at hl 1 rfl) ?_
    refine ww_al (pc := 148) g pd144 rfl rfl d_Mo_next_148 h fun v148 h => ?_
    obtain ⟨v149, s, hc149, h⟩ := oB_of h
    refine ww_callV (pc := 149) (rest := []) g cv_Va_add (Or.inl kw_193) (cl_Va (Or.inl ⟨by decide, rfl⟩)) (pz rfl (by decide)) (ct_Va_add (Or.inl ⟨by decide, rfl⟩) hc149) ⟨by decide, by decide⟩ rfl hl.1 (Nat.le_of_ble_eq_true rfl) d_Mo_next_149 rfl ?_
    refine ww_st (st' := []) rfl ?_
    exact ww_vretH (pc := 152) g h hR d_Mo_next_152
  · refine ww_aload_n (pc := 110) g.1 d_Mo_next_110 rfl (lv_at hl 0 rfl) ?_
    refine ww_iconst (pc := 111) g.1 (v := 0) d_Mo_next_111 (by decide) ?_
    refine ww_lconst (pc := 112) g.1 (v := 0) d_Mo_next_112 (by decide) ?_
    obtain ⟨v113, s, hc113, h⟩ := oB_of h
    refine ww_callV (pc := 113) (rest := []) g cv_Mo_give (Or.inl kw_218) cl_Mo (pz rfl (by decide)) (ct_Mo_give hc113) ⟨by decide, by decide⟩ rfl hl.1 (Nat.le_of_ble_eq_true rfl) d_Mo_next_113 rfl ?_
    refine ww_st (st' := []) rfl ?_
    exact ww_vretH (pc := 116) g h hR d_Mo_next_116

theorem j_Mo_next_j71 {X : Cx} {q : PL} (g : Gd X y_Mo_next b_Mo_next 4 none 3 74 R_Mo) {o : (Unit) × S1} (hR : Rt X q o.2 none) (l1 : Int32) (l2 : Int32) (s : S1) (ls : Array Slot) (hl : lv_has ls 4 [(0, .ref (q.1 0 0)), (1, .int l1), (2, .int l2)]) (h : M_Mo_next_j71 l1 l2 s = some o) : WW X q s 71 ls [] := by
  unfold M_Mo_next_j71 at h
  refine ww_aload_n (pc := 71) g.1 d_Mo_next_71 rfl (lv_at hl 0 rfl) ?_
  refine ww_gR (pc := 72) g (k := 49) cl_Mo (pz rfl (by decide)) (by decide) (Or.inl kw_89) (f := 49) (t := 62) rfl rfl rfl d_Mo_next_72 ?_
  refine ww_iload_n (pc := 75) g.1 d_Mo_next_75 rfl (lv_at hl 1 rfl) ?_
  refine ww_ai (pc := 76) g (pz rfl (by decide)) rfl rfl d_Mo_next_76 h fun v76 h => ?_
  refine ww_aload_n (pc := 77) g.1 d_Mo_next_77 rfl (lv_at hl 0 rfl) ?_
  refine ww_gR (pc := 78) g (k := 51) cl_Mo (pz rfl (by decide)) (by decide) (Or.inl kw_126) (f := 51) (t := 64) rfl rfl rfl d_Mo_next_78 ?_
  refine ww_iload_n (pc := 81) g.1 d_Mo_next_81 rfl (lv_at hl 1 rfl) ?_
  refine ww_ai (pc := 82) g (pz rfl (by decide)) rfl rfl d_Mo_next_82 h fun v82 h => ?_
  refine ww_iadd (pc := 83) g.1 d_Mo_next_83 ?_
  refine ww_leti h fun l3_84 h => ?_
  refine ww_istore_n (pc := 84) g.1 (lv' := [(3, .int l3_84), (0, .ref (q.1 0 0)), (1, .int l1), (2, .int l2)]) d_Mo_next_84 rfl hl (by decide) rfl fun ls hl => ?_
  obtain ⟨e85, s1, hw, h⟩ := oB_of h
  refine oW_rule (Wh := fun (x : Int32 × Int32) (s : S1) => ∀ ls : Array Slot, lv_has ls 4 [(0, .ref (q.1 0 0)), (2, .int x.1), (3, .int x.2)] → WW X q s 85 ls []) (We := fun (e : (Int32 × Int32)) (s : S1) => ∀ ls : Array Slot, lv_has ls 4 [(0, .ref (q.1 0 0)), (2, .int e.1), (3, .int e.2)] → WW X q s 105 ls []) (fun x s o hb hc => lp_Mo_next_L85 (q := q) g x s o hb hc) hw ?_ ls (lv_sub hl [1, 3, 0] rfl)
  clear hw hl
  clear ls
  intro ls hl
  generalize s1 = s at h ⊢
  exact j_Mo_next_j105 g hR e85.1 e85.2 s ls (lv_sub hl [0, 1, 2] rfl) h

theorem ct_Mo_next {l : Launch} {P : PP} {q : PL} {s s' : S1}  {r : Unit} (h : M_Mo_next s = some (r, s')) : Ct l y_Mo_next b_Mo_next 4 none 3 74 P q s [.ref (q.1 0 0)] none q s' := by
  refine ct_of (by decide) (Nat.le_of_ble_eq_true rfl) fun X ls eP el g hR hl => ?_
  have hR : Rt X q ((r, s') : Unit × S1).2 none := hR
  have hl : lv_has ls 4 [(0, .ref (q.1 0 0))] := hl
  generalize (r, s') = o at h hR
  unfold M_Mo_next at h
  refine ww_aload_n (pc := 0) g.1 d_Mo_next_0 rfl (lv_at hl 0 rfl) ?_
  refine ww_iconst (pc := 1) g.1 (v := 0) d_Mo_next_1 (by decide) ?_
  refine ww_iconst (pc := 2) g.1 (v := 5) d_Mo_next_2 (by decide) ?_
  obtain ⟨v3, s, hc3, h⟩ := oB_of h
  refine ww_callV (pc := 3) (rest := []) g cv_Mo_is (Or.inl kw_212) cl_Mo (pz rfl (by decide)) (ct_Mo_is hc3) ⟨by decide, by decide⟩ rfl hl.1 (Nat.le_of_ble_eq_true rfl) d_Mo_next_3 rfl ?_
  refine ww_st (st' := [.int v3]) rfl ?_
  refine ww_if_ne (pc := 6) (tgt := 16) g.1 d_Mo_next_6 (by decide) h (fun c h => ?_) (fun c h => ?_)
  · refine ww_aload_n (pc := 16) g.1 d_Mo_next_16 rfl (lv_at hl 0 rfl) ?_
    refine ww_iconst (pc := 17) g.1 (v := 0) d_Mo_next_17 (by decide) ?_
    obtain ⟨v18, s, hc18, h⟩ := oB_of h
    refine ww_callV (pc := 18) (rest := []) g cv_Mo_av (Or.inl kw_199) cl_Mo (pz rfl (by decide)) (ct_Mo_av hc18) ⟨by decide, by decide⟩ rfl hl.1 (Nat.le_of_ble_eq_true rfl) d_Mo_next_18 rfl ?_
    refine ww_st (st' := [.long v18]) rfl ?_
    refine ww_l2i (pc := 21) g.1 (v := v18.toInt32) d_Mo_next_21 rfl ?_
    refine ww_istore_n (pc := 22) g.1 (lv' := [(1, .int v18.toInt32), (0, .ref (q.1 0 0))]) d_Mo_next_22 rfl hl (by decide) rfl fun ls hl => ?_
    refine ww_aload_n (pc := 23) g.1 d_Mo_next_23 rfl (lv_at hl 1 rfl) ?_
    refine ww_gR (pc := 24) g (k := 49) cl_Mo (pz rfl (by decide)) (by decide) (Or.inl kw_89) (f := 49) (t := 62) rfl rfl rfl d_Mo_next_24 ?_
    refine ww_iload_n (pc := 27) g.1 d_Mo_next_27 rfl (lv_at hl 0 rfl) ?_
    refine ww_ai (pc := 28) g (pz rfl (by decide)) rfl rfl d_Mo_next_28 h fun v28 h => ?_
    refine ww_istore_n (pc := 29) g.1 (lv' := [(2, .int v28), (1, .int v18.toInt32), (0, .ref (q.1 0 0))]) d_Mo_next_29 rfl hl (by decide) rfl fun ls hl => ?_
    refine ww_aload_n (pc := 30) g.1 d_Mo_next_30 rfl (lv_at hl 2 rfl) ?_
    refine ww_iconst (pc := 31) g.1 (v := 1) d_Mo_next_31 (by decide) ?_
    refine ww_iconst (pc := 32) g.1 (v := 0) d_Mo_next_32 (by decide) ?_
    obtain ⟨v33, s, hc33, h⟩ := oB_of h
    refine ww_callV (pc := 33) (rest := []) g cv_Mo_is (Or.inl kw_212) cl_Mo (pz rfl (by decide)) (ct_Mo_is hc33) ⟨by decide, by decide⟩ rfl hl.1 (Nat.le_of_ble_eq_true rfl) d_Mo_next_33 rfl ?_
    refine ww_st (st' := [.int v33]) rfl ?_
    refine ww_if_ne (pc := 36) (tgt := 71) g.1 d_Mo_next_36 (by decide) h (fun c h => ?_) (fun c h => ?_)
    · exact j_Mo_next_j71 g hR v18.toInt32 v28 s ls (lv_sub hl [2, 1, 0] rfl) h
    · refine ww_aload_n (pc := 39) g.1 d_Mo_next_39 rfl (lv_at hl 2 rfl) ?_
      refine ww_iload_n (pc := 40) g.1 d_Mo_next_40 rfl (lv_at hl 1 rfl) ?_
      refine ww_aload_n (pc := 41) g.1 d_Mo_next_41 rfl (lv_at hl 2 rfl) ?_
      refine ww_iconst (pc := 42) g.1 (v := 1) d_Mo_next_42 (by decide) ?_
      obtain ⟨v43, s, hc43, h⟩ := oB_of h
      refine ww_callV (pc := 43) (rest := [.int v18.toInt32, .ref (q.1 0 0)]) g cv_Mo_ak (Or.inl kw_197) cl_Mo (pz rfl (by decide)) (ct_Mo_ak hc43) ⟨by decide, by decide⟩ rfl hl.1 (Nat.le_of_ble_eq_true rfl) d_Mo_next_43 rfl ?_
      refine ww_st (st' := [.int v43, .int v18.toInt32, .ref (q.1 0 0)]) rfl ?_
      refine ww_aload_n (pc := 46) g.1 d_Mo_next_46 rfl (lv_at hl 2 rfl) ?_
      refine ww_iconst (pc := 47) g.1 (v := 1) d_Mo_next_47 (by decide) ?_
      obtain ⟨v48, s, hc48, h⟩ := oB_of h
      refine ww_callV (pc := 48) (rest := [.int v43, .int v18.toInt32, .ref (q.1 0 0)]) g cv_Mo_av (Or.inl kw_199) cl_Mo (pz rfl (by decide)) (ct_Mo_av hc48) ⟨by decide, by decide⟩ rfl hl.1 (Nat.le_of_ble_eq_true rfl) d_Mo_next_48 rfl ?_
      refine ww_st (st' := [.long v48, .int v43, .int v18.toInt32, .ref (q.1 0 0)]) rfl ?_
      obtain ⟨v51, s, hc51, h⟩ := oB_of h
      refine ww_callV (pc := 51) (rest := []) g cv_Mo_entry (Or.inl kw_358) cl_Mo (pz rfl (by decide)) (ct_Mo_entry hc51) ⟨by decide, by decide⟩ rfl hl.1 (Nat.le_of_ble_eq_true rfl) d_Mo_next_51 rfl ?_
      refine ww_st (st' := [.int v51]) rfl ?_
      refine ww_istore_n (pc := 54) g.1 (lv' := [(3, .int v51), (2, .int v28), (1, .int v18.toInt32), (0, .ref (q.1 0 0))]) d_Mo_next_54 rfl hl (by decide) rfl fun ls hl => ?_
      refine ww_iload_n (pc := 55) g.1 d_Mo_next_55 rfl (lv_at hl 0 rfl) ?_
      refine ww_if_ge (pc := 56) (tgt := 67) g.1 d_Mo_next_56 (by decide) h (fun c h => ?_) (fun c h => ?_)
      · refine ww_iload_n (pc := 67) g.1 d_Mo_next_67 rfl (lv_at hl 0 rfl) ?_
        refine ww_iconst (pc := 68) g.1 (v := 1) d_Mo_next_68 (by decide) ?_
        refine ww_iadd (pc := 69) g.1 d_Mo_next_69 ?_
        refine ww_leti h fun l2_70 h => ?_
        refine ww_istore_n (pc := 70) g.1 (lv' := [(2, .int l2_70), (3, .int v51), (1, .int v18.toInt32), (0, .ref (q.1 0 0))]) d_Mo_next_70 rfl hl (by decide) rfl fun ls hl => ?_
        exact j_Mo_next_j71 g hR v18.toInt32 l2_70 s ls (lv_sub hl [3, 2, 0] rfl) h
      · refine ww_aload_n (pc := 59) g.1 d_Mo_next_59 rfl (lv_at hl 3 rfl) ?_
        refine ww_bipush (pc := 60) g.1 (v := 6) d_Mo_next_60 (by decide) ?_
        obtain ⟨v62, s, hc62, h⟩ := oB_of h
        refine ww_callV (pc := 62) (rest := []) g cv_Mo_raise (Or.inl kw_162) cl_Mo (pz rfl (by decide)) (ct_Mo_raise hc62) ⟨by decide, by decide⟩ rfl hl.1 (Nat.le_of_ble_eq_true rfl) d_Mo_next_62 rfl ?_
        refine ww_st (st' := [.int v62]) rfl ?_
        refine ww_pop (pc := 65) g.1 d_Mo_next_65 rfl ?_
        exact ww_vretH (pc := 66) g h hR d_Mo_next_66
  · refine ww_aload_n (pc := 9) g.1 d_Mo_next_9 rfl (lv_at hl 0 rfl) ?_
    refine ww_iconst (pc := 10) g.1 (v := 2) d_Mo_next_10 (by decide) ?_
    obtain ⟨v11, s, hc11, h⟩ := oB_of h
    refine ww_callV (pc := 11) (rest := []) g cv_Mo_raise (Or.inl kw_162) cl_Mo (pz rfl (by decide)) (ct_Mo_raise hc11) ⟨by decide, by decide⟩ rfl hl.1 (Nat.le_of_ble_eq_true rfl) d_Mo_next_11 rfl ?_
    refine ww_st (st' := [.int v11]) rfl ?_
    refine ww_pop (pc := 14) g.1 d_Mo_next_14 rfl ?_
    exact ww_vretH (pc := 15) g h hR d_Mo_next_15

theorem kw_371 : Cond.methodLink R_Mo 853 y_Mo_giveNone ∈ wA := kinm (show _ ∈ tables_1 from (List.mem_append_right _ (List.mem_append_right _ (List.mem_append_right _ (List.mem_append_right _ (List.mem_append_right _ (List.mem_append_right _ (List.mem_append_right _ (List.mem_append_right _ (List.mem_append_right _ (List.mem_append_right _ (List.mem_append_right _ (List.mem_append_left _ (List.mem_of_getElem? (l := tables_1_12) (i := 209) (by decide +kernel))))))))))))))) (by decide +kernel)
theorem kw_372 : Cond.methodLink R_Mo 850 y_Mo_isMark ∈ wA := kinm (show _ ∈ tables_1 from (List.mem_append_right _ (List.mem_append_right _ (List.mem_append_right _ (List.mem_append_right _ (List.mem_append_right _ (List.mem_append_right _ (List.mem_append_right _ (List.mem_append_right _ (List.mem_append_right _ (List.mem_append_right _ (List.mem_append_right _ (List.mem_append_right _ (List.mem_append_left _ (List.mem_of_getElem? (l := tables_1_13) (i := 21) (by decide +kernel)))))))))))))))) (by decide +kernel)
theorem kw_373 : Cond.instanceMethod y_Mo_select ∈ wA := kinm (show _ ∈ tables_1 from (List.mem_append_right _ (List.mem_append_right _ (List.mem_append_right _ (List.mem_append_right _ (List.mem_append_right _ (List.mem_append_right _ (List.mem_append_right _ (List.mem_append_right _ (List.mem_append_right _ (List.mem_append_right _ (List.mem_append_right _ (List.mem_append_right _ (List.mem_append_left _ (List.mem_of_getElem? (l := tables_1_13) (i := 19) (by decide +kernel)))))))))))))))) (by decide +kernel)
theorem kw_374 : Cond.selects R_Mo y_Mo_select y_Mo_select ∈ wA := kinp 179 (by decide +kernel) (by decide +kernel)
def M_Mo_select_j57  : M (Unit) :=
  oB (M_Mo_raise 7) fun v60 =>
  oR ()

def M_Mo_select_L75 : (Int64) → M ((Int64) ⊕ ((Unit))) := fun x =>
  oB (oGI 898 0) fun v80 =>
  oC (0 ≤ (lg_cmp x v80.toInt64))
    (oR (Sum.inr ()))
    (oB (M_Va_add_ 10 0 7 0 x.toInt32) fun _ =>
    oL (x + 1) fun l1_104 =>
    oR (Sum.inl l1_104))

def M_Mo_select_j38  : M (Unit) :=
  oB (M_Mo_is 0 3) fun v41 =>
  oC (v41 = 0)
    (M_Mo_select_j57)
    (oB (M_Mo_av 0) fun v49 =>
    oC (0 ≤ (lg_cmp v49 1))
      (oB (M_Mo_giveNone) fun _ =>
      oB (M_Mo_av 0) fun v71 =>
      oB (oW M_Mo_select_L75 v71) fun e75 =>
      oR ())
      (M_Mo_select_j57))

def M_Mo_select  : M (Unit) :=
  oB (M_Mo_is 0 4) fun v3 =>
  oC (v3 = 0)
    (M_Mo_select_j38)
    (oB (M_Mo_av 0) fun v12 =>
    oB (M_Mo_isMark v12.toInt32) fun v16 =>
    oC (v16 = 0)
      (M_Mo_select_j38)
      (oB (oGI 898 0) fun v28 =>
      oB (M_Mo_give 3 ((v28 - 1).toInt64)) fun _ =>
      oR ()))

theorem cv_Mo_select : CV y_Mo_select b_Mo_select 3 none 0 := ⟨kw_373, kw_374, kw_17, k_Mo_select, by decide +kernel⟩
theorem j_Mo_select_j57 {X : Cx} {q : PL} (g : Gd X y_Mo_select b_Mo_select 3 none 2 46 R_Mo) {o : (Unit) × S1} (hR : Rt X q o.2 none)  (s : S1) (ls : Array Slot) (hl : lv_has ls 3 [(0, .ref (q.1 0 0))]) (h : M_Mo_select_j57 s = some o) : WW X q s 57 ls [] := by
  unfold M_Mo_select_j57 at h
  refine ww_aload_n (pc := 57) g.1 d_Mo_select_57 rfl (lv_at hl 0 rfl) ?_
  refine ww_bipush (pc := 58) g.1 (v := 7) d_Mo_select_58 (by decide) ?_
  obtain ⟨v60, s, hc60, h⟩ := oB_of h
  refine ww_callV (pc := 60) (rest := []) g cv_Mo_raise (Or.inl kw_162) cl_Mo (pz rfl (by decide)) (ct_Mo_raise hc60) ⟨by decide, by decide⟩ rfl hl.1 (Nat.le_of_ble_eq_true rfl) d_Mo_select_60 rfl ?_
  refine ww_st (st' := [.int v60]) rfl ?_
  refine ww_pop (pc := 63) g.1 d_Mo_select_63 rfl ?_
  exact ww_vretH (pc := 64) g h hR d_Mo_select_64

theorem lp_Mo_select_L75 {X : Cx} {q : PL} (g : Gd X y_Mo_select b_Mo_select 3 none 2 46 R_Mo) (x : Int64) (s : S1) (o : ((Int64) ⊕ ((Unit))) × S1) (h : M_Mo_select_L75 x s = some o) (hR : (Sum.elim (fun y : Int64 => ∀ ls : Array Slot, lv_has ls 3 [(0, .ref (q.1 0 0)), (1, .long y)] → WW X q o.2 75 ls []) (fun y : Unit => ∀ ls : Array Slot, lv_has ls 3 [] → WW X q o.2 108 ls []) o.1)) : ∀ ls : Array Slot, lv_has ls 3 [(0, .ref (q.1 0 0)), (1, .long x)] → WW X q s 75 ls [] := by
  intro ls hl
  unfold M_Mo_select_L75 at h
  refine ww_lload_n (pc := 75) g.1 d_Mo_select_75 rfl (lv_at hl 1 rfl) ?_
  refine ww_aload_n (pc := 76) g.1 d_Mo_select_76 rfl (lv_at hl 0 rfl) ?_
  refine ww_gR (pc := 77) g (k := 77) cl_Mo (pz rfl (by decide)) (by decide) (Or.inl kw_188) (f := 77) (t := 7) rfl rfl rfl d_Mo_select_77 ?_
  refine ww_gI (pc := 80) g (k := 2) (cl_Va (Or.inl ⟨by decide, rfl⟩)) (pz rfl (by decide)) (by decide) (Or.inl kw_185) (f := 898) rfl rfl d_Mo_select_80 h fun v80 h => ?_
  refine ww_i2l (pc := 83) g.1 (v := v80.toInt64) d_Mo_select_83 rfl ?_
  refine ww_lcmp (pc := 84) g.1 d_Mo_select_84 ?_
  refine ww_if_ge (pc := 85) (tgt := 108) g.1 d_Mo_select_85 (by decide) h (fun c h => ?_) (fun c h => ?_)
  · rw [oR_eq h] at hR
    exact hR ls (lv_sub hl [] rfl)
  · refine ww_aload_n (pc := 88) g.1 d_Mo_select_88 rfl (lv_at hl 0 rfl) ?_
    refine ww_gR (pc := 89) g (k := 78) cl_Mo (pz rfl (by decide)) (by decide) (Or.inl kw_184) (f := 78) (t := 10) rfl rfl rfl d_Mo_select_89 ?_
    refine ww_aload_n (pc := 92) g.1 d_Mo_select_92 rfl (lv_at hl 0 rfl) ?_
    refine ww_gR (pc := 93) g (k := 77) cl_Mo (pz rfl (by decide)) (by decide) (Or.inl kw_188) (f := 77) (t := 7) rfl rfl rfl d_Mo_select_93 ?_
    refine ww_lload_n (pc := 96) g.1 d_Mo_select_96 rfl (lv_at hl 1 rfl) ?_
    refine ww_l2i (pc := 97) g.1 (v := x.toInt32) d_Mo_select_97 rfl ?_
    obtain ⟨v98, s, hc98, h⟩ := oB_of h
    refine ww_callV (pc := 98) (rest := []) g cv_Va_add_ (Or.inl kw_227) (cl_Va (Or.inl ⟨by decide, rfl⟩)) (pz rfl (by decide)) (ct_Va_add_ (Or.inl ⟨by decide, rfl⟩) (Or.inl ⟨by decide, rfl⟩) hc98) ⟨by decide, by decide⟩ rfl hl.1 (Nat.le_of_ble_eq_true rfl) d_Mo_select_98 rfl ?_
    refine ww_st (st' := []) rfl ?_
    refine ww_lload_n (pc := 101) g.1 d_Mo_select_101 rfl (lv_at hl 1 rfl) ?_
    refine ww_lconst (pc := 102) g.1 (v := 1) d_Mo_select_102 (by decide) ?_
    refine ww_ladd (pc := 103) g.1 d_Mo_select_103 ?_
    refine ww_letl h fun l1_104 h => ?_
    refine ww_lstore_n (pc := 104) g.1 (lv' := [(1, .long l1_104), (0, .ref (q.1 0 0))]) d_Mo_select_104 rfl hl (by decide) rfl fun ls hl => ?_
    refine ww_goto (pc := 105) (tgt := 75) g.1 d_Mo_select_105 (by decide) ?_
    rw [oR_eq h] at hR
    exact hR ls (lv_sub hl [1, 0] rfl)

theorem j_Mo_select_j38 {X : Cx} {q : PL} (g : Gd X y_Mo_select b_Mo_select 3 none 2 46 R_Mo) {o : (Unit) × S1} (hR : Rt X q o.2 none)  (s : S1) (ls : Array Slot) (hl : lv_has ls 3 [(0, .ref (q.1 0 0))]) (h : M_Mo_select_j38 s = some o) : WW X q s 38 ls [] := by
  unfold M_Mo_select_j38 at h
  refine ww_aload_n (pc := 38) g.1 d_Mo_select_38 rfl (lv_at hl 0 rfl) ?_
  refine ww_iconst (pc := 39) g.1 (v := 0) d_Mo_select_39 (by decide) ?_
  refine ww_iconst (pc := 40) g.1 (v := 3) d_Mo_select_40 (by decide) ?_
  obtain ⟨v41, s, hc41, h⟩ := oB_of h
  refine ww_callV (pc := 41) (rest := []) g cv_Mo_is (Or.inl kw_212) cl_Mo (pz rfl (by decide)) (ct_Mo_is hc41) ⟨by decide, by decide⟩ rfl hl.1 (Nat.le_of_ble_eq_true rfl) d_Mo_select_41 rfl ?_
  refine ww_st (st' := [.int v41]) rfl ?_
  refine ww_if_eq (pc := 44) (tgt := 57) g.1 d_Mo_select_44 (by decide) h (fun c h => ?_) (fun c h => ?_)
  · exact j_Mo_select_j57 g hR s ls (lv_sub hl [0] rfl) h
  · refine ww_aload_n (pc := 47) g.1 d_Mo_select_47 rfl (lv_at hl 0 rfl) ?_
    refine ww_iconst (pc := 48) g.1 (v := 0) d_Mo_select_48 (by decide) ?_
    obtain ⟨v49, s, hc49, h⟩ := oB_of h
    refine ww_callV (pc := 49) (rest := []) g cv_Mo_av (Or.inl kw_199) cl_Mo (pz rfl (by decide)) (ct_Mo_av hc49) ⟨by decide, by decide⟩ rfl hl.1 (Nat.le_of_ble_eq_true rfl) d_Mo_select_49 rfl ?_
    refine ww_st (st' := [.long v49]) rfl ?_
    refine ww_lconst (pc := 52) g.1 (v := 1) d_Mo_select_52 (by decide) ?_
    refine ww_lcmp (pc := 53) g.1 d_Mo_select_53 ?_
    refine ww_if_ge (pc := 54) (tgt := 65) g.1 d_Mo_select_54 (by decide) h (fun c h => ?_) (fun c h => ?_)
    · refine ww_aload_n (pc := 65) g.1 d_Mo_select_65 rfl (lv_at hl 0 rfl) ?_
      obtain ⟨v66, s, hc66, h⟩ := oB_of h
      refine ww_callV (pc := 66) (rest := []) g cv_Mo_giveNone (Or.inl kw_371) cl_Mo (pz rfl (by decide)) (ct_Mo_giveNone hc66) ⟨by decide, by decide⟩ rfl hl.1 (Nat.le_of_ble_eq_true rfl) d_Mo_select_66 rfl ?_
      refine ww_st (st' := []) rfl ?_
      refine ww_aload_n (pc := 69) g.1 d_Mo_select_69 rfl (lv_at hl 0 rfl) ?_
      refine ww_iconst (pc := 70) g.1 (v := 0) d_Mo_select_70 (by decide) ?_
      obtain ⟨v71, s, hc71, h⟩ := oB_of h
      refine ww_callV (pc := 71) (rest := []) g cv_Mo_av (Or.inl kw_199) cl_Mo (pz rfl (by decide)) (ct_Mo_av hc71) ⟨by decide, by decide⟩ rfl hl.1 (Nat.le_of_ble_eq_true rfl) d_Mo_select_71 rfl ?_
      refine ww_st (st' := [.long v71]) rfl ?_
      refine ww_lstore_n (pc := 74) g.1 (lv' := [(1, .long v71), (0, .ref (q.1 0 0))]) d_Mo_select_74 rfl hl (by decide) rfl fun ls hl => ?_
      obtain ⟨e75, s1, hw, h⟩ := oB_of h
      refine oW_rule (Wh := fun (x : Int64) (s : S1) => ∀ ls : Array Slot, lv_has ls 3 [(0, .ref (q.1 0 0)), (1, .long x)] → WW X q s 75 ls []) (We := fun (e : (Unit)) (s : S1) => ∀ ls : Array Slot, lv_has ls 3 [] → WW X q s 108 ls []) (fun x s o hb hc => lp_Mo_select_L75 (q := q) g x s o hb hc) hw ?_ ls (lv_sub hl [1, 0] rfl)
      clear hw hl
      clear ls
      intro ls hl
      generalize s1 = s at h ⊢
      exact ww_vretH (pc := 108) g h hR d_Mo_select_108
    · exact j_Mo_select_j57 g hR s ls (lv_sub hl [0] rfl) h

theorem ct_Mo_select {l : Launch} {P : PP} {q : PL} {s s' : S1}  {r : Unit} (h : M_Mo_select s = some (r, s')) : Ct l y_Mo_select b_Mo_select 3 none 2 46 P q s [.ref (q.1 0 0)] none q s' := by
  refine ct_of (by decide) (Nat.le_of_ble_eq_true rfl) fun X ls eP el g hR hl => ?_
  have hR : Rt X q ((r, s') : Unit × S1).2 none := hR
  have hl : lv_has ls 3 [(0, .ref (q.1 0 0))] := hl
  generalize (r, s') = o at h hR
  unfold M_Mo_select at h
  refine ww_aload_n (pc := 0) g.1 d_Mo_select_0 rfl (lv_at hl 0 rfl) ?_
  refine ww_iconst (pc := 1) g.1 (v := 0) d_Mo_select_1 (by decide) ?_
  refine ww_iconst (pc := 2) g.1 (v := 4) d_Mo_select_2 (by decide) ?_
  obtain ⟨v3, s, hc3, h⟩ := oB_of h
  refine ww_callV (pc := 3) (rest := []) g cv_Mo_is (Or.inl kw_212) cl_Mo (pz rfl (by decide)) (ct_Mo_is hc3) ⟨by decide, by decide⟩ rfl hl.1 (Nat.le_of_ble_eq_true rfl) d_Mo_select_3 rfl ?_
  refine ww_st (st' := [.int v3]) rfl ?_
  refine ww_if_eq (pc := 6) (tgt := 38) g.1 d_Mo_select_6 (by decide) h (fun c h => ?_) (fun c h => ?_)
  · exact j_Mo_select_j38 g hR s ls (lv_sub hl [0] rfl) h
  · refine ww_aload_n (pc := 9) g.1 d_Mo_select_9 rfl (lv_at hl 0 rfl) ?_
    refine ww_aload_n (pc := 10) g.1 d_Mo_select_10 rfl (lv_at hl 0 rfl) ?_
    refine ww_iconst (pc := 11) g.1 (v := 0) d_Mo_select_11 (by decide) ?_
    obtain ⟨v12, s, hc12, h⟩ := oB_of h
    refine ww_callV (pc := 12) (rest := [.ref (q.1 0 0)]) g cv_Mo_av (Or.inl kw_199) cl_Mo (pz rfl (by decide)) (ct_Mo_av hc12) ⟨by decide, by decide⟩ rfl hl.1 (Nat.le_of_ble_eq_true rfl) d_Mo_select_12 rfl ?_
    refine ww_st (st' := [.long v12, .ref (q.1 0 0)]) rfl ?_
    refine ww_l2i (pc := 15) g.1 (v := v12.toInt32) d_Mo_select_15 rfl ?_
    obtain ⟨v16, s, hc16, h⟩ := oB_of h
    refine ww_callV (pc := 16) (rest := []) g cv_Mo_isMark (Or.inl kw_372) cl_Mo (pz rfl (by decide)) (ct_Mo_isMark hc16) ⟨by decide, by decide⟩ rfl hl.1 (Nat.le_of_ble_eq_true rfl) d_Mo_select_16 rfl ?_
    refine ww_st (st' := [.int v16]) rfl ?_
    refine ww_if_eq (pc := 19) (tgt := 38) g.1 d_Mo_select_19 (by decide) h (fun c h => ?_) (fun c h => ?_)
    · exact j_Mo_select_j38 g hR s ls (lv_sub hl [0] rfl) h
    · refine ww_aload_n (pc := 22) g.1 d_Mo_select_22 rfl (lv_at hl 0 rfl) ?_
      refine ww_iconst (pc := 23) g.1 (v := 3) d_Mo_select_23 (by decide) ?_
      refine ww_aload_n (pc := 24) g.1 d_Mo_select_24 rfl (lv_at hl 0 rfl) ?_
      refine ww_gR (pc := 25) g (k := 77) cl_Mo (pz rfl (by decide)) (by decide) (Or.inl kw_188) (f := 77) (t := 7) rfl rfl rfl d_Mo_select_25 ?_
      refine ww_gI (pc := 28) g (k := 2) (cl_Va (Or.inl ⟨by decide, rfl⟩)) (pz rfl (by decide)) (by decide) (Or.inl kw_185) (f := 898) rfl rfl d_Mo_select_28 h fun v28 h => ?_
      refine ww_iconst (pc := 31) g.1 (v := 1) d_Mo_select_31 (by decide) ?_
      refine ww_isub (pc := 32) g.1 d_Mo_select_32 ?_
      refine ww_i2l (pc := 33) g.1 (v := (v28 - 1).toInt64) d_Mo_select_33 rfl ?_
      obtain ⟨v34, s, hc34, h⟩ := oB_of h
      refine ww_callV (pc := 34) (rest := []) g cv_Mo_give (Or.inl kw_218) cl_Mo (pz rfl (by decide)) (ct_Mo_give hc34) ⟨by decide, by decide⟩ rfl hl.1 (Nat.le_of_ble_eq_true rfl) d_Mo_select_34 rfl ?_
      refine ww_st (st' := []) rfl ?_
      exact ww_vretH (pc := 37) g h hR d_Mo_select_37

theorem kw_375 : Cond.methodLink R_Mo 726 y_Mo_goesOn ∈ wA := kinm (show _ ∈ tables_1 from (List.mem_append_right _ (List.mem_append_right _ (List.mem_append_right _ (List.mem_append_right _ (List.mem_append_right _ (List.mem_append_right _ (List.mem_append_right _ (List.mem_append_right _ (List.mem_append_right _ (List.mem_append_right _ (List.mem_append_right _ (List.mem_append_right _ (List.mem_append_left _ (List.mem_of_getElem? (l := tables_1_13) (i := 60) (by decide +kernel)))))))))))))))) (by decide +kernel)
theorem kw_376 : Cond.instanceMethod y_Mo_resume ∈ wA := kinm (show _ ∈ tables_1 from (List.mem_append_right _ (List.mem_append_right _ (List.mem_append_right _ (List.mem_append_right _ (List.mem_append_right _ (List.mem_append_right _ (List.mem_append_right _ (List.mem_append_right _ (List.mem_append_right _ (List.mem_append_right _ (List.mem_append_right _ (List.mem_append_right _ (List.mem_append_left _ (List.mem_of_getElem? (l := tables_1_13) (i := 58) (by decide +kernel)))))))))))))))) (by decide +kernel)
theorem kw_377 : Cond.selects R_Mo y_Mo_resume y_Mo_resume ∈ wA := kinp 186 (by decide +kernel) (by decide +kernel)
def M_Mo_resume  : M (Unit) :=
  oB (M_Mo_is 0 7) fun v4 =>
  oC (v4 = 0)
    (oB (oPI 898 0 0) fun _ =>
    oB (M_Mo_raise 2) fun v20 =>
    oR ())
    (oB (M_Mo_av 0) fun v27 =>
    oB (oAI 62 4100 0 v27.toInt32) fun v42 =>
    oB (oK ((0 : Int32) ≤ v42 ∧ v42 < 33)) fun _ =>
    oB (M_Mo_goesOn v42 v27.toInt32 2 (-1) 1) fun _ =>
    oR ())

theorem cv_Mo_resume : CV y_Mo_resume b_Mo_resume 2 none 0 := ⟨kw_376, kw_377, kw_17, k_Mo_resume, by decide +kernel⟩
theorem ct_Mo_resume {l : Launch} {P : PP} {q : PL} {s s' : S1}  {r : Unit} (h : M_Mo_resume s = some (r, s')) : Ct l y_Mo_resume b_Mo_resume 2 none 3 71 P q s [.ref (q.1 0 0)] none q s' := by
  refine ct_of (by decide) (Nat.le_of_ble_eq_true rfl) fun X ls eP el g hR hl => ?_
  have hR : Rt X q ((r, s') : Unit × S1).2 none := hR
  have hl : lv_has ls 2 [(0, .ref (q.1 0 0))] := hl
  generalize (r, s') = o at h hR
  unfold M_Mo_resume at h
  refine ww_aload_n (pc := 0) g.1 d_Mo_resume_0 rfl (lv_at hl 0 rfl) ?_
  refine ww_iconst (pc := 1) g.1 (v := 0) d_Mo_resume_1 (by decide) ?_
  refine ww_bipush (pc := 2) g.1 (v := 7) d_Mo_resume_2 (by decide) ?_
  obtain ⟨v4, s, hc4, h⟩ := oB_of h
  refine ww_callV (pc := 4) (rest := []) g cv_Mo_is (Or.inl kw_212) cl_Mo (pz rfl (by decide)) (ct_Mo_is hc4) ⟨by decide, by decide⟩ rfl hl.1 (Nat.le_of_ble_eq_true rfl) d_Mo_resume_4 rfl ?_
  refine ww_st (st' := [.int v4]) rfl ?_
  refine ww_if_ne (pc := 7) (tgt := 25) g.1 d_Mo_resume_7 (by decide) h (fun c h => ?_) (fun c h => ?_)
  · refine ww_aload_n (pc := 25) g.1 d_Mo_resume_25 rfl (lv_at hl 0 rfl) ?_
    refine ww_iconst (pc := 26) g.1 (v := 0) d_Mo_resume_26 (by decide) ?_
    obtain ⟨v27, s, hc27, h⟩ := oB_of h
    refine ww_callV (pc := 27) (rest := []) g cv_Mo_av (Or.inl kw_199) cl_Mo (pz rfl (by decide)) (ct_Mo_av hc27) ⟨by decide, by decide⟩ rfl hl.1 (Nat.le_of_ble_eq_true rfl) d_Mo_resume_27 rfl ?_
    refine ww_st (st' := [.long v27]) rfl ?_
    refine ww_l2i (pc := 30) g.1 (v := v27.toInt32) d_Mo_resume_30 rfl ?_
    refine ww_istore_n (pc := 31) g.1 (lv' := [(1, .int v27.toInt32), (0, .ref (q.1 0 0))]) d_Mo_resume_31 rfl hl (by decide) rfl fun ls hl => ?_
    refine ww_aload_n (pc := 32) g.1 d_Mo_resume_32 rfl (lv_at hl 1 rfl) ?_
    refine ww_aload_n (pc := 33) g.1 d_Mo_resume_33 rfl (lv_at hl 1 rfl) ?_
    refine ww_gR (pc := 34) g (k := 71) cl_Mo (pz rfl (by decide)) (by decide) (Or.inl kw_90) (f := 71) (t := 76) rfl rfl rfl d_Mo_resume_34 ?_
    refine ww_aload_n (pc := 37) g.1 d_Mo_resume_37 rfl (lv_at hl 1 rfl) ?_
    refine ww_gR (pc := 38) g (k := 49) cl_Mo (pz rfl (by decide)) (by decide) (Or.inl kw_89) (f := 49) (t := 62) rfl rfl rfl d_Mo_resume_38 ?_
    refine ww_iload_n (pc := 41) g.1 d_Mo_resume_41 rfl (lv_at hl 0 rfl) ?_
    refine ww_ai (pc := 42) g (pz rfl (by decide)) rfl rfl d_Mo_resume_42 h fun v42 h => ?_
    refine ww_at (pc := 43) g (t := 28) (pz rfl (by decide)) rfl rfl rfl d_Mo_resume_43 h fun ca43 h => ?_
    refine ww_iload_n (pc := 44) g.1 d_Mo_resume_44 rfl (lv_at hl 0 rfl) ?_
    refine ww_iconst (pc := 45) g.1 (v := 2) d_Mo_resume_45 (by decide) ?_
    refine ww_iconst (pc := 46) g.1 (v := (-1)) d_Mo_resume_46 (by decide) ?_
    refine ww_iconst (pc := 47) g.1 (v := 1) d_Mo_resume_47 (by decide) ?_
    obtain ⟨v48, s, hc48, h⟩ := oB_of h
    refine ww_callV (pc := 48) (rest := []) g cv_Mo_goesOn (Or.inl kw_375) cl_Mo (pz rfl (by decide)) (ct_Mo_goesOn ca43 hc48) ⟨by decide, by decide⟩ rfl hl.1 (Nat.le_of_ble_eq_true rfl) d_Mo_resume_48 rfl ?_
    refine ww_st (st' := []) rfl ?_
    exact ww_vretH (pc := 51) g h hR d_Mo_resume_51
  · refine ww_aload_n (pc := 10) g.1 d_Mo_resume_10 rfl (lv_at hl 0 rfl) ?_
    refine ww_gR (pc := 11) g (k := 77) cl_Mo (pz rfl (by decide)) (by decide) (Or.inl kw_188) (f := 77) (t := 7) rfl rfl rfl d_Mo_resume_11 ?_
    refine ww_iconst (pc := 14) g.1 (v := 0) d_Mo_resume_14 (by decide) ?_
    refine ww_pI (pc := 15) g (k := 2) (cl_Va (Or.inl ⟨by decide, rfl⟩)) (pz rfl (by decide)) (by decide) (Or.inl kw_185) rfl (f := 898) rfl rfl rfl rfl d_Mo_resume_15 h fun s hs h => ?_
    refine ww_aload_n (pc := 18) g.1 d_Mo_resume_18 rfl (lv_at hl 0 rfl) ?_
    refine ww_iconst (pc := 19) g.1 (v := 2) d_Mo_resume_19 (by decide) ?_
    obtain ⟨v20, s, hc20, h⟩ := oB_of h
    refine ww_callV (pc := 20) (rest := []) g cv_Mo_raise (Or.inl kw_162) cl_Mo (pz rfl (by decide)) (ct_Mo_raise hc20) ⟨by decide, by decide⟩ rfl hl.1 (Nat.le_of_ble_eq_true rfl) d_Mo_resume_20 rfl ?_
    refine ww_st (st' := [.int v20]) rfl ?_
    refine ww_pop (pc := 23) g.1 d_Mo_resume_23 rfl ?_
    exact ww_vretH (pc := 24) g h hR d_Mo_resume_24

