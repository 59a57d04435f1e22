theorem kw_326 : Cond.methodLink R_Mo 609 y_Mo_mark ∈ wA := kinm (show _ ∈ tables_1 from (List.mem_append_right _ (List.mem_append_right _ (List.mem_append_right _ (List.mem_append_right _ (List.mem_append_right _ (List.mem_append_right _ (List.mem_append_right _ (List.mem_append_right _ (List.mem_append_right _ (List.mem_append_right _ (List.mem_append_right _ (List.mem_append_left _ (List.mem_of_getElem? (l := tables_1_12) (i := 16) (by decide +kernel))))))))))))))) (by decide +kernel)
theorem kw_327 : Cond.instanceMethod y_Mo_markRow ∈ wA := kinm (show _ ∈ tables_1 from (List.mem_append_right _ (List.mem_append_right _ (List.mem_append_right _ (List.mem_append_right _ (List.mem_append_right _ (List.mem_append_right _ (List.mem_append_right _ (List.mem_append_right _ (List.mem_append_right _ (List.mem_append_right _ (List.mem_append_right _ (List.mem_append_left _ (List.mem_of_getElem? (l := tables_1_12) (i := 14) (by decide +kernel))))))))))))))) (by decide +kernel)
theorem kw_328 : Cond.selects R_Mo y_Mo_markRow y_Mo_markRow ∈ wA := kinp 131 (by decide +kernel) (by decide +kernel)
def M_Mo_markRow_L3 : (Nat × Int32 × Int32 × Int32 × Int32) → M ((Nat × Int32 × Int32 × Int32 × Int32) ⊕ ((Unit))) := fun x =>
  oC ((x.2.2.1 + x.2.2.2.1) ≤ x.2.2.2.2)
    (oR (Sum.inr ()))
    (oB (oAI (x.1 + 1) (lnI (x.1 + 1)) x.2.1 x.2.2.2.2) fun v18 =>
    oB (oAL (x.1 + 2) (lnI (x.1 + 2)) x.2.1 x.2.2.2.2) fun v25 =>
    oB (M_Mo_mark v18 v25) fun _ =>
    oR (Sum.inl (x.1, x.2.1, x.2.2.1, x.2.2.2.1, x.2.2.2.2 + 1)))

def M_Mo_markRow (l1r : Nat) (l1 : Int32) (l2 : Int32) (l3 : Int32) : M (Unit) :=
  oB (oW M_Mo_markRow_L3 (l1r, l1, l2, l3, l2)) fun e3 =>
  oR ()

theorem cv_Mo_markRow : CV y_Mo_markRow b_Mo_markRow 5 none 3 := ⟨kw_327, kw_328, kw_17, k_Mo_markRow, by decide +kernel⟩
theorem lp_Mo_markRow_L3 {X : Cx} {q : PL} (g : Gd X y_Mo_markRow b_Mo_markRow 5 none 2 44 R_Mo) (x : Nat × Int32 × Int32 × Int32 × Int32) (s : S1) (o : ((Nat × Int32 × Int32 × Int32 × Int32) ⊕ ((Unit))) × S1) (h : M_Mo_markRow_L3 x s = some o) (hR : (Sum.elim (fun y : Nat × Int32 × Int32 × Int32 × Int32 => ∀ ls : Array Slot, (VOK y.1 y.2.1) → lv_has ls 5 [(0, .ref (q.1 0 0)), (1, .ref (q.1 y.1 y.2.1)), (2, .int y.2.2.1), (3, .int y.2.2.2.1), (4, .int y.2.2.2.2)] → WW X q o.2 3 ls []) (fun y : Unit => ∀ ls : Array Slot, lv_has ls 5 [] → WW X q o.2 35 ls []) o.1)) : ∀ ls : Array Slot, (VOK x.1 x.2.1) → lv_has ls 5 [(0, .ref (q.1 0 0)), (1, .ref (q.1 x.1 x.2.1)), (2, .int x.2.2.1), (3, .int x.2.2.2.1), (4, .int x.2.2.2.2)] → WW X q s 3 ls [] := by
  intro ls hp0 hl
  unfold M_Mo_markRow_L3 at h
  refine ww_iload (pc := 3) g.1 d_Mo_markRow_3 (lv_at hl 4 rfl) ?_
  refine ww_iload_n (pc := 5) g.1 d_Mo_markRow_5 rfl (lv_at hl 2 rfl) ?_
  refine ww_iload_n (pc := 6) g.1 d_Mo_markRow_6 rfl (lv_at hl 3 rfl) ?_
  refine ww_iadd (pc := 7) g.1 d_Mo_markRow_7 ?_
  refine ww_icmp_ge (pc := 8) (tgt := 35) g.1 d_Mo_markRow_8 (by decide) h (fun c h => ?_) (fun c h => ?_)
  · rw [oR_eq h] at hR
    exact hR ls (lv_sub hl [] rfl)
  · refine ww_aload_n (pc := 11) g.1 d_Mo_markRow_11 rfl (lv_at hl 0 rfl) ?_
    refine ww_aload_n (pc := 12) g.1 d_Mo_markRow_12 rfl (lv_at hl 1 rfl) ?_
    refine ww_gR (pc := 13) g (k := 0) (cl_Va hp0) (vok_p hp0).1 (by rw [(vok_f hp0).1.2.2]; decide) (Or.inl kw_92) (f := (128 * x.1 + 0)) (t := x.1 + 1) rfl (vok_f hp0).2.1.1 (vok_f hp0).2.1.2 d_Mo_markRow_13 ?_
    refine ww_iload (pc := 16) g.1 d_Mo_markRow_16 (lv_at hl 4 rfl) ?_
    refine ww_ab (pc := 18) g (vok_p hp0).2.1 (vok_f hp0).2.2.2.2.1 (vok_n hp0).1 d_Mo_markRow_18 h fun v18 h => ?_
    refine ww_aload_n (pc := 19) g.1 d_Mo_markRow_19 rfl (lv_at hl 1 rfl) ?_
    refine ww_gR (pc := 20) g (k := 1) (cl_Va hp0) (vok_p hp0).1 (by rw [(vok_f hp0).1.2.2]; decide) (Or.inl kw_95) (f := (128 * x.1 + 1)) (t := x.1 + 2) rfl (vok_f hp0).2.2.1.1 (vok_f hp0).2.2.1.2 d_Mo_markRow_20 ?_
    refine ww_iload (pc := 23) g.1 d_Mo_markRow_23 (lv_at hl 4 rfl) ?_
    refine ww_al (pc := 25) g (vok_p hp0).2.2 (vok_f hp0).2.2.2.2.2 (vok_n hp0).2 d_Mo_markRow_25 h fun v25 h => ?_
    obtain ⟨v26, s, hc26, h⟩ := oB_of h
    refine ww_callV (pc := 26) (rest := []) g cv_Mo_mark (Or.inl kw_326) cl_Mo (pz rfl (by decide)) (ct_Mo_mark hc26) ⟨by decide, by decide⟩ rfl hl.1 (Nat.le_of_ble_eq_true rfl) d_Mo_markRow_26 rfl ?_
    refine ww_st (st' := []) rfl ?_
    refine ww_iinc (pc := 29) g.1 (v := x.2.2.2.2 + 1) (lv' := [(4, .int (x.2.2.2.2 + 1)), (0, .ref (q.1 0 0)), (1, .ref (q.1 x.1 x.2.1)), (2, .int x.2.2.1), (3, .int x.2.2.2.1)]) d_Mo_markRow_29 hl (k := 4) rfl (by rfl) (by decide) rfl fun ls hl => ?_
    refine ww_goto (pc := 32) (tgt := 3) g.1 d_Mo_markRow_32 (by decide) ?_
    rw [oR_eq h] at hR
    exact hR ls hp0 (lv_sub hl [1, 2, 3, 4, 0] rfl)

theorem ct_Mo_markRow {l : Launch} {P : PP} {q : PL} {s s' : S1} {l1r : Nat} {l1 : Int32} {l2 : Int32} {l3 : Int32} (hp0 : VOK l1r l1) {r : Unit} (h : M_Mo_markRow l1r l1 l2 l3 s = some (r, s')) : Ct l y_Mo_markRow b_Mo_markRow 5 none 2 44 P q s [.ref (q.1 0 0), .ref (q.1 l1r l1), .int l2, .int l3] none q s' := by
  refine ct_of (by decide) (Nat.le_of_ble_eq_true rfl) fun X ls eP el g hR hl => ?_
  have hR : Rt X q ((r, s') : Unit × S1).2 none := hR
  have hl : lv_has ls 5 [(0, .ref (q.1 0 0)), (1, .ref (q.1 l1r l1)), (2, .int l2), (3, .int l3)] := hl
  generalize (r, s') = o at h hR
  unfold M_Mo_markRow at h
  refine ww_iload_n (pc := 0) g.1 d_Mo_markRow_0 rfl (lv_at hl 2 rfl) ?_
  refine ww_istore (pc := 1) g.1 (lv' := [(4, .int l2), (0, .ref (q.1 0 0)), (1, .ref (q.1 l1r l1)), (2, .int l2), (3, .int l3)]) d_Mo_markRow_1 hl (by decide) rfl fun ls hl => ?_
  obtain ⟨e3, s1, hw, h⟩ := oB_of h
  refine oW_rule (Wh := fun (x : Nat × Int32 × Int32 × Int32 × Int32) (s : S1) => ∀ ls : Array Slot, (VOK x.1 x.2.1) → lv_has ls 5 [(0, .ref (q.1 0 0)), (1, .ref (q.1 x.1 x.2.1)), (2, .int x.2.2.1), (3, .int x.2.2.2.1), (4, .int x.2.2.2.2)] → WW X q s 3 ls []) (We := fun (e : (Unit)) (s : S1) => ∀ ls : Array Slot, lv_has ls 5 [] → WW X q s 35 ls []) (fun x s o hb hc => lp_Mo_markRow_L3 (q := q) g x s o hb hc) hw ?_ ls hp0 (lv_sub hl [1, 2, 3, 4, 0] rfl)
  clear hw hl
  clear ls
  intro ls hl
  generalize s1 = s at h ⊢
  exact ww_vretH (pc := 35) g h hR d_Mo_markRow_35

theorem nw_Th_88 : Cond.methodLinkNest R_Th 88 y_Mo_markRow "LuaMachineModel" ∈ xW := xinm (show _ ∈ tables_1 from (List.mem_append_right _ (List.mem_append_right _ (List.mem_append_right _ (List.mem_append_right _ (List.mem_append_right _ (List.mem_append_right _ (List.mem_append_right _ (List.mem_append_right _ (List.mem_append_right _ (List.mem_append_right _ (List.mem_append_right _ (List.mem_append_left _ (List.mem_of_getElem? (l := tables_1_12) (i := 32) (by decide +kernel))))))))))))))) (by decide +kernel)
theorem kw_330 : Cond.fieldLink R_Th 55 "LuaMachineModel$Thread_" "function" "[I" ∈ wA := kinm (show _ ∈ tables_1 from (List.mem_append_right _ (List.mem_append_right _ (List.mem_append_right _ (List.mem_append_right _ (List.mem_append_right _ (List.mem_append_right _ (List.mem_append_right _ (List.mem_append_right _ (List.mem_append_left _ (List.mem_of_getElem? (l := tables_1_9) (i := 228) (by decide +kernel)))))))))))) (by decide +kernel)
theorem kw_331 : Cond.fieldLink R_Th 52 "LuaMachineModel$Thread_" "kind" "[I" ∈ wA := kinm (show _ ∈ tables_1 from (List.mem_append_right _ (List.mem_append_right _ (List.mem_append_right _ (List.mem_append_right _ (List.mem_append_right _ (List.mem_append_right _ (List.mem_append_right _ (List.mem_append_right _ (List.mem_append_left _ (List.mem_of_getElem? (l := tables_1_9) (i := 226) (by decide +kernel)))))))))))) (by decide +kernel)
theorem kw_332 : Cond.fieldLink R_Th 38 "LuaMachineModel$Thread_" "stack" "LLuaMachineModel$Values;" ∈ wA := kinm (show _ ∈ tables_1 from (List.mem_append_right _ (List.mem_append_right _ (List.mem_append_right _ (List.mem_append_right _ (List.mem_append_right _ (List.mem_append_right _ (List.mem_append_right _ (List.mem_append_right _ (List.mem_append_left _ (List.mem_of_getElem? (l := tables_1_9) (i := 218) (by decide +kernel)))))))))))) (by decide +kernel)
theorem kw_333 : Cond.fieldLink R_Th 61 "LuaMachineModel$Thread_" "base" "[I" ∈ wA := kinm (show _ ∈ tables_1 from (List.mem_append_right _ (List.mem_append_right _ (List.mem_append_right _ (List.mem_append_right _ (List.mem_append_right _ (List.mem_append_right _ (List.mem_append_right _ (List.mem_append_right _ (List.mem_append_left _ (List.mem_of_getElem? (l := tables_1_9) (i := 232) (by decide +kernel)))))))))))) (by decide +kernel)
theorem kw_334 : Cond.fieldLink R_Th 64 "LuaMachineModel$Thread_" "extra" "[I" ∈ wA := kinm (show _ ∈ tables_1 from (List.mem_append_right _ (List.mem_append_right _ (List.mem_append_right _ (List.mem_append_right _ (List.mem_append_right _ (List.mem_append_right _ (List.mem_append_right _ (List.mem_append_right _ (List.mem_append_left _ (List.mem_of_getElem? (l := tables_1_9) (i := 234) (by decide +kernel)))))))))))) (by decide +kernel)
theorem nw_Th_96 : Cond.fieldLinkNest R_Th 96 "LuaMachineModel" "registers" "[I" "LuaMachineModel" ∈ xW := xinm (show _ ∈ tables_1 from (List.mem_append_right _ (List.mem_append_right _ (List.mem_append_right _ (List.mem_append_right _ (List.mem_append_right _ (List.mem_append_right _ (List.mem_append_right _ (List.mem_append_right _ (List.mem_append_right _ (List.mem_append_left _ (List.mem_of_getElem? (l := tables_1_10) (i := 63) (by decide +kernel))))))))))))) (by decide +kernel)
theorem nw_Th_99 : Cond.fieldLinkNest R_Th 99 "LuaMachineModel" "first" "[I" "LuaMachineModel" ∈ xW := xinm (show _ ∈ tables_1 from (List.mem_append_right _ (List.mem_append_right _ (List.mem_append_right _ (List.mem_append_right _ (List.mem_append_right _ (List.mem_append_right _ (List.mem_append_right _ (List.mem_append_right _ (List.mem_append_right _ (List.mem_append_left _ (List.mem_of_getElem? (l := tables_1_10) (i := 105) (by decide +kernel))))))))))))) (by decide +kernel)
theorem kw_337 : Cond.fieldLink R_Th 42 "LuaMachineModel$Thread_" "row" "LLuaMachineModel$Values;" ∈ wA := kinm (show _ ∈ tables_1 from (List.mem_append_right _ (List.mem_append_right _ (List.mem_append_right _ (List.mem_append_right _ (List.mem_append_right _ (List.mem_append_right _ (List.mem_append_right _ (List.mem_append_right _ (List.mem_append_left _ (List.mem_of_getElem? (l := tables_1_9) (i := 220) (by decide +kernel)))))))))))) (by decide +kernel)
theorem kw_338 : Cond.fieldLink R_Th 70 "LuaMachineModel$Thread_" "rowCount" "[I" ∈ wA := kinm (show _ ∈ tables_1 from (List.mem_append_right _ (List.mem_append_right _ (List.mem_append_right _ (List.mem_append_right _ (List.mem_append_right _ (List.mem_append_right _ (List.mem_append_right _ (List.mem_append_right _ (List.mem_append_left _ (List.mem_of_getElem? (l := tables_1_9) (i := 238) (by decide +kernel)))))))))))) (by decide +kernel)
theorem nw_Th_94 : Cond.methodLinkNest R_Th 94 y_Mo_place "LuaMachineModel" ∈ xW := xinm (show _ ∈ tables_1 from (List.mem_append_right _ (List.mem_append_right _ (List.mem_append_right _ (List.mem_append_right _ (List.mem_append_right _ (List.mem_append_right _ (List.mem_append_right _ (List.mem_append_right _ (List.mem_append_right _ (List.mem_append_right _ (List.mem_append_right _ (List.mem_append_left _ (List.mem_of_getElem? (l := tables_1_12) (i := 33) (by decide +kernel))))))))))))))) (by decide +kernel)
theorem kw_340 : Cond.fieldLink R_Th 48 "LuaMachineModel$Thread_" "open" "[I" ∈ wA := kinm (show _ ∈ tables_1 from (List.mem_append_right _ (List.mem_append_right _ (List.mem_append_right _ (List.mem_append_right _ (List.mem_append_right _ (List.mem_append_right _ (List.mem_append_right _ (List.mem_append_right _ (List.mem_append_left _ (List.mem_of_getElem? (l := tables_1_9) (i := 224) (by decide +kernel)))))))))))) (by decide +kernel)
theorem kw_341 : Cond.instanceMethod y_Th_reach ∈ wA := kinm (show _ ∈ tables_1 from (List.mem_append_right _ (List.mem_append_right _ (List.mem_append_right _ (List.mem_append_right _ (List.mem_append_right _ (List.mem_append_right _ (List.mem_append_right _ (List.mem_append_right _ (List.mem_append_right _ (List.mem_append_right _ (List.mem_append_right _ (List.mem_append_left _ (List.mem_of_getElem? (l := tables_1_12) (i := 29) (by decide +kernel))))))))))))))) (by decide +kernel)
theorem kw_342 : Cond.selects R_Th y_Th_reach y_Th_reach ∈ wA := kinm (show _ ∈ tables_1 from (List.mem_append_right _ (List.mem_append_right _ (List.mem_append_right _ (List.mem_append_right _ (List.mem_append_right _ (List.mem_append_right _ (List.mem_append_right _ (List.mem_append_right _ (List.mem_append_right _ (List.mem_append_right _ (List.mem_append_right _ (List.mem_append_left _ (List.mem_of_getElem? (l := tables_1_12) (i := 30) (by decide +kernel))))))))))))))) (by decide +kernel)
def M_Th_reach_j126 (l0 : Int32) (l2 : Int32) : M ((Int32 × Int32) ⊕ ((Int32))) :=
  oR (Sum.inl (l0, l2 + 1))

def M_Th_reach_j45 (l0 : Int32) (l2 : Int32) : M ((Int32 × Int32) ⊕ ((Int32))) :=
  oB (oAI 30 201 l0 l2) fun v50 =>
  oC (v50 = 0)
    (oB (oAI 33 201 l0 l2) fun v67 =>
    oB (oAI 34 201 l0 l2) fun v73 =>
    oB (oAI 31 201 l0 l2) fun v88 =>
    oB (oAI 62 4100 0 v88) fun v89 =>
    oB (oAI 44 251 0 v89) fun v90 =>
    oB (oAI 34 201 l0 l2) fun v96 =>
    oB (M_Mo_markRow 19 l0 (v67 - v73) (v90 + v96)) fun _ =>
    oB (oGI 3586 l0) fun v103 =>
    oC (l2 = (v103 - 1))
      (oB (oAI 36 201 l0 l2) fun v122 =>
      oB (M_Mo_markRow 22 l0 0 v122) fun _ =>
      M_Th_reach_j126 l0 l2)
      (M_Th_reach_j126 l0 l2))
    (M_Th_reach_j126 l0 l2)

def M_Th_reach_L18 : (Int32 × Int32) → M ((Int32 × Int32) ⊕ ((Int32))) := fun x =>
  oB (oGI 3586 x.1) fun v20 =>
  oC (v20 ≤ x.2)
    (oR (Sum.inr x.1))
    (oB (oAI 31 201 x.1 x.2) fun v31 =>
    oC (v31 < 0)
      (M_Th_reach_j45 x.1 x.2)
      (oB (oAI 31 201 x.1 x.2) fun v41 =>
      oB (M_Mo_place v41) fun _ =>
      M_Th_reach_j45 x.1 x.2))

def M_Th_reach_L134 : (Int32 × Int32) → M ((Int32 × Int32) ⊕ ((Unit))) := fun x =>
  oB (oGI 3587 x.1) fun v136 =>
  oC (v136 ≤ x.2)
    (oR (Sum.inr ()))
    (oB (oAI 29 4100 x.1 x.2) fun v148 =>
    oB (M_Mo_place v148) fun _ =>
    oR (Sum.inl (x.1, x.2 + 1)))

def M_Th_reach (l0 : Int32) : M (Unit) :=
  oB (oGI 3202 l0) fun v10 =>
  oB (M_Mo_markRow 25 l0 0 v10) fun _ =>
  oB (oW M_Th_reach_L18 (l0, 0)) fun e18 =>
  oB (oW M_Th_reach_L134 (e18, 0)) fun e134 =>
  oR ()

theorem cv_Th_reach : CV y_Th_reach b_Th_reach 3 none 1 := ⟨kw_341, kw_342, kw_152, k_Th_reach, by decide +kernel⟩
theorem j_Th_reach_j126 {X : Cx} {q : PL} (g : Gd X y_Th_reach b_Th_reach 3 none 3 68 R_Th) {o : ((Int32 × Int32) ⊕ ((Int32))) × S1} (hR : (Sum.elim (fun y : Int32 × Int32 => ∀ ls : Array Slot, (0 ≤ y.1 ∧ y.1 < 33) → lv_has ls 3 [(0, .ref (q.1 28 y.1)), (1, .ref (q.1 0 0)), (2, .int y.2)] → WW X q o.2 18 ls []) (fun y : Int32 => ∀ ls : Array Slot, (0 ≤ y ∧ y < 33) → lv_has ls 3 [(0, .ref (q.1 28 y)), (1, .ref (q.1 0 0))] → WW X q o.2 132 ls []) o.1)) (l0 : Int32) (l2 : Int32) (s : S1) (hp0 : 0 ≤ l0 ∧ l0 < 33) (ls : Array Slot) (hl : lv_has ls 3 [(0, .ref (q.1 28 l0)), (1, .ref (q.1 0 0)), (2, .int l2)]) (h : M_Th_reach_j126 l0 l2 s = some o) : WW X q s 126 ls [] := by
  unfold M_Th_reach_j126 at h
  refine ww_iinc (pc := 126) g.1 (v := l2 + 1) (lv' := [(2, .int (l2 + 1)), (0, .ref (q.1 28 l0)), (1, .ref (q.1 0 0))]) d_Th_reach_126 hl (k := 2) rfl (by rfl) (by decide) rfl fun ls hl => ?_
  refine ww_goto (pc := 129) (tgt := 18) g.1 d_Th_reach_129 (by decide) ?_
  rw [oR_eq h] at hR
  exact hR ls hp0 (lv_sub hl [1, 2, 0] rfl)

theorem j_Th_reach_j45 {X : Cx} {q : PL} (g : Gd X y_Th_reach b_Th_reach 3 none 3 68 R_Th) {o : ((Int32 × Int32) ⊕ ((Int32))) × S1} (hR : (Sum.elim (fun y : Int32 × Int32 => ∀ ls : Array Slot, (0 ≤ y.1 ∧ y.1 < 33) → lv_has ls 3 [(0, .ref (q.1 28 y.1)), (1, .ref (q.1 0 0)), (2, .int y.2)] → WW X q o.2 18 ls []) (fun y : Int32 => ∀ ls : Array Slot, (0 ≤ y ∧ y < 33) → lv_has ls 3 [(0, .ref (q.1 28 y)), (1, .ref (q.1 0 0))] → WW X q o.2 132 ls []) o.1)) (l0 : Int32) (l2 : Int32) (s : S1) (hp0 : 0 ≤ l0 ∧ l0 < 33) (ls : Array Slot) (hl : lv_has ls 3 [(0, .ref (q.1 28 l0)), (1, .ref (q.1 0 0)), (2, .int l2)]) (h : M_Th_reach_j45 l0 l2 s = some o) : WW X q s 45 ls [] := by
  unfold M_Th_reach_j45 at h
  refine ww_aload_n (pc := 45) g.1 d_Th_reach_45 rfl (lv_at hl 0 rfl) ?_
  refine ww_gR (pc := 46) g (k := 11) cl_Th (pt rfl rfl hp0) (by decide) (Or.inl kw_331) (f := 3595) (t := 30) rfl rfl rfl d_Th_reach_46 ?_
  refine ww_iload_n (pc := 49) g.1 d_Th_reach_49 rfl (lv_at hl 2 rfl) ?_
  refine ww_ai (pc := 50) g (pt rfl rfl hp0) rfl rfl d_Th_reach_50 h fun v50 h => ?_
  refine ww_if_eq (pc := 51) (tgt := 57) g.1 d_Th_reach_51 (by decide) h (fun c h => ?_) (fun c h => ?_)
  · refine ww_aload_n (pc := 57) g.1 d_Th_reach_57 rfl (lv_at hl 1 rfl) ?_
    refine ww_aload_n (pc := 58) g.1 d_Th_reach_58 rfl (lv_at hl 0 rfl) ?_
    refine ww_gR (pc := 59) g (k := 7) cl_Th (pt rfl rfl hp0) (by decide) (Or.inl kw_332) (f := 3591) (t := 19) rfl rfl rfl d_Th_reach_59 ?_
    refine ww_aload_n (pc := 62) g.1 d_Th_reach_62 rfl (lv_at hl 0 rfl) ?_
    refine ww_gR (pc := 63) g (k := 14) cl_Th (pt rfl rfl hp0) (by decide) (Or.inl kw_333) (f := 3598) (t := 33) rfl rfl rfl d_Th_reach_63 ?_
    refine ww_iload_n (pc := 66) g.1 d_Th_reach_66 rfl (lv_at hl 2 rfl) ?_
    refine ww_ai (pc := 67) g (pt rfl rfl hp0) rfl rfl d_Th_reach_67 h fun v67 h => ?_
    refine ww_aload_n (pc := 68) g.1 d_Th_reach_68 rfl (lv_at hl 0 rfl) ?_
    refine ww_gR (pc := 69) g (k := 15) cl_Th (pt rfl rfl hp0) (by decide) (Or.inl kw_334) (f := 3599) (t := 34) rfl rfl rfl d_Th_reach_69 ?_
    refine ww_iload_n (pc := 72) g.1 d_Th_reach_72 rfl (lv_at hl 2 rfl) ?_
    refine ww_ai (pc := 73) g (pt rfl rfl hp0) rfl rfl d_Th_reach_73 h fun v73 h => ?_
    refine ww_isub (pc := 74) g.1 d_Th_reach_74 ?_
    refine ww_aload_n (pc := 75) g.1 d_Th_reach_75 rfl (lv_at hl 1 rfl) ?_
    refine ww_gR (pc := 76) g (k := 8) cl_Mo (pz rfl (by decide)) (by decide) (Or.inr ⟨_, nw_Th_96⟩) (f := 8) (t := 44) rfl rfl rfl d_Th_reach_76 ?_
    refine ww_aload_n (pc := 79) g.1 d_Th_reach_79 rfl (lv_at hl 1 rfl) ?_
    refine ww_gR (pc := 80) g (k := 49) cl_Mo (pz rfl (by decide)) (by decide) (Or.inr ⟨_, nw_Th_99⟩) (f := 49) (t := 62) rfl rfl rfl d_Th_reach_80 ?_
    refine ww_aload_n (pc := 83) g.1 d_Th_reach_83 rfl (lv_at hl 0 rfl) ?_
    refine ww_gR (pc := 84) g (k := 12) cl_Th (pt rfl rfl hp0) (by decide) (Or.inl kw_330) (f := 3596) (t := 31) rfl rfl rfl d_Th_reach_84 ?_
    refine ww_iload_n (pc := 87) g.1 d_Th_reach_87 rfl (lv_at hl 2 rfl) ?_
    refine ww_ai (pc := 88) g (pt rfl rfl hp0) rfl rfl d_Th_reach_88 h fun v88 h => ?_
    refine ww_ai (pc := 89) g (pz rfl (by decide)) rfl rfl d_Th_reach_89 h fun v89 h => ?_
    refine ww_ai (pc := 90) g (pz rfl (by decide)) rfl rfl d_Th_reach_90 h fun v90 h => ?_
    refine ww_aload_n (pc := 91) g.1 d_Th_reach_91 rfl (lv_at hl 0 rfl) ?_
    refine ww_gR (pc := 92) g (k := 15) cl_Th (pt rfl rfl hp0) (by decide) (Or.inl kw_334) (f := 3599) (t := 34) rfl rfl rfl d_Th_reach_92 ?_
    refine ww_iload_n (pc := 95) g.1 d_Th_reach_95 rfl (lv_at hl 2 rfl) ?_
    refine ww_ai (pc := 96) g (pt rfl rfl hp0) rfl rfl d_Th_reach_96 h fun v96 h => ?_
    refine ww_iadd (pc := 97) g.1 d_Th_reach_97 ?_
    obtain ⟨v98, s, hc98, h⟩ := oB_of h
    refine ww_callV (pc := 98) (rest := []) g cv_Mo_markRow (Or.inr ⟨_, nw_Th_88⟩) cl_Mo (pz rfl (by decide)) (ct_Mo_markRow (Or.inr ⟨by decide, hp0⟩) hc98) ⟨by decide, by decide⟩ rfl hl.1 (Nat.le_of_ble_eq_true rfl) d_Th_reach_98 rfl ?_
    refine ww_st (st' := []) rfl ?_
    refine ww_iload_n (pc := 101) g.1 d_Th_reach_101 rfl (lv_at hl 2 rfl) ?_
    refine ww_aload_n (pc := 102) g.1 d_Th_reach_102 rfl (lv_at hl 0 rfl) ?_
    refine ww_gI (pc := 103) g (k := 2) cl_Th (pt rfl rfl hp0) (by decide) (Or.inl kw_143) (f := 3586) rfl rfl d_Th_reach_103 h fun v103 h => ?_
    refine ww_iconst (pc := 106) g.1 (v := 1) d_Th_reach_106 (by decide) ?_
    refine ww_isub (pc := 107) g.1 d_Th_reach_107 ?_
    refine ww_icmp_ne (pc := 108) (tgt := 126) g.1 d_Th_reach_108 (by decide) h (fun c h => ?_) (fun c h => ?_)
    · exact j_Th_reach_j126 g hR l0 l2 s hp0 ls (lv_sub hl [0, 1, 2] rfl) h
    · refine ww_aload_n (pc := 111) g.1 d_Th_reach_111 rfl (lv_at hl 1 rfl) ?_
      refine ww_aload_n (pc := 112) g.1 d_Th_reach_112 rfl (lv_at hl 0 rfl) ?_
      refine ww_gR (pc := 113) g (k := 8) cl_Th (pt rfl rfl hp0) (by decide) (Or.inl kw_337) (f := 3592) (t := 22) rfl rfl rfl d_Th_reach_113 ?_
      refine ww_iconst (pc := 116) g.1 (v := 0) d_Th_reach_116 (by decide) ?_
      refine ww_aload_n (pc := 117) g.1 d_Th_reach_117 rfl (lv_at hl 0 rfl) ?_
      refine ww_gR (pc := 118) g (k := 17) cl_Th (pt rfl rfl hp0) (by decide) (Or.inl kw_338) (f := 3601) (t := 36) rfl rfl rfl d_Th_reach_118 ?_
      refine ww_iload_n (pc := 121) g.1 d_Th_reach_121 rfl (lv_at hl 2 rfl) ?_
      refine ww_ai (pc := 122) g (pt rfl rfl hp0) rfl rfl d_Th_reach_122 h fun v122 h => ?_
      obtain ⟨v123, s, hc123, h⟩ := oB_of h
      refine ww_callV (pc := 123) (rest := []) g cv_Mo_markRow (Or.inr ⟨_, nw_Th_88⟩) cl_Mo (pz rfl (by decide)) (ct_Mo_markRow (Or.inr ⟨by decide, hp0⟩) hc123) ⟨by decide, by decide⟩ rfl hl.1 (Nat.le_of_ble_eq_true rfl) d_Th_reach_123 rfl ?_
      refine ww_st (st' := []) rfl ?_
      exact j_Th_reach_j126 g hR l0 l2 s hp0 ls (lv_sub hl [0, 1, 2] rfl) h
  · refine ww_goto (pc := 54) (tgt := 126) g.1 d_Th_reach_54 (by decide) ?_
    exact j_Th_reach_j126 g hR l0 l2 s hp0 ls (lv_sub hl [0, 1, 2] rfl) h

theorem lp_Th_reach_L18 {X : Cx} {q : PL} (g : Gd X y_Th_reach b_Th_reach 3 none 3 68 R_Th) (x : Int32 × Int32) (s : S1) (o : ((Int32 × Int32) ⊕ ((Int32))) × S1) (h : M_Th_reach_L18 x s = some o) (hR : (Sum.elim (fun y : Int32 × Int32 => ∀ ls : Array Slot, (0 ≤ y.1 ∧ y.1 < 33) → lv_has ls 3 [(0, .ref (q.1 28 y.1)), (1, .ref (q.1 0 0)), (2, .int y.2)] → WW X q o.2 18 ls []) (fun y : Int32 => ∀ ls : Array Slot, (0 ≤ y ∧ y < 33) → lv_has ls 3 [(0, .ref (q.1 28 y)), (1, .ref (q.1 0 0))] → WW X q o.2 132 ls []) o.1)) : ∀ ls : Array Slot, (0 ≤ x.1 ∧ x.1 < 33) → lv_has ls 3 [(0, .ref (q.1 28 x.1)), (1, .ref (q.1 0 0)), (2, .int x.2)] → WW X q s 18 ls [] := by
  intro ls hp0 hl
  unfold M_Th_reach_L18 at h
  refine ww_iload_n (pc := 18) g.1 d_Th_reach_18 rfl (lv_at hl 2 rfl) ?_
  refine ww_aload_n (pc := 19) g.1 d_Th_reach_19 rfl (lv_at hl 0 rfl) ?_
  refine ww_gI (pc := 20) g (k := 2) cl_Th (pt rfl rfl hp0) (by decide) (Or.inl kw_143) (f := 3586) rfl rfl d_Th_reach_20 h fun v20 h => ?_
  refine ww_icmp_ge (pc := 23) (tgt := 132) g.1 d_Th_reach_23 (by decide) h (fun c h => ?_) (fun c h => ?_)
  · rw [oR_eq h] at hR
    exact hR ls hp0 (lv_sub hl [0, 1] rfl)
  · refine ww_aload_n (pc := 26) g.1 d_Th_reach_26 rfl (lv_at hl 0 rfl) ?_
    refine ww_gR (pc := 27) g (k := 12) cl_Th (pt rfl rfl hp0) (by decide) (Or.inl kw_330) (f := 3596) (t := 31) rfl rfl rfl d_Th_reach_27 ?_
    refine ww_iload_n (pc := 30) g.1 d_Th_reach_30 rfl (lv_at hl 2 rfl) ?_
    refine ww_ai (pc := 31) g (pt rfl rfl hp0) rfl rfl d_Th_reach_31 h fun v31 h => ?_
    refine ww_if_lt (pc := 32) (tgt := 45) g.1 d_Th_reach_32 (by decide) h (fun c h => ?_) (fun c h => ?_)
    · exact j_Th_reach_j45 g hR x.1 x.2 s hp0 ls (lv_sub hl [0, 1, 2] rfl) h
    · refine ww_aload_n (pc := 35) g.1 d_Th_reach_35 rfl (lv_at hl 1 rfl) ?_
      refine ww_aload_n (pc := 36) g.1 d_Th_reach_36 rfl (lv_at hl 0 rfl) ?_
      refine ww_gR (pc := 37) g (k := 12) cl_Th (pt rfl rfl hp0) (by decide) (Or.inl kw_330) (f := 3596) (t := 31) rfl rfl rfl d_Th_reach_37 ?_
      refine ww_iload_n (pc := 40) g.1 d_Th_reach_40 rfl (lv_at hl 2 rfl) ?_
      refine ww_ai (pc := 41) g (pt rfl rfl hp0) rfl rfl d_Th_reach_41 h fun v41 h => ?_
      obtain ⟨v42, s, hc42, h⟩ := oB_of h
      refine ww_callV (pc := 42) (rest := []) g cv_Mo_place (Or.inr ⟨_, nw_Th_94⟩) cl_Mo (pz rfl (by decide)) (ct_Mo_place hc42) ⟨by decide, by decide⟩ rfl hl.1 (Nat.le_of_ble_eq_true rfl) d_Th_reach_42 rfl ?_
      refine ww_st (st' := []) rfl ?_
      exact j_Th_reach_j45 g hR x.1 x.2 s hp0 ls (lv_sub hl [0, 1, 2] rfl) h

theorem lp_Th_reach_L134 {X : Cx} {q : PL} (g : Gd X y_Th_reach b_Th_reach 3 none 3 68 R_Th) (x : Int32 × Int32) (s : S1) (o : ((Int32 × Int32) ⊕ ((Unit))) × S1) (h : M_Th_reach_L134 x s = some o) (hR : (Sum.elim (fun y : Int32 × Int32 => ∀ ls : Array Slot, (0 ≤ y.1 ∧ y.1 < 33) → lv_has ls 3 [(0, .ref (q.1 28 y.1)), (1, .ref (q.1 0 0)), (2, .int y.2)] → WW X q o.2 134 ls []) (fun y : Unit => ∀ ls : Array Slot, lv_has ls 3 [] → WW X q o.2 158 ls []) o.1)) : ∀ ls : Array Slot, (0 ≤ x.1 ∧ x.1 < 33) → lv_has ls 3 [(0, .ref (q.1 28 x.1)), (1, .ref (q.1 0 0)), (2, .int x.2)] → WW X q s 134 ls [] := by
  intro ls hp0 hl
  unfold M_Th_reach_L134 at h
  refine ww_iload_n (pc := 134) g.1 d_Th_reach_134 rfl (lv_at hl 2 rfl) ?_
  refine ww_aload_n (pc := 135) g.1 d_Th_reach_135 rfl (lv_at hl 0 rfl) ?_
  refine ww_gI (pc := 136) g (k := 3) cl_Th (pt rfl rfl hp0) (by decide) (Or.inl kw_144) (f := 3587) rfl rfl d_Th_reach_136 h fun v136 h => ?_
  refine ww_icmp_ge (pc := 139) (tgt := 158) g.1 d_Th_reach_139 (by decide) h (fun c h => ?_) (fun c h => ?_)
  · rw [oR_eq h] at hR
    exact hR ls (lv_sub hl [] rfl)
  · refine ww_aload_n (pc := 142) g.1 d_Th_reach_142 rfl (lv_at hl 1 rfl) ?_
    refine ww_aload_n (pc := 143) g.1 d_Th_reach_143 rfl (lv_at hl 0 rfl) ?_
    refine ww_gR (pc := 144) g (k := 10) cl_Th (pt rfl rfl hp0) (by decide) (Or.inl kw_340) (f := 3594) (t := 29) rfl rfl rfl d_Th_reach_144 ?_
    refine ww_iload_n (pc := 147) g.1 d_Th_reach_147 rfl (lv_at hl 2 rfl) ?_
    refine ww_ai (pc := 148) g (pt rfl rfl hp0) rfl rfl d_Th_reach_148 h fun v148 h => ?_
    obtain ⟨v149, s, hc149, h⟩ := oB_of h
    refine ww_callV (pc := 149) (rest := []) g cv_Mo_place (Or.inr ⟨_, nw_Th_94⟩) cl_Mo (pz rfl (by decide)) (ct_Mo_place hc149) ⟨by decide, by decide⟩ rfl hl.1 (Nat.le_of_ble_eq_true rfl) d_Th_reach_149 rfl ?_
    refine ww_st (st' := []) rfl ?_
    refine ww_iinc (pc := 152) g.1 (v := x.2 + 1) (lv' := [(2, .int (x.2 + 1)), (0, .ref (q.1 28 x.1)), (1, .ref (q.1 0 0))]) d_Th_reach_152 hl (k := 2) rfl (by rfl) (by decide) rfl fun ls hl => ?_
    refine ww_goto (pc := 155) (tgt := 134) g.1 d_Th_reach_155 (by decide) ?_
    rw [oR_eq h] at hR
    exact hR ls hp0 (lv_sub hl [1, 2, 0] rfl)

theorem ct_Th_reach {l : Launch} {P : PP} {q : PL} {s s' : S1} {l0 : Int32} (hp0 : 0 ≤ l0 ∧ l0 < 33) {r : Unit} (h : M_Th_reach l0 s = some (r, s')) : Ct l y_Th_reach b_Th_reach 3 none 3 68 P q s [.ref (q.1 28 l0), .ref (q.1 0 0)] none q s' := by
  refine ct_of (by decide) (Nat.le_of_ble_eq_true rfl) fun X ls eP el g hR hl => ?_
  have hR : Rt X q ((r, s') : Unit × S1).2 none := hR
  have hl : lv_has ls 3 [(0, .ref (q.1 28 l0)), (1, .ref (q.1 0 0))] := hl
  generalize (r, s') = o at h hR
  unfold M_Th_reach at h
  refine ww_aload_n (pc := 0) g.1 d_Th_reach_0 rfl (lv_at hl 1 rfl) ?_
  refine ww_aload_n (pc := 1) g.1 d_Th_reach_1 rfl (lv_at hl 0 rfl) ?_
  refine ww_gR (pc := 2) g (k := 9) cl_Th (pt rfl rfl hp0) (by decide) (Or.inl kw_148) (f := 3593) (t := 25) rfl rfl rfl d_Th_reach_2 ?_
  refine ww_iconst (pc := 5) g.1 (v := 0) d_Th_reach_5 (by decide) ?_
  refine ww_aload_n (pc := 6) g.1 d_Th_reach_6 rfl (lv_at hl 0 rfl) ?_
  refine ww_gR (pc := 7) g (k := 9) cl_Th (pt rfl rfl hp0) (by decide) (Or.inl kw_148) (f := 3593) (t := 25) rfl rfl rfl d_Th_reach_7 ?_
  refine ww_gI (pc := 10) g (k := 2) (cl_Va (Or.inr ⟨by decide, hp0⟩)) (pt rfl rfl hp0) (by decide) (Or.inl kw_149) (f := 3202) rfl rfl d_Th_reach_10 h fun v10 h => ?_
  obtain ⟨v13, s, hc13, h⟩ := oB_of h
  refine ww_callV (pc := 13) (rest := []) g cv_Mo_markRow (Or.inr ⟨_, nw_Th_88⟩) cl_Mo (pz rfl (by decide)) (ct_Mo_markRow (Or.inr ⟨by decide, hp0⟩) hc13) ⟨by decide, by decide⟩ rfl hl.1 (Nat.le_of_ble_eq_true rfl) d_Th_reach_13 rfl ?_
  refine ww_st (st' := []) rfl ?_
  refine ww_iconst (pc := 16) g.1 (v := 0) d_Th_reach_16 (by decide) ?_
  refine ww_istore_n (pc := 17) g.1 (lv' := [(2, .int 0), (0, .ref (q.1 28 l0)), (1, .ref (q.1 0 0))]) d_Th_reach_17 rfl hl (by decide) rfl fun ls hl => ?_
  obtain ⟨e18, s1, hw, h⟩ := oB_of h
  refine oW_rule (Wh := fun (x : Int32 × Int32) (s : S1) => ∀ ls : Array Slot, (0 ≤ x.1 ∧ x.1 < 33) → lv_has ls 3 [(0, .ref (q.1 28 x.1)), (1, .ref (q.1 0 0)), (2, .int x.2)] → WW X q s 18 ls []) (We := fun (e : (Int32)) (s : S1) => ∀ ls : Array Slot, (0 ≤ e ∧ e < 33) → lv_has ls 3 [(0, .ref (q.1 28 e)), (1, .ref (q.1 0 0))] → WW X q s 132 ls []) (fun x s o hb hc => lp_Th_reach_L18 (q := q) g x s o hb hc) hw ?_ ls hp0 (lv_sub hl [1, 2, 0] rfl)
  clear hw hl
  clear ls
  intro ls hq18_0 hl
  generalize s1 = s at h ⊢
  refine ww_iconst (pc := 132) g.1 (v := 0) d_Th_reach_132 (by decide) ?_
  refine ww_istore_n (pc := 133) g.1 (lv' := [(2, .int 0), (0, .ref (q.1 28 e18)), (1, .ref (q.1 0 0))]) d_Th_reach_133 rfl hl (by decide) rfl fun ls hl => ?_
  obtain ⟨e134, s1, hw, h⟩ := oB_of h
  refine oW_rule (Wh := fun (x : Int32 × Int32) (s : S1) => ∀ ls : Array Slot, (0 ≤ x.1 ∧ x.1 < 33) → lv_has ls 3 [(0, .ref (q.1 28 x.1)), (1, .ref (q.1 0 0)), (2, .int x.2)] → WW X q s 134 ls []) (We := fun (e : (Unit)) (s : S1) => ∀ ls : Array Slot, lv_has ls 3 [] → WW X q s 158 ls []) (fun x s o hb hc => lp_Th_reach_L134 (q := q) g x s o hb hc) hw ?_ ls hq18_0 (lv_sub hl [1, 2, 0] rfl)
  clear hw hl
  clear ls
  intro ls hl
  generalize s1 = s at h ⊢
  exact ww_vretH (pc := 158) g h hR d_Th_reach_158

theorem kw_343 : Cond.instanceMethod y_Mo_threadGoes ∈ wA := kinm (show _ ∈ tables_1 from (List.mem_append_right _ (List.mem_append_right _ (List.mem_append_right _ (List.mem_append_right _ (List.mem_append_right _ (List.mem_append_right _ (List.mem_append_right _ (List.mem_append_right _ (List.mem_append_right _ (List.mem_append_right _ (List.mem_append_right _ (List.mem_append_left _ (List.mem_of_getElem? (l := tables_1_12) (i := 40) (by decide +kernel))))))))))))))) (by decide +kernel)
theorem kw_344 : Cond.selects R_Mo y_Mo_threadGoes y_Mo_threadGoes ∈ wA := kinp 136 (by decide +kernel) (by decide +kernel)
def M_Mo_threadGoes_L2 : (Int32 × Int32) → M ((Int32 × Int32) ⊕ ((Int32))) := fun x =>
  oB (oGI 3587 x.1) fun v4 =>
  oC (v4 ≤ x.2)
    (oR (Sum.inr x.1))
    (oB (oAI 29 4100 x.1 x.2) fun v16 =>
    oB (M_Mo_closeVariable v16) fun _ =>
    oR (Sum.inl (x.1, x.2 + 1)))

def M_Mo_threadGoes (l1 : Int32) : M (Unit) :=
  oB (oW M_Mo_threadGoes_L2 (l1, 0)) fun e2 =>
  oB (oPI 3587 e2 0) fun _ =>
  oB (oPI 3584 e2 (-1)) fun _ =>
  oB (oGI 39 0) fun v38 =>
  oB (oPI 39 0 (v38 - 1)) fun _ =>
  oR ()

theorem cv_Mo_threadGoes : CV y_Mo_threadGoes b_Mo_threadGoes 3 none 1 := ⟨kw_343, kw_344, kw_17, k_Mo_threadGoes, by decide +kernel⟩
theorem lp_Mo_threadGoes_L2 {X : Cx} {q : PL} (g : Gd X y_Mo_threadGoes b_Mo_threadGoes 3 none 2 45 R_Mo) (x : Int32 × Int32) (s : S1) (o : ((Int32 × Int32) ⊕ ((Int32))) × S1) (h : M_Mo_threadGoes_L2 x s = some o) (hR : (Sum.elim (fun y : Int32 × Int32 => ∀ ls : Array Slot, (0 ≤ y.1 ∧ y.1 < 33) → lv_has ls 3 [(0, .ref (q.1 0 0)), (1, .ref (q.1 28 y.1)), (2, .int y.2)] → WW X q o.2 2 ls []) (fun y : Int32 => ∀ ls : Array Slot, (0 ≤ y ∧ y < 33) → lv_has ls 3 [(0, .ref (q.1 0 0)), (1, .ref (q.1 28 y))] → WW X q o.2 26 ls []) o.1)) : ∀ ls : Array Slot, (0 ≤ x.1 ∧ x.1 < 33) → lv_has ls 3 [(0, .ref (q.1 0 0)), (1, .ref (q.1 28 x.1)), (2, .int x.2)] → WW X q s 2 ls [] := by
  intro ls hp0 hl
  unfold M_Mo_threadGoes_L2 at h
  refine ww_iload_n (pc := 2) g.1 d_Mo_threadGoes_2 rfl (lv_at hl 2 rfl) ?_
  refine ww_aload_n (pc := 3) g.1 d_Mo_threadGoes_3 rfl (lv_at hl 1 rfl) ?_
  refine ww_gI (pc := 4) g (k := 3) cl_Th (pt rfl rfl hp0) (by decide) (Or.inl kw_106) (f := 3587) rfl rfl d_Mo_threadGoes_4 h fun v4 h => ?_
  refine ww_icmp_ge (pc := 7) (tgt := 26) g.1 d_Mo_threadGoes_7 (by decide) h (fun c h => ?_) (fun c h => ?_)
  · rw [oR_eq h] at hR
    exact hR ls hp0 (lv_sub hl [0, 1] rfl)
  · refine ww_aload_n (pc := 10) g.1 d_Mo_threadGoes_10 rfl (lv_at hl 0 rfl) ?_
    refine ww_aload_n (pc := 11) g.1 d_Mo_threadGoes_11 rfl (lv_at hl 1 rfl) ?_
    refine ww_gR (pc := 12) g (k := 10) cl_Th (pt rfl rfl hp0) (by decide) (Or.inl kw_107) (f := 3594) (t := 29) rfl rfl rfl d_Mo_threadGoes_12 ?_
    refine ww_iload_n (pc := 15) g.1 d_Mo_threadGoes_15 rfl (lv_at hl 2 rfl) ?_
    refine ww_ai (pc := 16) g (pt rfl rfl hp0) rfl rfl d_Mo_threadGoes_16 h fun v16 h => ?_
    obtain ⟨v17, s, hc17, h⟩ := oB_of h
    refine ww_callV (pc := 17) (rest := []) g cv_Mo_closeVariable (Or.inl kw_249) cl_Mo (pz rfl (by decide)) (ct_Mo_closeVariable hc17) ⟨by decide, by decide⟩ rfl hl.1 (Nat.le_of_ble_eq_true rfl) d_Mo_threadGoes_17 rfl ?_
    refine ww_st (st' := []) rfl ?_
    refine ww_iinc (pc := 20) g.1 (v := x.2 + 1) (lv' := [(2, .int (x.2 + 1)), (0, .ref (q.1 0 0)), (1, .ref (q.1 28 x.1))]) d_Mo_threadGoes_20 hl (k := 2) rfl (by rfl) (by decide) rfl fun ls hl => ?_
    refine ww_goto (pc := 23) (tgt := 2) g.1 d_Mo_threadGoes_23 (by decide) ?_
    rw [oR_eq h] at hR
    exact hR ls hp0 (lv_sub hl [1, 2, 0] rfl)

theorem ct_Mo_threadGoes {l : Launch} {P : PP} {q : PL} {s s' : S1} {l1 : Int32} (hp0 : 0 ≤ l1 ∧ l1 < 33) {r : Unit} (h : M_Mo_threadGoes l1 s = some (r, s')) : Ct l y_Mo_threadGoes b_Mo_threadGoes 3 none 2 45 P q s [.ref (q.1 0 0), .ref (q.1 28 l1)] none q s' := by
  refine ct_of (by decide) (Nat.le_of_ble_eq_true rfl) fun X ls eP el g hR hl => ?_
  have hR : Rt X q ((r, s') : Unit × S1).2 none := hR
  have hl : lv_has ls 3 [(0, .ref (q.1 0 0)), (1, .ref (q.1 28 l1))] := hl
  generalize (r, s') = o at h hR
  unfold M_Mo_threadGoes at h
  refine ww_iconst (pc := 0) g.1 (v := 0) d_Mo_threadGoes_0 (by decide) ?_
  refine ww_istore_n (pc := 1) g.1 (lv' := [(2, .int 0), (0, .ref (q.1 0 0)), (1, .ref (q.1 28 l1))]) d_Mo_threadGoes_1 rfl hl (by decide) rfl fun ls hl => ?_
  obtain ⟨e2, s1, hw, h⟩ := oB_of h
  refine oW_rule (Wh := fun (x : Int32 × Int32) (s : S1) => ∀ ls : Array Slot, (0 ≤ x.1 ∧ x.1 < 33) → lv_has ls 3 [(0, .ref (q.1 0 0)), (1, .ref (q.1 28 x.1)), (2, .int x.2)] → WW X q s 2 ls []) (We := fun (e : (Int32)) (s : S1) => ∀ ls : Array Slot, (0 ≤ e ∧ e < 33) → lv_has ls 3 [(0, .ref (q.1 0 0)), (1, .ref (q.1 28 e))] → WW X q s 26 ls []) (fun x s o hb hc => lp_Mo_threadGoes_L2 (q := q) g x s o hb hc) hw ?_ ls hp0 (lv_sub hl [1, 2, 0] rfl)
  clear hw hl
  clear ls
  intro ls hq2_0 hl
  generalize s1 = s at h ⊢
  refine ww_aload_n (pc := 26) g.1 d_Mo_threadGoes_26 rfl (lv_at hl 1 rfl) ?_
  refine ww_iconst (pc := 27) g.1 (v := 0) d_Mo_threadGoes_27 (by decide) ?_
  refine ww_pI (pc := 28) g (k := 3) cl_Th (pt rfl rfl hq2_0) (by decide) (Or.inl kw_106) rfl (f := 3587) rfl rfl rfl rfl d_Mo_threadGoes_28 h fun s hs h => ?_
  refine ww_aload_n (pc := 31) g.1 d_Mo_threadGoes_31 rfl (lv_at hl 1 rfl) ?_
  refine ww_iconst (pc := 32) g.1 (v := (-1)) d_Mo_threadGoes_32 (by decide) ?_
  refine ww_pI (pc := 33) g (k := 0) cl_Th (pt rfl rfl hq2_0) (by decide) (Or.inl kw_222) rfl (f := 3584) rfl rfl rfl rfl d_Mo_threadGoes_33 h fun s hs h => ?_
  refine ww_aload_n (pc := 36) g.1 d_Mo_threadGoes_36 rfl (lv_at hl 0 rfl) ?_
  refine ww_dup (pc := 37) g.1 d_Mo_threadGoes_37 rfl ?_
  refine ww_gI (pc := 38) g (k := 39) cl_Mo (pz rfl (by decide)) (by decide) (Or.inl kw_308) (f := 39) rfl rfl d_Mo_threadGoes_38 h fun v38 h => ?_
  refine ww_iconst (pc := 41) g.1 (v := 1) d_Mo_threadGoes_41 (by decide) ?_
  refine ww_isub (pc := 42) g.1 d_Mo_threadGoes_42 ?_
  refine ww_pI (pc := 43) g (k := 39) cl_Mo (pz rfl (by decide)) (by decide) (Or.inl kw_308) rfl (f := 39) rfl rfl rfl rfl d_Mo_threadGoes_43 h fun s hs h => ?_
  exact ww_vretH (pc := 46) g h hR d_Mo_threadGoes_46

theorem kw_345 : Cond.methodLink R_Mo 523 y_Mo_hash ∈ wA := kinm (show _ ∈ tables_1 from (List.mem_append_right _ (List.mem_append_right _ (List.mem_append_right _ (List.mem_append_right _ (List.mem_append_right _ (List.mem_append_right _ (List.mem_append_right _ (List.mem_append_right _ (List.mem_append_right _ (List.mem_append_right _ (List.mem_append_right _ (List.mem_append_left _ (List.mem_of_getElem? (l := tables_1_12) (i := 50) (by decide +kernel))))))))))))))) (by decide +kernel)
theorem kw_346 : Cond.fieldLink R_Mo 190 "LuaMachineModel" "heads" "[I" ∈ wA := kinm (show _ ∈ tables_1 from (List.mem_append_right _ (List.mem_append_right _ (List.mem_append_right _ (List.mem_append_right _ (List.mem_append_right _ (List.mem_append_right _ (List.mem_append_right _ (List.mem_append_right _ (List.mem_append_right _ (List.mem_append_left _ (List.mem_of_getElem? (l := tables_1_10) (i := 112) (by decide +kernel))))))))))))) (by decide +kernel)
theorem kw_347 : Cond.fieldLink R_Mo 177 "LuaMachineModel" "chain" "[I" ∈ wA := kinm (show _ ∈ tables_1 from (List.mem_append_right _ (List.mem_append_right _ (List.mem_append_right _ (List.mem_append_right _ (List.mem_append_right _ (List.mem_append_right _ (List.mem_append_right _ (List.mem_append_right _ (List.mem_append_right _ (List.mem_append_left _ (List.mem_of_getElem? (l := tables_1_10) (i := 108) (by decide +kernel))))))))))))) (by decide +kernel)
theorem kw_348 : Cond.instanceMethod y_Mo_unchain ∈ wA := kinm (show _ ∈ tables_1 from (List.mem_append_right _ (List.mem_append_right _ (List.mem_append_right _ (List.mem_append_right _ (List.mem_append_right _ (List.mem_append_right _ (List.mem_append_right _ (List.mem_append_right _ (List.mem_append_right _ (List.mem_append_right _ (List.mem_append_right _ (List.mem_append_left _ (List.mem_of_getElem? (l := tables_1_12) (i := 48) (by decide +kernel))))))))))))))) (by decide +kernel)
theorem kw_349 : Cond.selects R_Mo y_Mo_unchain y_Mo_unchain ∈ wA := kinp 138 (by decide +kernel) (by decide +kernel)
def M_Mo_unchain_L48 : (Int32 × Int32) → M ((Int32 × Int32) ⊕ ((Int32 × Int32))) := fun x =>
  oB (oAI 65 4100 0 x.2) fun v53 =>
  oC ((v53 - 1) = x.1)
    (oR (Sum.inr (x.1, x.2)))
    (oB (oAI 65 4100 0 x.2) fun v65 =>
    oL (v65 - 1) fun l3_68 =>
    oR (Sum.inl (x.1, l3_68)))

def M_Mo_unchain (l1 : Int32) : M (Unit) :=
  oB (oAI 62 4100 0 l1) fun v10 =>
  oB (oAI 63 4100 0 l1) fun v16 =>
  oB (M_Mo_hash 67 0 v10 v16) fun v17 =>
  oB (oAI 68 1024 0 v17) fun v26 =>
  oL (v26 - 1) fun l3_29 =>
  oC (l3_29 = l1)
    (oB (oAI 65 4100 0 l1) fun v45 =>
    oB (oSI 68 1024 0 v17 v45) fun _ =>
    oR ())
    (oB (oW M_Mo_unchain_L48 (l1, l3_29)) fun e48 =>
    oB (oAI 65 4100 0 e48.1) fun v82 =>
    oB (oSI 65 4100 0 e48.2 v82) fun _ =>
    oR ())

theorem cv_Mo_unchain : CV y_Mo_unchain b_Mo_unchain 4 none 1 := ⟨kw_348, kw_349, kw_17, k_Mo_unchain, by decide +kernel⟩
theorem lp_Mo_unchain_L48 {X : Cx} {q : PL} (g : Gd X y_Mo_unchain b_Mo_unchain 4 none 1 25 R_Mo) (x : Int32 × Int32) (s : S1) (o : ((Int32 × Int32) ⊕ ((Int32 × Int32))) × S1) (h : M_Mo_unchain_L48 x s = some o) (hR : (Sum.elim (fun y : Int32 × Int32 => ∀ ls : Array Slot, lv_has ls 4 [(0, .ref (q.1 0 0)), (1, .int y.1), (3, .int y.2)] → WW X q o.2 48 ls []) (fun y : Int32 × Int32 => ∀ ls : Array Slot, lv_has ls 4 [(0, .ref (q.1 0 0)), (1, .int y.1), (3, .int y.2)] → WW X q o.2 72 ls []) o.1)) : ∀ ls : Array Slot, lv_has ls 4 [(0, .ref (q.1 0 0)), (1, .int x.1), (3, .int x.2)] → WW X q s 48 ls [] := by
  intro ls hl
  unfold M_Mo_unchain_L48 at h
  refine ww_aload_n (pc := 48) g.1 d_Mo_unchain_48 rfl (lv_at hl 0 rfl) ?_
  refine ww_gR (pc := 49) g (k := 52) cl_Mo (pz rfl (by decide)) (by decide) (Or.inl kw_347) (f := 52) (t := 65) rfl rfl rfl d_Mo_unchain_49 ?_
  refine ww_iload_n (pc := 52) g.1 d_Mo_unchain_52 rfl (lv_at hl 2 rfl) ?_
  refine ww_ai (pc := 53) g (pz rfl (by decide)) rfl rfl d_Mo_unchain_53 h fun v53 h => ?_
  refine ww_iconst (pc := 54) g.1 (v := 1) d_Mo_unchain_54 (by decide) ?_
  refine ww_isub (pc := 55) g.1 d_Mo_unchain_55 ?_
  refine ww_iload_n (pc := 56) g.1 d_Mo_unchain_56 rfl (lv_at hl 1 rfl) ?_
  refine ww_icmp_eq (pc := 57) (tgt := 72) g.1 d_Mo_unchain_57 (by decide) h (fun c h => ?_) (fun c h => ?_)
  · rw [oR_eq h] at hR
    exact hR ls (lv_sub hl [0, 1, 2] rfl)
  · refine ww_aload_n (pc := 60) g.1 d_Mo_unchain_60 rfl (lv_at hl 0 rfl) ?_
    refine ww_gR (pc := 61) g (k := 52) cl_Mo (pz rfl (by decide)) (by decide) (Or.inl kw_347) (f := 52) (t := 65) rfl rfl rfl d_Mo_unchain_61 ?_
    refine ww_iload_n (pc := 64) g.1 d_Mo_unchain_64 rfl (lv_at hl 2 rfl) ?_
    refine ww_ai (pc := 65) g (pz rfl (by decide)) rfl rfl d_Mo_unchain_65 h fun v65 h => ?_
    refine ww_iconst (pc := 66) g.1 (v := 1) d_Mo_unchain_66 (by decide) ?_
    refine ww_isub (pc := 67) g.1 d_Mo_unchain_67 ?_
    refine ww_leti h fun l3_68 h => ?_
    refine ww_istore_n (pc := 68) g.1 (lv' := [(3, .int l3_68), (0, .ref (q.1 0 0)), (1, .int x.1)]) d_Mo_unchain_68 rfl hl (by decide) rfl fun ls hl => ?_
    refine ww_goto (pc := 69) (tgt := 48) g.1 d_Mo_unchain_69 (by decide) ?_
    rw [oR_eq h] at hR
    exact hR ls (lv_sub hl [1, 2, 0] rfl)

theorem ct_Mo_unchain {l : Launch} {P : PP} {q : PL} {s s' : S1} {l1 : Int32} {r : Unit} (h : M_Mo_unchain l1 s = some (r, s')) : Ct l y_Mo_unchain b_Mo_unchain 4 none 1 25 P q s [.ref (q.1 0 0), .int l1] none q s' := by
  refine ct_of (by decide) (Nat.le_of_ble_eq_true rfl) fun X ls eP el g hR hl => ?_
  have hR : Rt X q ((r, s') : Unit × S1).2 none := hR
  have hl : lv_has ls 4 [(0, .ref (q.1 0 0)), (1, .int l1)] := hl
  generalize (r, s') = o at h hR
  unfold M_Mo_unchain at h
  refine ww_aload_n (pc := 0) g.1 d_Mo_unchain_0 rfl (lv_at hl 0 rfl) ?_
  refine ww_aload_n (pc := 1) g.1 d_Mo_unchain_1 rfl (lv_at hl 0 rfl) ?_
  refine ww_gR (pc := 2) g (k := 55) cl_Mo (pz rfl (by decide)) (by decide) (Or.inl kw_206) (f := 55) (t := 67) rfl rfl rfl d_Mo_unchain_2 ?_
  refine ww_aload_n (pc := 5) g.1 d_Mo_unchain_5 rfl (lv_at hl 0 rfl) ?_
  refine ww_gR (pc := 6) g (k := 49) cl_Mo (pz rfl (by decide)) (by decide) (Or.inl kw_89) (f := 49) (t := 62) rfl rfl rfl d_Mo_unchain_6 ?_
  refine ww_iload_n (pc := 9) g.1 d_Mo_unchain_9 rfl (lv_at hl 1 rfl) ?_
  refine ww_ai (pc := 10) g (pz rfl (by decide)) rfl rfl d_Mo_unchain_10 h fun v10 h => ?_
  refine ww_aload_n (pc := 11) g.1 d_Mo_unchain_11 rfl (lv_at hl 0 rfl) ?_
  refine ww_gR (pc := 12) g (k := 50) cl_Mo (pz rfl (by decide)) (by decide) (Or.inl kw_93) (f := 50) (t := 63) rfl rfl rfl d_Mo_unchain_12 ?_
  refine ww_iload_n (pc := 15) g.1 d_Mo_unchain_15 rfl (lv_at hl 1 rfl) ?_
  refine ww_ai (pc := 16) g (pz rfl (by decide)) rfl rfl d_Mo_unchain_16 h fun v16 h => ?_
  obtain ⟨v17, s, hc17, h⟩ := oB_of h
  refine ww_callV (pc := 17) (rest := []) g cv_Mo_hash (Or.inl kw_345) cl_Mo (pz rfl (by decide)) (ct_Mo_hash ⟨rfl, by decide, by decide⟩ (pz rfl (by decide)) hc17) ⟨by decide, by decide⟩ rfl hl.1 (Nat.le_of_ble_eq_true rfl) d_Mo_unchain_17 rfl ?_
  refine ww_st (st' := [.int v17]) rfl ?_
  refine ww_istore_n (pc := 20) g.1 (lv' := [(2, .int v17), (0, .ref (q.1 0 0)), (1, .int l1)]) d_Mo_unchain_20 rfl hl (by decide) rfl fun ls hl => ?_
  refine ww_aload_n (pc := 21) g.1 d_Mo_unchain_21 rfl (lv_at hl 1 rfl) ?_
  refine ww_gR (pc := 22) g (k := 56) cl_Mo (pz rfl (by decide)) (by decide) (Or.inl kw_346) (f := 56) (t := 68) rfl rfl rfl d_Mo_unchain_22 ?_
  refine ww_iload_n (pc := 25) g.1 d_Mo_unchain_25 rfl (lv_at hl 0 rfl) ?_
  refine ww_ai (pc := 26) g (pz rfl (by decide)) rfl rfl d_Mo_unchain_26 h fun v26 h => ?_
  refine ww_iconst (pc := 27) g.1 (v := 1) d_Mo_unchain_27 (by decide) ?_
  refine ww_isub (pc := 28) g.1 d_Mo_unchain_28 ?_
  refine ww_leti h fun l3_29 h => ?_
  refine ww_istore_n (pc := 29) g.1 (lv' := [(3, .int l3_29), (2, .int v17), (0, .ref (q.1 0 0)), (1, .int l1)]) d_Mo_unchain_29 rfl hl (by decide) rfl fun ls hl => ?_
  refine ww_iload_n (pc := 30) g.1 d_Mo_unchain_30 rfl (lv_at hl 0 rfl) ?_
  refine ww_iload_n (pc := 31) g.1 d_Mo_unchain_31 rfl (lv_at hl 3 rfl) ?_
  refine ww_icmp_ne (pc := 32) (tgt := 48) g.1 d_Mo_unchain_32 (by decide) h (fun c h => ?_) (fun c h => ?_)
  · obtain ⟨e48, s1, hw, h⟩ := oB_of h
    refine oW_rule (Wh := fun (x : Int32 × Int32) (s : S1) => ∀ ls : Array Slot, lv_has ls 4 [(0, .ref (q.1 0 0)), (1, .int x.1), (3, .int x.2)] → WW X q s 48 ls []) (We := fun (e : (Int32 × Int32)) (s : S1) => ∀ ls : Array Slot, lv_has ls 4 [(0, .ref (q.1 0 0)), (1, .int e.1), (3, .int e.2)] → WW X q s 72 ls []) (fun x s o hb hc => lp_Mo_unchain_L48 (q := q) g x s o hb hc) hw ?_ ls (lv_sub hl [2, 3, 0] rfl)
    clear hw hl
    clear ls
    intro ls hl
    generalize s1 = s at h ⊢
    refine ww_aload_n (pc := 72) g.1 d_Mo_unchain_72 rfl (lv_at hl 0 rfl) ?_
    refine ww_gR (pc := 73) g (k := 52) cl_Mo (pz rfl (by decide)) (by decide) (Or.inl kw_347) (f := 52) (t := 65) rfl rfl rfl d_Mo_unchain_73 ?_
    refine ww_iload_n (pc := 76) g.1 d_Mo_unchain_76 rfl (lv_at hl 2 rfl) ?_
    refine ww_aload_n (pc := 77) g.1 d_Mo_unchain_77 rfl (lv_at hl 0 rfl) ?_
    refine ww_gR (pc := 78) g (k := 52) cl_Mo (pz rfl (by decide)) (by decide) (Or.inl kw_347) (f := 52) (t := 65) rfl rfl rfl d_Mo_unchain_78 ?_
    refine ww_iload_n (pc := 81) g.1 d_Mo_unchain_81 rfl (lv_at hl 1 rfl) ?_
    refine ww_ai (pc := 82) g (pz rfl (by decide)) rfl rfl d_Mo_unchain_82 h fun v82 h => ?_
    refine ww_si (pc := 83) g (pz rfl (by decide)) rfl rfl d_Mo_unchain_83 h fun s hs h => ?_
    exact ww_vretH (pc := 84) g h hR d_Mo_unchain_84
  · refine ww_aload_n (pc := 35) g.1 d_Mo_unchain_35 rfl (lv_at hl 2 rfl) ?_
    refine ww_gR (pc := 36) g (k := 56) cl_Mo (pz rfl (by decide)) (by decide) (Or.inl kw_346) (f := 56) (t := 68) rfl rfl rfl d_Mo_unchain_36 ?_
    refine ww_iload_n (pc := 39) g.1 d_Mo_unchain_39 rfl (lv_at hl 1 rfl) ?_
    refine ww_aload_n (pc := 40) g.1 d_Mo_unchain_40 rfl (lv_at hl 2 rfl) ?_
    refine ww_gR (pc := 41) g (k := 52) cl_Mo (pz rfl (by decide)) (by decide) (Or.inl kw_347) (f := 52) (t := 65) rfl rfl rfl d_Mo_unchain_41 ?_
    refine ww_iload_n (pc := 44) g.1 d_Mo_unchain_44 rfl (lv_at hl 3 rfl) ?_
    refine ww_ai (pc := 45) g (pz rfl (by decide)) rfl rfl d_Mo_unchain_45 h fun v45 h => ?_
    refine ww_si (pc := 46) g (pz rfl (by decide)) rfl rfl d_Mo_unchain_46 h fun s hs h => ?_
    exact ww_vretH (pc := 47) g h hR d_Mo_unchain_47

theorem kw_350 : Cond.instanceMethod y_Mo_entry ∈ wA := kinm (show _ ∈ tables_1 from (List.mem_append_right _ (List.mem_append_right _ (List.mem_append_right _ (List.mem_append_right _ (List.mem_append_right _ (List.mem_append_right _ (List.mem_append_right _ (List.mem_append_right _ (List.mem_append_right _ (List.mem_append_right _ (List.mem_append_right _ (List.mem_append_left _ (List.mem_of_getElem? (l := tables_1_12) (i := 87) (by decide +kernel))))))))))))))) (by decide +kernel)
theorem kw_351 : Cond.selects R_Mo y_Mo_entry y_Mo_entry ∈ wA := kinp 147 (by decide +kernel) (by decide +kernel)
def M_Mo_entry_j91 (l1 : Int32) (l2 : Int32) (l3 : Int64) (l5 : Int32) : M ((Int32 × Int32 × Int64 × Int32) ⊕ ((Int32 × Int32) ⊕ (Unit))) :=
  oB (oGI 9471 0) fun v92 =>
  oB (oK (v92 = 1)) fun _ =>
  oB (oAI 62 4100 0 l1) fun v100 =>
  oB (oAI 73 300000 0 (v100 + l5)) fun v104 =>
  oL (v104 - 1) fun l5_107 =>
  oR (Sum.inl (l1, l2, l3, l5_107))

def M_Mo_entry_L39 : (Int32 × Int32 × Int64 × Int32) → M ((Int32 × Int32 × Int64 × Int32) ⊕ ((Int32 × Int32) ⊕ (Unit))) := fun x =>
  oC (x.2.2.2 < 0)
    (oR (Sum.inr (Sum.inr ())))
    (oB (oGI 8959 0) fun v45 =>
    oB (oK (v45 = 1)) fun _ =>
    oB (oAI 62 4100 0 x.1) fun v53 =>
    oB (oAI 69 300000 0 (v53 + x.2.2.2)) fun v57 =>
    oC (v57 = x.2.1)
      (oB (oGI 9215 0) fun v63 =>
      oB (oK (v63 = 1)) fun _ =>
      oB (oAI 62 4100 0 x.1) fun v71 =>
      oB (oAL 71 300000 0 (v71 + x.2.2.2)) fun v75 =>
      oC ((lg_cmp v75 x.2.2.1) = 0)
        (oR (Sum.inr (Sum.inl (x.1, x.2.2.2))))
        (M_Mo_entry_j91 x.1 x.2.1 x.2.2.1 x.2.2.2))
      (M_Mo_entry_j91 x.1 x.2.1 x.2.2.1 x.2.2.2))

def M_Mo_entry (l1 : Int32) (l2 : Int32) (l3 : Int64) : M (Int32) :=
  oB (oAI 63 4100 0 l1) fun v5 =>
  oC (v5 = 0)
    (oR (-1))
    (oB (oGI 9599 0) fun v12 =>
    oB (oK (v12 = 1)) fun _ =>
    oB (oAI 62 4100 0 l1) fun v20 =>
    oB (oAI 63 4100 0 l1) fun v27 =>
    oB (M_Mo_slot v27 l2 l3) fun v30 =>
    oB (oPr 74 0) fun _ =>
    oB (oAI 74 300000 0 (v20 + v30)) fun v34 =>
    oL (v34 - 1) fun l5_37 =>
    oB (oW M_Mo_entry_L39 (l1, l2, l3, l5_37)) fun e39 =>
    Sum.elim
      (fun y39_81 : Int32 × Int32 =>
        oB (oAI 62 4100 0 y39_81.1) fun v86 =>
        oR (v86 + y39_81.2))
      (fun y39_112 : Unit =>
        oR (-1)) e39)

theorem cv_Mo_entry : CV y_Mo_entry b_Mo_entry 6 (some .int) 3 := ⟨kw_350, kw_351, kw_17, k_Mo_entry, by decide +kernel⟩
theorem j_Mo_entry_j91 {X : Cx} {q : PL} (g : Gd X y_Mo_entry b_Mo_entry 6 (some .int) 2 49 R_Mo) {o : ((Int32 × Int32 × Int64 × Int32) ⊕ ((Int32 × Int32) ⊕ (Unit))) × S1} (hR : (Sum.elim (fun y : Int32 × Int32 × Int64 × Int32 => ∀ ls : Array Slot, lv_has ls 6 [(0, .ref (q.1 0 0)), (1, .int y.1), (2, .int y.2.1), (3, .long y.2.2.1), (5, .int y.2.2.2)] → WW X q o.2 39 ls []) (Sum.elim (fun y : Int32 × Int32 => ∀ ls : Array Slot, lv_has ls 6 [(0, .ref (q.1 0 0)), (1, .int y.1), (5, .int y.2)] → WW X q o.2 81 ls []) (fun y : Unit => ∀ ls : Array Slot, lv_has ls 6 [] → WW X q o.2 112 ls [])) o.1)) (l1 : Int32) (l2 : Int32) (l3 : Int64) (l5 : Int32) (s : S1) (ls : Array Slot) (hl : lv_has ls 6 [(0, .ref (q.1 0 0)), (1, .int l1), (2, .int l2), (3, .long l3), (5, .int l5)]) (h : M_Mo_entry_j91 l1 l2 l3 l5 s = some o) : WW X q s 91 ls [] := by
  unfold M_Mo_entry_j91 at h
  refine ww_aload_n (pc := 91) g.1 d_Mo_entry_91 rfl (lv_at hl 0 rfl) ?_
  refine ww_g5 (pc := 92) g (k := 61) cl_Mo (pz rfl (by decide)) (by decide) (Or.inl kw_132) (f := 61) (t := 73) (f2 := 9471) rfl rfl rfl rfl d_Mo_entry_92 h fun v92 hv92 h => ?_
  refine ww_ok h fun cv92 h => ?_
  refine ww_dn cv92 ?_
  have pd92 : prs s 73 0 := pd (f := 9471) rfl (by decide) hv92 cv92
  refine ww_aload_n (pc := 95) g.1 d_Mo_entry_95 rfl (lv_at hl 0 rfl) ?_
  refine ww_gR (pc := 96) g (k := 49) cl_Mo (pz rfl (by decide)) (by decide) (Or.inl kw_89) (f := 49) (t := 62) rfl rfl rfl d_Mo_entry_96 ?_
  refine ww_iload_n (pc := 99) g.1 d_Mo_entry_99 rfl (lv_at hl 1 rfl) ?_
  refine ww_ai (pc := 100) g (pz rfl (by decide)) rfl rfl d_Mo_entry_100 h fun v100 h => ?_
  refine ww_iload (pc := 101) g.1 d_Mo_entry_101 (lv_at hl 4 rfl) ?_
  refine ww_iadd (pc := 103) g.1 d_Mo_entry_103 ?_
  refine ww_ai (pc := 104) g pd92 rfl rfl d_Mo_entry_104 h fun v104 h => ?_
  refine ww_iconst (pc := 105) g.1 (v := 1) d_Mo_entry_105 (by decide) ?_
  refine ww_isub (pc := 106) g.1 d_Mo_entry_106 ?_
  refine ww_leti h fun l5_107 h => ?_
  refine ww_istore (pc := 107) g.1 (lv' := [(5, .int l5_107), (0, .ref (q.1 0 0)), (1, .int l1), (2, .int l2), (3, .long l3)]) d_Mo_entry_107 hl (by decide) rfl fun ls hl => ?_
  refine ww_goto (pc := 109) (tgt := 39) g.1 d_Mo_entry_109 (by decide) ?_
  rw [oR_eq h] at hR
  exact hR ls (lv_sub hl [1, 2, 3, 4, 0] rfl)

theorem lp_Mo_entry_L39 {X : Cx} {q : PL} (g : Gd X y_Mo_entry b_Mo_entry 6 (some .int) 2 49 R_Mo) (x : Int32 × Int32 × Int64 × Int32) (s : S1) (o : ((Int32 × Int32 × Int64 × Int32) ⊕ ((Int32 × Int32) ⊕ (Unit))) × S1) (h : M_Mo_entry_L39 x s = some o) (hR : (Sum.elim (fun y : Int32 × Int32 × Int64 × Int32 => ∀ ls : Array Slot, lv_has ls 6 [(0, .ref (q.1 0 0)), (1, .int y.1), (2, .int y.2.1), (3, .long y.2.2.1), (5, .int y.2.2.2)] → WW X q o.2 39 ls []) (Sum.elim (fun y : Int32 × Int32 => ∀ ls : Array Slot, lv_has ls 6 [(0, .ref (q.1 0 0)), (1, .int y.1), (5, .int y.2)] → WW X q o.2 81 ls []) (fun y : Unit => ∀ ls : Array Slot, lv_has ls 6 [] → WW X q o.2 112 ls [])) o.1)) : ∀ ls : Array Slot, lv_has ls 6 [(0, .ref (q.1 0 0)), (1, .int x.1), (2, .int x.2.1), (3, .long x.2.2.1), (5, .int x.2.2.2)] → WW X q s 39 ls [] := by
  intro ls hl
  unfold M_Mo_entry_L39 at h
  refine ww_iload (pc := 39) g.1 d_Mo_entry_39 (lv_at hl 4 rfl) ?_
  refine ww_if_lt (pc := 41) (tgt := 112) g.1 d_Mo_entry_41 (by decide) h (fun c h => ?_) (fun c h => ?_)
  · rw [oR_eq h] at hR
    exact hR ls (lv_sub hl [] rfl)
  · refine ww_aload_n (pc := 44) g.1 d_Mo_entry_44 rfl (lv_at hl 0 rfl) ?_
    refine ww_g5 (pc := 45) g (k := 57) cl_Mo (pz rfl (by decide)) (by decide) (Or.inl kw_127) (f := 57) (t := 69) (f2 := 8959) rfl rfl rfl rfl d_Mo_entry_45 h fun v45 hv45 h => ?_
    refine ww_ok h fun cv45 h => ?_
    refine ww_dn cv45 ?_
    have pd45 : prs s 69 0 := pd (f := 8959) rfl (by decide) hv45 cv45
    refine ww_aload_n (pc := 48) g.1 d_Mo_entry_48 rfl (lv_at hl 0 rfl) ?_
    refine ww_gR (pc := 49) g (k := 49) cl_Mo (pz rfl (by decide)) (by decide) (Or.inl kw_89) (f := 49) (t := 62) rfl rfl rfl d_Mo_entry_49 ?_
    refine ww_iload_n (pc := 52) g.1 d_Mo_entry_52 rfl (lv_at hl 1 rfl) ?_
    refine ww_ai (pc := 53) g (pz rfl (by decide)) rfl rfl d_Mo_entry_53 h fun v53 h => ?_
    refine ww_iload (pc := 54) g.1 d_Mo_entry_54 (lv_at hl 4 rfl) ?_
    refine ww_iadd (pc := 56) g.1 d_Mo_entry_56 ?_
    refine ww_ab (pc := 57) g pd45 rfl rfl d_Mo_entry_57 h fun v57 h => ?_
    refine ww_iload_n (pc := 58) g.1 d_Mo_entry_58 rfl (lv_at hl 2 rfl) ?_
    refine ww_icmp_ne (pc := 59) (tgt := 91) g.1 d_Mo_entry_59 (by decide) h (fun c h => ?_) (fun c h => ?_)
    · exact j_Mo_entry_j91 g hR x.1 x.2.1 x.2.2.1 x.2.2.2 s ls (lv_sub hl [0, 1, 2, 3, 4] rfl) h
    · refine ww_aload_n (pc := 62) g.1 d_Mo_entry_62 rfl (lv_at hl 0 rfl) ?_
      refine ww_g5 (pc := 63) g (k := 59) cl_Mo (pz rfl (by decide)) (by decide) (Or.inl kw_128) (f := 59) (t := 71) (f2 := 9215) rfl rfl rfl rfl d_Mo_entry_63 h fun v63 hv63 h => ?_
      refine ww_ok h fun cv63 h => ?_
      refine ww_dn cv63 ?_
      have pd63 : prs s 71 0 := pd (f := 9215) rfl (by decide) hv63 cv63
      refine ww_aload_n (pc := 66) g.1 d_Mo_entry_66 rfl (lv_at hl 0 rfl) ?_
      refine ww_gR (pc := 67) g (k := 49) cl_Mo (pz rfl (by decide)) (by decide) (Or.inl kw_89) (f := 49) (t := 62) rfl rfl rfl d_Mo_entry_67 ?_
      refine ww_iload_n (pc := 70) g.1 d_Mo_entry_70 rfl (lv_at hl 1 rfl) ?_
      refine ww_ai (pc := 71) g (pz rfl (by decide)) rfl rfl d_Mo_entry_71 h fun v71 h => ?_
      refine ww_iload (pc := 72) g.1 d_Mo_entry_72 (lv_at hl 4 rfl) ?_
      refine ww_iadd (pc := 74) g.1 d_Mo_entry_74 ?_
      refine ww_al (pc := 75) g pd63 rfl rfl d_Mo_entry_75 h fun v75 h => ?_
      refine ww_lload_n (pc := 76) g.1 d_Mo_entry_76 rfl (lv_at hl 3 rfl) ?_
      refine ww_lcmp (pc := 77) g.1 d_Mo_entry_77 ?_
      refine ww_if_ne (pc := 78) (tgt := 91) g.1 d_Mo_entry_78 (by decide) h (fun c h => ?_) (fun c h => ?_)
      · exact j_Mo_entry_j91 g hR x.1 x.2.1 x.2.2.1 x.2.2.2 s ls (lv_sub hl [0, 1, 2, 3, 4] rfl) h
      · rw [oR_eq h] at hR
        exact hR ls (lv_sub hl [0, 1, 4] rfl)

theorem ct_Mo_entry {l : Launch} {P : PP} {q : PL} {s s' : S1} {l1 : Int32} {l2 : Int32} {l3 : Int64} {r : Int32} (h : M_Mo_entry l1 l2 l3 s = some (r, s')) : Ct l y_Mo_entry b_Mo_entry 6 (some .int) 2 49 P q s [.ref (q.1 0 0), .int l1, .int l2, .long l3] (some (.int r)) q s' := by
  refine ct_of (by decide) (Nat.le_of_ble_eq_true rfl) fun X ls eP el g hR hl => ?_
  have hR : Rt X q ((r, s') : Int32 × S1).2 (some (.int ((r, s') : Int32 × S1).1)) := hR
  have hl : lv_has ls 6 [(0, .ref (q.1 0 0)), (1, .int l1), (2, .int l2), (3, .long l3)] := hl
  generalize (r, s') = o at h hR
  unfold M_Mo_entry at h
  refine ww_aload_n (pc := 0) g.1 d_Mo_entry_0 rfl (lv_at hl 0 rfl) ?_
  refine ww_gR (pc := 1) g (k := 50) cl_Mo (pz rfl (by decide)) (by decide) (Or.inl kw_93) (f := 50) (t := 63) rfl rfl rfl d_Mo_entry_1 ?_
  refine ww_iload_n (pc := 4) g.1 d_Mo_entry_4 rfl (lv_at hl 1 rfl) ?_
  refine ww_ai (pc := 5) g (pz rfl (by decide)) rfl rfl d_Mo_entry_5 h fun v5 h => ?_
  refine ww_if_ne (pc := 6) (tgt := 11) g.1 d_Mo_entry_6 (by decide) h (fun c h => ?_) (fun c h => ?_)
  · refine ww_aload_n (pc := 11) g.1 d_Mo_entry_11 rfl (lv_at hl 0 rfl) ?_
    refine ww_g5 (pc := 12) g (k := 62) cl_Mo (pz rfl (by decide)) (by decide) (Or.inl kw_133) (f := 62) (t := 74) (f2 := 9599) rfl rfl rfl rfl d_Mo_entry_12 h fun v12 hv12 h => ?_
    refine ww_ok h fun cv12 h => ?_
    refine ww_dn cv12 ?_
    have pd12 : prs s 74 0 := pd (f := 9599) rfl (by decide) hv12 cv12
    refine ww_aload_n (pc := 15) g.1 d_Mo_entry_15 rfl (lv_at hl 0 rfl) ?_
    refine ww_gR (pc := 16) g (k := 49) cl_Mo (pz rfl (by decide)) (by decide) (Or.inl kw_89) (f := 49) (t := 62) rfl rfl rfl d_Mo_entry_16 ?_
    refine ww_iload_n (pc := 19) g.1 d_Mo_entry_19 rfl (lv_at hl 1 rfl) ?_
    refine ww_ai (pc := 20) g (pz rfl (by decide)) rfl rfl d_Mo_entry_20 h fun v20 h => ?_
    refine ww_aload_n (pc := 21) g.1 d_Mo_entry_21 rfl (lv_at hl 0 rfl) ?_
    refine ww_aload_n (pc := 22) g.1 d_Mo_entry_22 rfl (lv_at hl 0 rfl) ?_
    refine ww_gR (pc := 23) g (k := 50) cl_Mo (pz rfl (by decide)) (by decide) (Or.inl kw_93) (f := 50) (t := 63) rfl rfl rfl d_Mo_entry_23 ?_
    refine ww_iload_n (pc := 26) g.1 d_Mo_entry_26 rfl (lv_at hl 1 rfl) ?_
    refine ww_ai (pc := 27) g (pz rfl (by decide)) rfl rfl d_Mo_entry_27 h fun v27 h => ?_
    refine ww_iload_n (pc := 28) g.1 d_Mo_entry_28 rfl (lv_at hl 2 rfl) ?_
    refine ww_lload_n (pc := 29) g.1 d_Mo_entry_29 rfl (lv_at hl 3 rfl) ?_
    obtain ⟨v30, s, hc30, h⟩ := oB_of h
    refine ww_callV (pc := 30) (rest := [.int v20, .ref (q.1 74 0)]) g cv_Mo_slot (Or.inl kw_131) cl_Mo (pz rfl (by decide)) (ct_Mo_slot hc30) ⟨by decide, by decide⟩ rfl hl.1 (Nat.le_of_ble_eq_true rfl) d_Mo_entry_30 rfl ?_
    refine ww_st (st' := [.int v30, .int v20, .ref (q.1 74 0)]) rfl ?_
    refine ww_pr h fun pd12 h => ?_
    refine ww_iadd (pc := 33) g.1 d_Mo_entry_33 ?_
    refine ww_ai (pc := 34) g pd12 rfl rfl d_Mo_entry_34 h fun v34 h => ?_
    refine ww_iconst (pc := 35) g.1 (v := 1) d_Mo_entry_35 (by decide) ?_
    refine ww_isub (pc := 36) g.1 d_Mo_entry_36 ?_
    refine ww_leti h fun l5_37 h => ?_
    refine ww_istore (pc := 37) g.1 (lv' := [(5, .int l5_37), (0, .ref (q.1 0 0)), (1, .int l1), (2, .int l2), (3, .long l3)]) d_Mo_entry_37 hl (by decide) rfl fun ls hl => ?_
    obtain ⟨e39, s1, hw, h⟩ := oB_of h
    refine oW_rule (Wh := fun (x : Int32 × Int32 × Int64 × Int32) (s : S1) => ∀ ls : Array Slot, lv_has ls 6 [(0, .ref (q.1 0 0)), (1, .int x.1), (2, .int x.2.1), (3, .long x.2.2.1), (5, .int x.2.2.2)] → WW X q s 39 ls []) (We := fun (e : (Int32 × Int32) ⊕ (Unit)) (s : S1) => (Sum.elim (fun y : Int32 × Int32 => ∀ ls : Array Slot, lv_has ls 6 [(0, .ref (q.1 0 0)), (1, .int y.1), (5, .int y.2)] → WW X q s 81 ls []) (fun y : Unit => ∀ ls : Array Slot, lv_has ls 6 [] → WW X q s 112 ls [])) e) (fun x s o hb hc => lp_Mo_entry_L39 (q := q) g x s o hb hc) hw ?_ ls (lv_sub hl [1, 2, 3, 4, 0] rfl)
    clear hw hl
    clear ls
    generalize s1 = s at h ⊢
    rcases e39 with y39_81 | y39_112
    · intro ls hl
      dsimp only [Sum.elim_inl, Sum.elim_inr] at h
      refine ww_aload_n (pc := 81) g.1 d_Mo_entry_81 rfl (lv_at hl 0 rfl) ?_
      refine ww_gR (pc := 82) g (k := 49) cl_Mo (pz rfl (by decide)) (by decide) (Or.inl kw_89) (f := 49) (t := 62) rfl rfl rfl d_Mo_entry_82 ?_
      refine ww_iload_n (pc := 85) g.1 d_Mo_entry_85 rfl (lv_at hl 1 rfl) ?_
      refine ww_ai (pc := 86) g (pz rfl (by decide)) rfl rfl d_Mo_entry_86 h fun v86 h => ?_
      refine ww_iload (pc := 87) g.1 d_Mo_entry_87 (lv_at hl 2 rfl) ?_
      refine ww_iadd (pc := 89) g.1 d_Mo_entry_89 ?_
      exact ww_iretH (pc := 90) g h hR d_Mo_entry_90
    · intro ls hl
      dsimp only [Sum.elim_inl, Sum.elim_inr] at h
      refine ww_iconst (pc := 112) g.1 (v := (-1)) d_Mo_entry_112 (by decide) ?_
      exact ww_iretH (pc := 113) g h hR d_Mo_entry_113
  · refine ww_iconst (pc := 9) g.1 (v := (-1)) d_Mo_entry_9 (by decide) ?_
    exact ww_iretH (pc := 10) g h hR d_Mo_entry_10

theorem kw_352 : Cond.methodLink R_Mo 555 y_Arr_fill ∈ wA := kinm (show _ ∈ tables_1 from (List.mem_append_right _ (List.mem_append_right _ (List.mem_append_right _ (List.mem_append_right _ (List.mem_append_right _ (List.mem_append_right _ (List.mem_append_right _ (List.mem_append_right _ (List.mem_append_right _ (List.mem_append_right _ (List.mem_append_right _ (List.mem_append_left _ (List.mem_of_getElem? (l := tables_1_12) (i := 99) (by decide +kernel))))))))))))))) (by decide +kernel)
theorem kw_353 : Cond.methodLink R_Mo 561 y_Mo_append ∈ wA := kinm (show _ ∈ tables_1 from (List.mem_append_right _ (List.mem_append_right _ (List.mem_append_right _ (List.mem_append_right _ (List.mem_append_right _ (List.mem_append_right _ (List.mem_append_right _ (List.mem_append_right _ (List.mem_append_right _ (List.mem_append_right _ (List.mem_append_right _ (List.mem_append_left _ (List.mem_of_getElem? (l := tables_1_12) (i := 100) (by decide +kernel))))))))))))))) (by decide +kernel)
theorem kw_354 : Cond.instanceMethod y_Mo_move ∈ wA := kinm (show _ ∈ tables_1 from (List.mem_append_right _ (List.mem_append_right _ (List.mem_append_right _ (List.mem_append_right _ (List.mem_append_right _ (List.mem_append_right _ (List.mem_append_right _ (List.mem_append_right _ (List.mem_append_right _ (List.mem_append_right _ (List.mem_append_right _ (List.mem_append_left _ (List.mem_of_getElem? (l := tables_1_12) (i := 97) (by decide +kernel))))))))))))))) (by decide +kernel)
theorem kw_355 : Cond.selects R_Mo y_Mo_move y_Mo_move ∈ wA := kinp 149 (by decide +kernel) (by decide +kernel)
def M_Mo_move_j117 (l1 : Int32) (l4 : Int32) (l5 : Int32) (l6 : Int32) : M ((Int32 × Int32 × Int32 × Int32) ⊕ ((Unit))) :=
  oR (Sum.inl (l1, l4, l5, l6 + 1))

def M_Mo_move_L52 : (Int32 × Int32 × Int32 × Int32) → M ((Int32 × Int32 × Int32 × Int32) ⊕ ((Unit))) := fun x =>
  oC (x.2.2.1 ≤ x.2.2.2)
    (oR (Sum.inr ()))
    (oB (oGI 9087 0) fun v60 =>
    oB (oK (v60 = 1)) fun _ =>
    oB (oAI 70 300000 0 (x.2.1 + x.2.2.2)) fun v68 =>
    oC (v68 = 0)
      (M_Mo_move_j117 x.1 x.2.1 x.2.2.1 x.2.2.2)
      (oB (oGI 8959 0) fun v75 =>
      oB (oK (v75 = 1)) fun _ =>
      oB (oAI 69 300000 0 (x.2.1 + x.2.2.2)) fun v83 =>
      oB (oGI 9215 0) fun v85 =>
      oB (oK (v85 = 1)) fun _ =>
      oB (oAL 71 300000 0 (x.2.1 + x.2.2.2)) fun v93 =>
      oB (oGI 9087 0) fun v95 =>
      oB (oK (v95 = 1)) fun _ =>
      oB (oAI 70 300000 0 (x.2.1 + x.2.2.2)) fun v103 =>
      oB (oGI 9343 0) fun v105 =>
      oB (oK (v105 = 1)) fun _ =>
      oB (oAL 72 300000 0 (x.2.1 + x.2.2.2)) fun v113 =>
      oB (M_Mo_append x.1 v83 v93 v103 v113) fun _ =>
      M_Mo_move_j117 x.1 x.2.1 x.2.2.1 x.2.2.2))

def M_Mo_move (l1 : Int32) (l2 : Int32) (l3 : Int32) : M (Unit) :=
  oB (oAI 62 4100 0 l1) fun v5 =>
  oB (oAI 64 4100 0 l1) fun v13 =>
  oB (oSI 62 4100 0 l1 l2) fun _ =>
  oB (oSI 63 4100 0 l1 l3) fun _ =>
  oB (oSI 64 4100 0 l1 0) fun _ =>
  oB (oGI 9599 0) fun v38 =>
  oB (oK (v38 = 1)) fun _ =>
  oB (M_Arr_fill 74 0 l2 (l2 + l3) 0) fun _ =>
  oB (oW M_Mo_move_L52 (l1, v5, v13, 0)) fun e52 =>
  oR ()

theorem cv_Mo_move : CV y_Mo_move b_Mo_move 7 none 3 := ⟨kw_354, kw_355, kw_17, k_Mo_move, by decide +kernel⟩
theorem j_Mo_move_j117 {X : Cx} {q : PL} (g : Gd X y_Mo_move b_Mo_move 7 none 3 79 R_Mo) {o : ((Int32 × Int32 × Int32 × Int32) ⊕ ((Unit))) × S1} (hR : (Sum.elim (fun y : Int32 × Int32 × Int32 × Int32 => ∀ ls : Array Slot, lv_has ls 7 [(0, .ref (q.1 0 0)), (1, .int y.1), (4, .int y.2.1), (5, .int y.2.2.1), (6, .int y.2.2.2)] → WW X q o.2 52 ls []) (fun y : Unit => ∀ ls : Array Slot, lv_has ls 7 [] → WW X q o.2 123 ls []) o.1)) (l1 : Int32) (l4 : Int32) (l5 : Int32) (l6 : Int32) (s : S1) (ls : Array Slot) (hl : lv_has ls 7 [(0, .ref (q.1 0 0)), (1, .int l1), (4, .int l4), (5, .int l5), (6, .int l6)]) (h : M_Mo_move_j117 l1 l4 l5 l6 s = some o) : WW X q s 117 ls [] := by
  unfold M_Mo_move_j117 at h
  refine ww_iinc (pc := 117) g.1 (v := l6 + 1) (lv' := [(6, .int (l6 + 1)), (0, .ref (q.1 0 0)), (1, .int l1), (4, .int l4), (5, .int l5)]) d_Mo_move_117 hl (k := 4) rfl (by rfl) (by decide) rfl fun ls hl => ?_
  refine ww_goto (pc := 120) (tgt := 52) g.1 d_Mo_move_120 (by decide) ?_
  rw [oR_eq h] at hR
  exact hR ls (lv_sub hl [1, 2, 3, 4, 0] rfl)

theorem lp_Mo_move_L52 {X : Cx} {q : PL} (g : Gd X y_Mo_move b_Mo_move 7 none 3 79 R_Mo) (x : Int32 × Int32 × Int32 × Int32) (s : S1) (o : ((Int32 × Int32 × Int32 × Int32) ⊕ ((Unit))) × S1) (h : M_Mo_move_L52 x s = some o) (hR : (Sum.elim (fun y : Int32 × Int32 × Int32 × Int32 => ∀ ls : Array Slot, lv_has ls 7 [(0, .ref (q.1 0 0)), (1, .int y.1), (4, .int y.2.1), (5, .int y.2.2.1), (6, .int y.2.2.2)] → WW X q o.2 52 ls []) (fun y : Unit => ∀ ls : Array Slot, lv_has ls 7 [] → WW X q o.2 123 ls []) o.1)) : ∀ ls : Array Slot, lv_has ls 7 [(0, .ref (q.1 0 0)), (1, .int x.1), (4, .int x.2.1), (5, .int x.2.2.1), (6, .int x.2.2.2)] → WW X q s 52 ls [] := by
  intro ls hl
  unfold M_Mo_move_L52 at h
  refine ww_iload (pc := 52) g.1 d_Mo_move_52 (lv_at hl 4 rfl) ?_
  refine ww_iload (pc := 54) g.1 d_Mo_move_54 (lv_at hl 3 rfl) ?_
  refine ww_icmp_ge (pc := 56) (tgt := 123) g.1 d_Mo_move_56 (by decide) h (fun c h => ?_) (fun c h => ?_)
  · rw [oR_eq h] at hR
    exact hR ls (lv_sub hl [] rfl)
  · refine ww_aload_n (pc := 59) g.1 d_Mo_move_59 rfl (lv_at hl 0 rfl) ?_
    refine ww_g5 (pc := 60) g (k := 58) cl_Mo (pz rfl (by decide)) (by decide) (Or.inl kw_129) (f := 58) (t := 70) (f2 := 9087) rfl rfl rfl rfl d_Mo_move_60 h fun v60 hv60 h => ?_
    refine ww_ok h fun cv60 h => ?_
    refine ww_dn cv60 ?_
    have pd60 : prs s 70 0 := pd (f := 9087) rfl (by decide) hv60 cv60
    refine ww_iload (pc := 63) g.1 d_Mo_move_63 (lv_at hl 2 rfl) ?_
    refine ww_iload (pc := 65) g.1 d_Mo_move_65 (lv_at hl 4 rfl) ?_
    refine ww_iadd (pc := 67) g.1 d_Mo_move_67 ?_
    refine ww_ab (pc := 68) g pd60 rfl rfl d_Mo_move_68 h fun v68 h => ?_
    refine ww_if_eq (pc := 69) (tgt := 117) g.1 d_Mo_move_69 (by decide) h (fun c h => ?_) (fun c h => ?_)
    · exact j_Mo_move_j117 g hR x.1 x.2.1 x.2.2.1 x.2.2.2 s ls (lv_sub hl [0, 1, 2, 3, 4] rfl) h
    · refine ww_aload_n (pc := 72) g.1 d_Mo_move_72 rfl (lv_at hl 0 rfl) ?_
      refine ww_iload_n (pc := 73) g.1 d_Mo_move_73 rfl (lv_at hl 1 rfl) ?_
      refine ww_aload_n (pc := 74) g.1 d_Mo_move_74 rfl (lv_at hl 0 rfl) ?_
      refine ww_g5 (pc := 75) g (k := 57) cl_Mo (pz rfl (by decide)) (by decide) (Or.inl kw_127) (f := 57) (t := 69) (f2 := 8959) rfl rfl rfl rfl d_Mo_move_75 h fun v75 hv75 h => ?_
      refine ww_ok h fun cv75 h => ?_
      refine ww_dn cv75 ?_
      have pd75 : prs s 69 0 := pd (f := 8959) rfl (by decide) hv75 cv75
      refine ww_iload (pc := 78) g.1 d_Mo_move_78 (lv_at hl 2 rfl) ?_
      refine ww_iload (pc := 80) g.1 d_Mo_move_80 (lv_at hl 4 rfl) ?_
      refine ww_iadd (pc := 82) g.1 d_Mo_move_82 ?_
      refine ww_ab (pc := 83) g pd75 rfl rfl d_Mo_move_83 h fun v83 h => ?_
      refine ww_aload_n (pc := 84) g.1 d_Mo_move_84 rfl (lv_at hl 0 rfl) ?_
      refine ww_g5 (pc := 85) g (k := 59) cl_Mo (pz rfl (by decide)) (by decide) (Or.inl kw_128) (f := 59) (t := 71) (f2 := 9215) rfl rfl rfl rfl d_Mo_move_85 h fun v85 hv85 h => ?_
      refine ww_ok h fun cv85 h => ?_
      refine ww_dn cv85 ?_
      have pd85 : prs s 71 0 := pd (f := 9215) rfl (by decide) hv85 cv85
      refine ww_iload (pc := 88) g.1 d_Mo_move_88 (lv_at hl 2 rfl) ?_
      refine ww_iload (pc := 90) g.1 d_Mo_move_90 (lv_at hl 4 rfl) ?_
      refine ww_iadd (pc := 92) g.1 d_Mo_move_92 ?_
      refine ww_al (pc := 93) g pd85 rfl rfl d_Mo_move_93 h fun v93 h => ?_
      refine ww_aload_n (pc := 94) g.1 d_Mo_move_94 rfl (lv_at hl 0 rfl) ?_
      refine ww_g5 (pc := 95) g (k := 58) cl_Mo (pz rfl (by decide)) (by decide) (Or.inl kw_129) (f := 58) (t := 70) (f2 := 9087) rfl rfl rfl rfl d_Mo_move_95 h fun v95 hv95 h => ?_
      refine ww_ok h fun cv95 h => ?_
      refine ww_dn cv95 ?_
      have pd95 : prs s 70 0 := pd (f := 9087) rfl (by decide) hv95 cv95
      refine ww_iload (pc := 98) g.1 d_Mo_move_98 (lv_at hl 2 rfl) ?_
      refine ww_iload (pc := 100) g.1 d_Mo_move_100 (lv_at hl 4 rfl) ?_
      refine ww_iadd (pc := 102) g.1 d_Mo_move_102 ?_
      refine ww_ab (pc := 103) g pd95 rfl rfl d_Mo_move_103 h fun v103 h => ?_
      refine ww_aload_n (pc := 104) g.1 d_Mo_move_104 rfl (lv_at hl 0 rfl) ?_
      refine ww_g5 (pc := 105) g (k := 60) cl_Mo (pz rfl (by decide)) (by decide) (Or.inl kw_130) (f := 60) (t := 72) (f2 := 9343) rfl rfl rfl rfl d_Mo_move_105 h fun v105 hv105 h => ?_
      refine ww_ok h fun cv105 h => ?_
      refine ww_dn cv105 ?_
      have pd105 : prs s 72 0 := pd (f := 9343) rfl (by decide) hv105 cv105
      refine ww_iload (pc := 108) g.1 d_Mo_move_108 (lv_at hl 2 rfl) ?_
      refine ww_iload (pc := 110) g.1 d_Mo_move_110 (lv_at hl 4 rfl) ?_
      refine ww_iadd (pc := 112) g.1 d_Mo_move_112 ?_
      refine ww_al (pc := 113) g pd105 rfl rfl d_Mo_move_113 h fun v113 h => ?_
      obtain ⟨v114, s, hc114, h⟩ := oB_of h
      refine ww_callV (pc := 114) (rest := []) g cv_Mo_append (Or.inl kw_353) cl_Mo (pz rfl (by decide)) (ct_Mo_append hc114) ⟨by decide, by decide⟩ rfl hl.1 (Nat.le_of_ble_eq_true rfl) d_Mo_move_114 rfl ?_
      refine ww_st (st' := []) rfl ?_
      exact j_Mo_move_j117 g hR x.1 x.2.1 x.2.2.1 x.2.2.2 s ls (lv_sub hl [0, 1, 2, 3, 4] rfl) h

theorem ct_Mo_move {l : Launch} {P : PP} {q : PL} {s s' : S1} {l1 : Int32} {l2 : Int32} {l3 : Int32} {r : Unit} (h : M_Mo_move l1 l2 l3 s = some (r, s')) : Ct l y_Mo_move b_Mo_move 7 none 3 79 P q s [.ref (q.1 0 0), .int l1, .int l2, .int l3] none q s' := by
  refine ct_of (by decide) (Nat.le_of_ble_eq_true rfl) fun X ls eP el g hR hl => ?_
  have hR : Rt X q ((r, s') : Unit × S1).2 none := hR
  have hl : lv_has ls 7 [(0, .ref (q.1 0 0)), (1, .int l1), (2, .int l2), (3, .int l3)] := hl
  generalize (r, s') = o at h hR
  unfold M_Mo_move at h
  refine ww_aload_n (pc := 0) g.1 d_Mo_move_0 rfl (lv_at hl 0 rfl) ?_
  refine ww_gR (pc := 1) g (k := 49) cl_Mo (pz rfl (by decide)) (by decide) (Or.inl kw_89) (f := 49) (t := 62) rfl rfl rfl d_Mo_move_1 ?_
  refine ww_iload_n (pc := 4) g.1 d_Mo_move_4 rfl (lv_at hl 1 rfl) ?_
  refine ww_ai (pc := 5) g (pz rfl (by decide)) rfl rfl d_Mo_move_5 h fun v5 h => ?_
  refine ww_istore (pc := 6) g.1 (lv' := [(4, .int v5), (0, .ref (q.1 0 0)), (1, .int l1), (2, .int l2), (3, .int l3)]) d_Mo_move_6 hl (by decide) rfl fun ls hl => ?_
  refine ww_aload_n (pc := 8) g.1 d_Mo_move_8 rfl (lv_at hl 1 rfl) ?_
  refine ww_gR (pc := 9) g (k := 51) cl_Mo (pz rfl (by decide)) (by decide) (Or.inl kw_126) (f := 51) (t := 64) rfl rfl rfl d_Mo_move_9 ?_
  refine ww_iload_n (pc := 12) g.1 d_Mo_move_12 rfl (lv_at hl 2 rfl) ?_
  refine ww_ai (pc := 13) g (pz rfl (by decide)) rfl rfl d_Mo_move_13 h fun v13 h => ?_
  refine ww_istore (pc := 14) g.1 (lv' := [(5, .int v13), (4, .int v5), (0, .ref (q.1 0 0)), (1, .int l1), (2, .int l2), (3, .int l3)]) d_Mo_move_14 hl (by decide) rfl fun ls hl => ?_
  refine ww_aload_n (pc := 16) g.1 d_Mo_move_16 rfl (lv_at hl 2 rfl) ?_
  refine ww_gR (pc := 17) g (k := 49) cl_Mo (pz rfl (by decide)) (by decide) (Or.inl kw_89) (f := 49) (t := 62) rfl rfl rfl d_Mo_move_17 ?_
  refine ww_iload_n (pc := 20) g.1 d_Mo_move_20 rfl (lv_at hl 3 rfl) ?_
  refine ww_iload_n (pc := 21) g.1 d_Mo_move_21 rfl (lv_at hl 4 rfl) ?_
  refine ww_si (pc := 22) g (pz rfl (by decide)) rfl rfl d_Mo_move_22 h fun s hs h => ?_
  refine ww_aload_n (pc := 23) g.1 d_Mo_move_23 rfl (lv_at hl 2 rfl) ?_
  refine ww_gR (pc := 24) g (k := 50) cl_Mo (pz rfl (by decide)) (by decide) (Or.inl kw_93) (f := 50) (t := 63) rfl rfl rfl d_Mo_move_24 ?_
  refine ww_iload_n (pc := 27) g.1 d_Mo_move_27 rfl (lv_at hl 3 rfl) ?_
  refine ww_iload_n (pc := 28) g.1 d_Mo_move_28 rfl (lv_at hl 5 rfl) ?_
  refine ww_si (pc := 29) g (pz rfl (by decide)) rfl rfl d_Mo_move_29 h fun s hs h => ?_
  refine ww_aload_n (pc := 30) g.1 d_Mo_move_30 rfl (lv_at hl 2 rfl) ?_
  refine ww_gR (pc := 31) g (k := 51) cl_Mo (pz rfl (by decide)) (by decide) (Or.inl kw_126) (f := 51) (t := 64) rfl rfl rfl d_Mo_move_31 ?_
  refine ww_iload_n (pc := 34) g.1 d_Mo_move_34 rfl (lv_at hl 3 rfl) ?_
  refine ww_iconst (pc := 35) g.1 (v := 0) d_Mo_move_35 (by decide) ?_
  refine ww_si (pc := 36) g (pz rfl (by decide)) rfl rfl d_Mo_move_36 h fun s hs h => ?_
  refine ww_aload_n (pc := 37) g.1 d_Mo_move_37 rfl (lv_at hl 2 rfl) ?_
  refine ww_g5 (pc := 38) g (k := 62) cl_Mo (pz rfl (by decide)) (by decide) (Or.inl kw_133) (f := 62) (t := 74) (f2 := 9599) rfl rfl rfl rfl d_Mo_move_38 h fun v38 hv38 h => ?_
  refine ww_ok h fun cv38 h => ?_
  refine ww_dn cv38 ?_
  have pd38 : prs s 74 0 := pd (f := 9599) rfl (by decide) hv38 cv38
  refine ww_iload_n (pc := 41) g.1 d_Mo_move_41 rfl (lv_at hl 4 rfl) ?_
  refine ww_iload_n (pc := 42) g.1 d_Mo_move_42 rfl (lv_at hl 4 rfl) ?_
  refine ww_iload_n (pc := 43) g.1 d_Mo_move_43 rfl (lv_at hl 5 rfl) ?_
  refine ww_iadd (pc := 44) g.1 d_Mo_move_44 ?_
  refine ww_iconst (pc := 45) g.1 (v := 0) d_Mo_move_45 (by decide) ?_
  obtain ⟨v46, s, hc46, h⟩ := oB_of h
  refine ww_callS (pc := 46) (rest := []) g cs_Arr_fill (Or.inl kw_352) (ct_Arr_fill ⟨rfl, by decide, by decide⟩ pd38 hc46) ⟨by decide, by decide⟩ rfl hl.1 (Nat.le_of_ble_eq_true rfl) d_Mo_move_46 rfl ?_
  refine ww_st (st' := []) rfl ?_
  refine ww_iconst (pc := 49) g.1 (v := 0) d_Mo_move_49 (by decide) ?_
  refine ww_istore (pc := 50) g.1 (lv' := [(6, .int 0), (5, .int v13), (4, .int v5), (0, .ref (q.1 0 0)), (1, .int l1), (2, .int l2), (3, .int l3)]) d_Mo_move_50 hl (by decide) rfl fun ls hl => ?_
  obtain ⟨e52, s1, hw, h⟩ := oB_of h
  refine oW_rule (Wh := fun (x : Int32 × Int32 × Int32 × Int32) (s : S1) => ∀ ls : Array Slot, lv_has ls 7 [(0, .ref (q.1 0 0)), (1, .int x.1), (4, .int x.2.1), (5, .int x.2.2.1), (6, .int x.2.2.2)] → WW X q s 52 ls []) (We := fun (e : (Unit)) (s : S1) => ∀ ls : Array Slot, lv_has ls 7 [] → WW X q s 123 ls []) (fun x s o hb hc => lp_Mo_move_L52 (q := q) g x s o hb hc) hw ?_ ls (lv_sub hl [3, 4, 2, 1, 0] rfl)
  clear hw hl
  clear ls
  intro ls hl
  generalize s1 = s at h ⊢
  exact ww_vretH (pc := 123) g h hR d_Mo_move_123

