abbrev b_Mo_lookOver : ByteArray := prog_14_method_20_code
def y_Mo_lookOver : MethodName := ⟨R_Mo, "lookOver", "()V"⟩
abbrev w_Mo_lookOver : List Cond := .code y_Mo_lookOver b_Mo_lookOver 3 none :: wA
theorem k_Mo_lookOver : Cond.code y_Mo_lookOver b_Mo_lookOver 3 none ∈ wA := kinm (show _ ∈ tables_1 from (List.mem_append_right _ (List.mem_append_right _ (List.mem_append_right _ (List.mem_append_right _ (List.mem_append_right _ (List.mem_append_right _ (List.mem_append_right _ (List.mem_append_right _ (List.mem_append_right _ (List.mem_append_right _ (List.mem_append_left _ (List.mem_of_getElem? (l := tables_1_11) (i := 169) (by decide +kernel)))))))))))))) (by decide +kernel)
theorem d_Mo_lookOver_0 : decode b_Mo_lookOver 0 = .ok (.iconst 0, 1) := by decide +kernel
theorem d_Mo_lookOver_1 : decode b_Mo_lookOver 1 = .ok (.istore_n 1, 1) := by decide +kernel
theorem d_Mo_lookOver_2 : decode b_Mo_lookOver 2 = .ok (.iload_n 1, 1) := by decide +kernel
theorem d_Mo_lookOver_3 : decode b_Mo_lookOver 3 = .ok (.aload_n 0, 1) := by decide +kernel
theorem d_Mo_lookOver_4 : decode b_Mo_lookOver 4 = .ok (.getfield 89, 3) := by decide +kernel
theorem d_Mo_lookOver_7 : decode b_Mo_lookOver 7 = .ok (.if_icmp .ge 70, 3) := by decide +kernel
theorem d_Mo_lookOver_10 : decode b_Mo_lookOver 10 = .ok (.aload_n 0, 1) := by decide +kernel
theorem d_Mo_lookOver_11 : decode b_Mo_lookOver 11 = .ok (.getfield 21, 3) := by decide +kernel
theorem d_Mo_lookOver_14 : decode b_Mo_lookOver 14 = .ok (.ifCond .ne 63, 3) := by decide +kernel
theorem d_Mo_lookOver_17 : decode b_Mo_lookOver 17 = .ok (.iconst 0, 1) := by decide +kernel
theorem d_Mo_lookOver_18 : decode b_Mo_lookOver 18 = .ok (.istore_n 2, 1) := by decide +kernel
theorem d_Mo_lookOver_19 : decode b_Mo_lookOver 19 = .ok (.iload_n 2, 1) := by decide +kernel
theorem d_Mo_lookOver_20 : decode b_Mo_lookOver 20 = .ok (.aload_n 0, 1) := by decide +kernel
theorem d_Mo_lookOver_21 : decode b_Mo_lookOver 21 = .ok (.getfield 56, 3) := by decide +kernel
theorem d_Mo_lookOver_24 : decode b_Mo_lookOver 24 = .ok (.iload_n 1, 1) := by decide +kernel
theorem d_Mo_lookOver_25 : decode b_Mo_lookOver 25 = .ok (.iaload, 1) := by decide +kernel
theorem d_Mo_lookOver_26 : decode b_Mo_lookOver 26 = .ok (.if_icmp .ge 45, 3) := by decide +kernel
theorem d_Mo_lookOver_29 : decode b_Mo_lookOver 29 = .ok (.aload_n 0, 1) := by decide +kernel
theorem d_Mo_lookOver_30 : decode b_Mo_lookOver 30 = .ok (.getfield 21, 3) := by decide +kernel
theorem d_Mo_lookOver_33 : decode b_Mo_lookOver 33 = .ok (.ifCond .ne 38, 3) := by decide +kernel
theorem d_Mo_lookOver_36 : decode b_Mo_lookOver 36 = .ok (.aload_n 0, 1) := by decide +kernel
theorem d_Mo_lookOver_37 : decode b_Mo_lookOver 37 = .ok (.iload_n 1, 1) := by decide +kernel
theorem d_Mo_lookOver_38 : decode b_Mo_lookOver 38 = .ok (.iload_n 2, 1) := by decide +kernel
theorem d_Mo_lookOver_39 : decode b_Mo_lookOver 39 = .ok (.invokevirtual 485, 3) := by decide +kernel
theorem d_Mo_lookOver_42 : decode b_Mo_lookOver 42 = .ok (.ifCond .ne 23, 3) := by decide +kernel
theorem d_Mo_lookOver_45 : decode b_Mo_lookOver 45 = .ok (.aload_n 0, 1) := by decide +kernel
theorem d_Mo_lookOver_46 : decode b_Mo_lookOver 46 = .ok (.bipush 6, 2) := by decide +kernel
theorem d_Mo_lookOver_48 : decode b_Mo_lookOver 48 = .ok (.aload_n 0, 1) := by decide +kernel
theorem d_Mo_lookOver_49 : decode b_Mo_lookOver 49 = .ok (.getfield 74, 3) := by decide +kernel
theorem d_Mo_lookOver_52 : decode b_Mo_lookOver 52 = .ok (.aload_n 0, 1) := by decide +kernel
theorem d_Mo_lookOver_53 : decode b_Mo_lookOver 53 = .ok (.getfield 53, 3) := by decide +kernel
theorem d_Mo_lookOver_56 : decode b_Mo_lookOver 56 = .ok (.iload_n 1, 1) := by decide +kernel
theorem d_Mo_lookOver_57 : decode b_Mo_lookOver 57 = .ok (.iaload, 1) := by decide +kernel
theorem d_Mo_lookOver_58 : decode b_Mo_lookOver 58 = .ok (.iload_n 2, 1) := by decide +kernel
theorem d_Mo_lookOver_59 : decode b_Mo_lookOver 59 = .ok (.iadd, 1) := by decide +kernel
theorem d_Mo_lookOver_60 : decode b_Mo_lookOver 60 = .ok (.iaload, 1) := by decide +kernel
theorem d_Mo_lookOver_61 : decode b_Mo_lookOver 61 = .ok (.invokevirtual 449, 3) := by decide +kernel
theorem d_Mo_lookOver_64 : decode b_Mo_lookOver 64 = .ok (.pop, 1) := by decide +kernel
theorem d_Mo_lookOver_65 : decode b_Mo_lookOver 65 = .ok (.iinc 2 1, 3) := by decide +kernel
theorem d_Mo_lookOver_68 : decode b_Mo_lookOver 68 = .ok (.goto (-49), 3) := by decide +kernel
theorem d_Mo_lookOver_71 : decode b_Mo_lookOver 71 = .ok (.iinc 1 1, 3) := by decide +kernel
theorem d_Mo_lookOver_74 : decode b_Mo_lookOver 74 = .ok (.goto (-72), 3) := by decide +kernel
theorem d_Mo_lookOver_77 : decode b_Mo_lookOver 77 = .ok (.return_, 1) := by decide +kernel
theorem kw_434 : Cond.fieldLink R_Mo 89 "LuaMachineModel" "protos" "I" ∈ wA := kinm (show _ ∈ tables_1 from (List.mem_append_right _ (List.mem_append_right _ (List.mem_append_right _ (List.mem_append_right _ (List.mem_append_right _ (List.mem_append_right _ (List.mem_append_right _ (List.mem_append_right _ (List.mem_append_right _ (List.mem_append_left _ (List.mem_of_getElem? (l := tables_1_10) (i := 78) (by decide +kernel))))))))))))) (by decide +kernel)
theorem kw_435 : Cond.methodLink R_Mo 485 y_Mo_formed ∈ wA := kinm (show _ ∈ tables_1 from (List.mem_append_right _ (List.mem_append_right _ (List.mem_append_right _ (List.mem_append_right _ (List.mem_append_right _ (List.mem_append_right _ (List.mem_append_right _ (List.mem_append_right _ (List.mem_append_right _ (List.mem_append_right _ (List.mem_append_left _ (List.mem_of_getElem? (l := tables_1_11) (i := 170) (by decide +kernel)))))))))))))) (by decide +kernel)
theorem kw_436 : Cond.fieldLink R_Mo 74 "LuaMachineModel" "codePlace" "[I" ∈ wA := kinm (show _ ∈ tables_1 from (List.mem_append_right _ (List.mem_append_right _ (List.mem_append_right _ (List.mem_append_right _ (List.mem_append_right _ (List.mem_append_right _ (List.mem_append_right _ (List.mem_append_right _ (List.mem_append_right _ (List.mem_append_left _ (List.mem_of_getElem? (l := tables_1_10) (i := 75) (by decide +kernel))))))))))))) (by decide +kernel)
theorem kw_437 : Cond.instanceMethod y_Mo_lookOver ∈ wA := kinm (show _ ∈ tables_1 from (List.mem_append_right _ (List.mem_append_right _ (List.mem_append_right _ (List.mem_append_right _ (List.mem_append_right _ (List.mem_append_right _ (List.mem_append_right _ (List.mem_append_right _ (List.mem_append_right _ (List.mem_append_right _ (List.mem_append_left _ (List.mem_of_getElem? (l := tables_1_11) (i := 168) (by decide +kernel)))))))))))))) (by decide +kernel)
theorem kw_438 : Cond.selects R_Mo y_Mo_lookOver y_Mo_lookOver ∈ wA := kinp 118 (by decide +kernel) (by decide +kernel)
theorem cv_Mo_lookOver : CV y_Mo_lookOver b_Mo_lookOver 3 none 0 := ⟨kw_437, kw_438, kw_17, k_Mo_lookOver, by decide +kernel⟩
theorem j_Mo_lookOver_j65 {X : Cx} {q : PL} (g : Gd X y_Mo_lookOver b_Mo_lookOver 3 none 5 116 R_Mo) {o : ((Int32 × Int32) ⊕ ((Int32))) × S1} (hR : (Sum.elim (fun y : Int32 × Int32 => ∀ ls : Array Slot, lv_has ls 3 [(0, .ref (q.1 0 0)), (1, .int y.1), (2, .int y.2)] → WW X q o.2 19 ls []) (fun y : Int32 => ∀ ls : Array Slot, lv_has ls 3 [(0, .ref (q.1 0 0)), (1, .int y)] → WW X q o.2 71 ls []) o.1)) (l1 : Int32) (l2 : Int32) (s : S1) (ls : Array Slot) (hl : lv_has ls 3 [(0, .ref (q.1 0 0)), (1, .int l1), (2, .int l2)]) (h : M_Mo_lookOver_j65 l1 l2 s = some o) : WW X q s 65 ls [] := by
  unfold M_Mo_lookOver_j65 at h
  refine ww_iinc (pc := 65) g.1 (v := l2 + 1) (lv' := [(2, .int (l2 + 1)), (0, .ref (q.1 0 0)), (1, .int l1)]) d_Mo_lookOver_65 hl (k := 2) rfl (by rfl) (by decide) rfl fun ls hl => ?_
  refine ww_goto (pc := 68) (tgt := 19) g.1 d_Mo_lookOver_68 (by decide) ?_
  rw [oR_eq h] at hR
  exact hR ls (lv_sub hl [1, 2, 0] rfl)

theorem lp_Mo_lookOver_L19 {X : Cx} {q : PL} (g : Gd X y_Mo_lookOver b_Mo_lookOver 3 none 5 116 R_Mo) (x : Int32 × Int32) (s : S1) (o : ((Int32 × Int32) ⊕ ((Int32))) × S1) (h : M_Mo_lookOver_L19 x s = some o) (hR : (Sum.elim (fun y : Int32 × Int32 => ∀ ls : Array Slot, lv_has ls 3 [(0, .ref (q.1 0 0)), (1, .int y.1), (2, .int y.2)] → WW X q o.2 19 ls []) (fun y : Int32 => ∀ ls : Array Slot, lv_has ls 3 [(0, .ref (q.1 0 0)), (1, .int y)] → WW X q o.2 71 ls []) o.1)) : ∀ ls : Array Slot, lv_has ls 3 [(0, .ref (q.1 0 0)), (1, .int x.1), (2, .int x.2)] → WW X q s 19 ls [] := by
  intro ls hl
  unfold M_Mo_lookOver_L19 at h
  refine ww_iload_n (pc := 19) g.1 d_Mo_lookOver_19 rfl (lv_at hl 2 rfl) ?_
  refine ww_aload_n (pc := 20) g.1 d_Mo_lookOver_20 rfl (lv_at hl 0 rfl) ?_
  refine ww_gR (pc := 21) g (k := 14) cl_Mo (pz rfl (by decide)) (by decide) (Or.inl kw_56) (f := 14) (t := 50) rfl rfl rfl d_Mo_lookOver_21 ?_
  refine ww_iload_n (pc := 24) g.1 d_Mo_lookOver_24 rfl (lv_at hl 1 rfl) ?_
  refine ww_ai (pc := 25) g (pz rfl (by decide)) rfl rfl d_Mo_lookOver_25 h fun v25 h => ?_
  refine ww_icmp_ge (pc := 26) (tgt := 71) g.1 d_Mo_lookOver_26 (by decide) h (fun c h => ?_) (fun c h => ?_)
  · rw [oR_eq h] at hR
    exact hR ls (lv_sub hl [0, 1] rfl)
  · refine ww_aload_n (pc := 29) g.1 d_Mo_lookOver_29 rfl (lv_at hl 0 rfl) ?_
    refine ww_gI (pc := 30) g (k := 3) cl_Mo (pz rfl (by decide)) (by decide) (Or.inl kw_24) (f := 3) rfl rfl d_Mo_lookOver_30 h fun v30 h => ?_
    refine ww_if_ne (pc := 33) (tgt := 71) g.1 d_Mo_lookOver_33 (by decide) h (fun c h => ?_) (fun c h => ?_)
    · rw [oR_eq h] at hR
      exact hR ls (lv_sub hl [0, 1] rfl)
    · refine ww_aload_n (pc := 36) g.1 d_Mo_lookOver_36 rfl (lv_at hl 0 rfl) ?_
      refine ww_iload_n (pc := 37) g.1 d_Mo_lookOver_37 rfl (lv_at hl 1 rfl) ?_
      refine ww_iload_n (pc := 38) g.1 d_Mo_lookOver_38 rfl (lv_at hl 2 rfl) ?_
      obtain ⟨v39, s, hc39, h⟩ := oB_of h
      refine ww_callV (pc := 39) (rest := []) g cv_Mo_formed (Or.inl kw_435) cl_Mo (pz rfl (by decide)) (ct_Mo_formed hc39) ⟨by decide, by decide⟩ rfl hl.1 (Nat.le_of_ble_eq_true rfl) d_Mo_lookOver_39 rfl ?_
      refine ww_st (st' := [.int v39]) rfl ?_
      refine ww_if_ne (pc := 42) (tgt := 65) g.1 d_Mo_lookOver_42 (by decide) h (fun c h => ?_) (fun c h => ?_)
      · exact j_Mo_lookOver_j65 g hR x.1 x.2 s ls (lv_sub hl [0, 1, 2] rfl) h
      · refine ww_aload_n (pc := 45) g.1 d_Mo_lookOver_45 rfl (lv_at hl 0 rfl) ?_
        refine ww_bipush (pc := 46) g.1 (v := 6) d_Mo_lookOver_46 (by decide) ?_
        refine ww_aload_n (pc := 48) g.1 d_Mo_lookOver_48 rfl (lv_at hl 0 rfl) ?_
        refine ww_gR (pc := 49) g (k := 20) cl_Mo (pz rfl (by decide)) (by decide) (Or.inl kw_436) (f := 20) (t := 56) rfl rfl rfl d_Mo_lookOver_49 ?_
        refine ww_aload_n (pc := 52) g.1 d_Mo_lookOver_52 rfl (lv_at hl 0 rfl) ?_
        refine ww_gR (pc := 53) g (k := 13) cl_Mo (pz rfl (by decide)) (by decide) (Or.inl kw_59) (f := 13) (t := 49) rfl rfl rfl d_Mo_lookOver_53 ?_
        refine ww_iload_n (pc := 56) g.1 d_Mo_lookOver_56 rfl (lv_at hl 1 rfl) ?_
        refine ww_ai (pc := 57) g (pz rfl (by decide)) rfl rfl d_Mo_lookOver_57 h fun v57 h => ?_
        refine ww_iload_n (pc := 58) g.1 d_Mo_lookOver_58 rfl (lv_at hl 2 rfl) ?_
        refine ww_iadd (pc := 59) g.1 d_Mo_lookOver_59 ?_
        refine ww_ai (pc := 60) g (pz rfl (by decide)) rfl rfl d_Mo_lookOver_60 h fun v60 h => ?_
        obtain ⟨v61, s, hc61, h⟩ := oB_of h
        refine ww_callV (pc := 61) (rest := []) g cv_Mo_bad (Or.inl kw_31) cl_Mo (pz rfl (by decide)) (ct_Mo_bad hc61) ⟨by decide, by decide⟩ rfl hl.1 (Nat.le_of_ble_eq_true rfl) d_Mo_lookOver_61 rfl ?_
        refine ww_st (st' := [.int v61]) rfl ?_
        refine ww_pop (pc := 64) g.1 d_Mo_lookOver_64 rfl ?_
        exact j_Mo_lookOver_j65 g hR x.1 x.2 s ls (lv_sub hl [0, 1, 2] rfl) h

theorem j_Mo_lookOver_j71 {X : Cx} {q : PL} (g : Gd X y_Mo_lookOver b_Mo_lookOver 3 none 5 116 R_Mo) {o : ((Int32) ⊕ ((Unit))) × S1} (hR : (Sum.elim (fun y : Int32 => ∀ ls : Array Slot, lv_has ls 3 [(0, .ref (q.1 0 0)), (1, .int y)] → WW X q o.2 2 ls []) (fun y : Unit => ∀ ls : Array Slot, lv_has ls 3 [] → WW X q o.2 77 ls []) o.1)) (l1 : Int32) (s : S1) (ls : Array Slot) (hl : lv_has ls 3 [(0, .ref (q.1 0 0)), (1, .int l1)]) (h : M_Mo_lookOver_j71 l1 s = some o) : WW X q s 71 ls [] := by
  unfold M_Mo_lookOver_j71 at h
  refine ww_iinc (pc := 71) g.1 (v := l1 + 1) (lv' := [(1, .int (l1 + 1)), (0, .ref (q.1 0 0))]) d_Mo_lookOver_71 hl (k := 1) rfl (by rfl) (by decide) rfl fun ls hl => ?_
  refine ww_goto (pc := 74) (tgt := 2) g.1 d_Mo_lookOver_74 (by decide) ?_
  rw [oR_eq h] at hR
  exact hR ls (lv_sub hl [1, 0] rfl)

theorem lp_Mo_lookOver_L2 {X : Cx} {q : PL} (g : Gd X y_Mo_lookOver b_Mo_lookOver 3 none 5 116 R_Mo) (x : Int32) (s : S1) (o : ((Int32) ⊕ ((Unit))) × S1) (h : M_Mo_lookOver_L2 x s = some o) (hR : (Sum.elim (fun y : Int32 => ∀ ls : Array Slot, lv_has ls 3 [(0, .ref (q.1 0 0)), (1, .int y)] → WW X q o.2 2 ls []) (fun y : Unit => ∀ ls : Array Slot, lv_has ls 3 [] → WW X q o.2 77 ls []) o.1)) : ∀ ls : Array Slot, lv_has ls 3 [(0, .ref (q.1 0 0)), (1, .int x)] → WW X q s 2 ls [] := by
  intro ls hl
  unfold M_Mo_lookOver_L2 at h
  refine ww_iload_n (pc := 2) g.1 d_Mo_lookOver_2 rfl (lv_at hl 1 rfl) ?_
  refine ww_aload_n (pc := 3) g.1 d_Mo_lookOver_3 rfl (lv_at hl 0 rfl) ?_
  refine ww_gI (pc := 4) g (k := 23) cl_Mo (pz rfl (by decide)) (by decide) (Or.inl kw_434) (f := 23) rfl rfl d_Mo_lookOver_4 h fun v4 h => ?_
  refine ww_icmp_ge (pc := 7) (tgt := 77) g.1 d_Mo_lookOver_7 (by decide) h (fun c h => ?_) (fun c h => ?_)
  · rw [oR_eq h] at hR
    exact hR ls (lv_sub hl [] rfl)
  · refine ww_aload_n (pc := 10) g.1 d_Mo_lookOver_10 rfl (lv_at hl 0 rfl) ?_
    refine ww_gI (pc := 11) g (k := 3) cl_Mo (pz rfl (by decide)) (by decide) (Or.inl kw_24) (f := 3) rfl rfl d_Mo_lookOver_11 h fun v11 h => ?_
    refine ww_if_ne (pc := 14) (tgt := 77) g.1 d_Mo_lookOver_14 (by decide) h (fun c h => ?_) (fun c h => ?_)
    · rw [oR_eq h] at hR
      exact hR ls (lv_sub hl [] rfl)
    · refine ww_iconst (pc := 17) g.1 (v := 0) d_Mo_lookOver_17 (by decide) ?_
      refine ww_istore_n (pc := 18) (i := 2) g.1 (lv' := [(2, .int 0), (0, .ref (q.1 0 0)), (1, .int x)]) d_Mo_lookOver_18 rfl hl (by decide) rfl fun ls hl => ?_
      obtain ⟨e19, s1, hw, h⟩ := oB_of h
      refine oW_rule (Wh := fun (x : Int32 × Int32) (s : S1) => ∀ ls : Array Slot, lv_has ls 3 [(0, .ref (q.1 0 0)), (1, .int x.1), (2, .int x.2)] → WW X q s 19 ls []) (We := fun (e : (Int32)) (s : S1) => ∀ ls : Array Slot, lv_has ls 3 [(0, .ref (q.1 0 0)), (1, .int e)] → WW X q s 71 ls []) (fun x s o hb hc => lp_Mo_lookOver_L19 (q := q) g x s o hb hc) hw ?_ ls (lv_sub hl [1, 2, 0] rfl)
      clear hw hl
      clear ls
      intro ls hl
      generalize s1 = s at h ⊢
      exact j_Mo_lookOver_j71 g hR e19 s ls (lv_sub hl [0, 1] rfl) h

theorem ct_Mo_lookOver {l : Launch} {P : PP} {q : PL} {s s' : S1}  {r : Unit} (h : M_Mo_lookOver s = some (r, s')) : Ct l y_Mo_lookOver b_Mo_lookOver 3 none 5 116 P q s [.ref (q.1 0 0)] none q s' := by
  refine ct_of (by decide) (Nat.le_of_ble_eq_true rfl) fun X ls eP el g hR hl => ?_
  subst eP
  have hR : Rt X q ((r, s') : Unit × S1).2 none := hR
  have hl : lv_has ls 3 [(0, .ref (q.1 0 0))] := hl
  generalize (r, s') = o at h hR
  unfold M_Mo_lookOver at h
  refine ww_iconst (pc := 0) g.1 (v := 0) d_Mo_lookOver_0 (by decide) ?_
  refine ww_istore_n (pc := 1) (i := 1) g.1 (lv' := [(1, .int 0), (0, .ref (q.1 0 0))]) d_Mo_lookOver_1 rfl hl (by decide) rfl fun ls hl => ?_
  obtain ⟨e2, s1, hw, h⟩ := oB_of h
  refine oW_rule (Wh := fun (x : Int32) (s : S1) => ∀ ls : Array Slot, lv_has ls 3 [(0, .ref (q.1 0 0)), (1, .int x)] → WW X q s 2 ls []) (We := fun (e : (Unit)) (s : S1) => ∀ ls : Array Slot, lv_has ls 3 [] → WW X q s 77 ls []) (fun x s o hb hc => lp_Mo_lookOver_L2 (q := q) g x s o hb hc) hw ?_ ls (lv_sub hl [1, 0] rfl)
  clear hw hl
  clear ls
  intro ls hl
  generalize s1 = s at h ⊢
  exact ww_vretH (pc := 77) g h hR d_Mo_lookOver_77

abbrev b_Mo_collection : ByteArray := prog_14_method_47_code
def y_Mo_collection : MethodName := ⟨R_Mo, "collection", "()V"⟩
abbrev w_Mo_collection : List Cond := .code y_Mo_collection b_Mo_collection 2 none :: wA
set_option maxRecDepth 20000 in
theorem k_Mo_collection : Cond.code y_Mo_collection b_Mo_collection 2 none ∈ wA := kinm (show _ ∈ tables_1 from (List.mem_append_right _ (List.mem_append_right _ (List.mem_append_right _ (List.mem_append_right _ (List.mem_append_right _ (List.mem_append_right _ (List.mem_append_right _ (List.mem_append_right _ (List.mem_append_right _ (List.mem_append_right _ (List.mem_append_right _ (List.mem_append_left _ (List.mem_of_getElem? (l := tables_1_12) (i := 4) rfl)))))))))))))) rfl
theorem d_Mo_collection_0 : decode b_Mo_collection 0 = .ok (.aload_n 0, 1) := by decide +kernel
theorem d_Mo_collection_1 : decode b_Mo_collection 1 = .ok (.dup, 1) := by decide +kernel
theorem d_Mo_collection_2 : decode b_Mo_collection 2 = .ok (.getfield 125, 3) := by decide +kernel
theorem d_Mo_collection_5 : decode b_Mo_collection 5 = .ok (.iconst 1, 1) := by decide +kernel
theorem d_Mo_collection_6 : decode b_Mo_collection 6 = .ok (.iadd, 1) := by decide +kernel
theorem d_Mo_collection_7 : decode b_Mo_collection 7 = .ok (.putfield 125, 3) := by decide +kernel
theorem d_Mo_collection_10 : decode b_Mo_collection 10 = .ok (.aload_n 0, 1) := by decide +kernel
theorem d_Mo_collection_11 : decode b_Mo_collection 11 = .ok (.getfield 158, 3) := by decide +kernel
theorem d_Mo_collection_14 : decode b_Mo_collection 14 = .ok (.iconst 0, 1) := by decide +kernel
theorem d_Mo_collection_15 : decode b_Mo_collection 15 = .ok (.aload_n 0, 1) := by decide +kernel
theorem d_Mo_collection_16 : decode b_Mo_collection 16 = .ok (.getfield 140, 3) := by decide +kernel
theorem d_Mo_collection_19 : decode b_Mo_collection 19 = .ok (.iconst 0, 1) := by decide +kernel
theorem d_Mo_collection_20 : decode b_Mo_collection 20 = .ok (.invokestatic 612, 3) := by decide +kernel
theorem d_Mo_collection_23 : decode b_Mo_collection 23 = .ok (.aload_n 0, 1) := by decide +kernel
theorem d_Mo_collection_24 : decode b_Mo_collection 24 = .ok (.iconst 0, 1) := by decide +kernel
theorem d_Mo_collection_25 : decode b_Mo_collection 25 = .ok (.putfield 231, 3) := by decide +kernel
theorem d_Mo_collection_28 : decode b_Mo_collection 28 = .ok (.iconst 0, 1) := by decide +kernel
theorem d_Mo_collection_29 : decode b_Mo_collection 29 = .ok (.istore_n 1, 1) := by decide +kernel
theorem d_Mo_collection_30 : decode b_Mo_collection 30 = .ok (.iload_n 1, 1) := by decide +kernel
theorem d_Mo_collection_31 : decode b_Mo_collection 31 = .ok (.aload_n 0, 1) := by decide +kernel
theorem d_Mo_collection_32 : decode b_Mo_collection 32 = .ok (.getfield 140, 3) := by decide +kernel
theorem d_Mo_collection_35 : decode b_Mo_collection 35 = .ok (.if_icmp .ge 32, 3) := by decide +kernel
theorem d_Mo_collection_38 : decode b_Mo_collection 38 = .ok (.aload_n 0, 1) := by decide +kernel
theorem d_Mo_collection_39 : decode b_Mo_collection 39 = .ok (.getfield 155, 3) := by decide +kernel
theorem d_Mo_collection_42 : decode b_Mo_collection 42 = .ok (.iload_n 1, 1) := by decide +kernel
theorem d_Mo_collection_43 : decode b_Mo_collection 43 = .ok (.baload, 1) := by decide +kernel
theorem d_Mo_collection_44 : decode b_Mo_collection 44 = .ok (.ifCond .eq 17, 3) := by decide +kernel
theorem d_Mo_collection_47 : decode b_Mo_collection 47 = .ok (.aload_n 0, 1) := by decide +kernel
theorem d_Mo_collection_48 : decode b_Mo_collection 48 = .ok (.getfield 162, 3) := by decide +kernel
theorem d_Mo_collection_51 : decode b_Mo_collection 51 = .ok (.iload_n 1, 1) := by decide +kernel
theorem d_Mo_collection_52 : decode b_Mo_collection 52 = .ok (.baload, 1) := by decide +kernel
theorem d_Mo_collection_53 : decode b_Mo_collection 53 = .ok (.ifCond .eq 8, 3) := by decide +kernel
theorem d_Mo_collection_56 : decode b_Mo_collection 56 = .ok (.aload_n 0, 1) := by decide +kernel
theorem d_Mo_collection_57 : decode b_Mo_collection 57 = .ok (.iload_n 1, 1) := by decide +kernel
theorem d_Mo_collection_58 : decode b_Mo_collection 58 = .ok (.invokevirtual 606, 3) := by decide +kernel
theorem d_Mo_collection_61 : decode b_Mo_collection 61 = .ok (.iinc 1 1, 3) := by decide +kernel
theorem d_Mo_collection_64 : decode b_Mo_collection 64 = .ok (.goto (-34), 3) := by decide +kernel
theorem d_Mo_collection_67 : decode b_Mo_collection 67 = .ok (.aload_n 0, 1) := by decide +kernel
theorem d_Mo_collection_68 : decode b_Mo_collection 68 = .ok (.aload_n 0, 1) := by decide +kernel
theorem d_Mo_collection_69 : decode b_Mo_collection 69 = .ok (.getfield 250, 3) := by decide +kernel
theorem d_Mo_collection_72 : decode b_Mo_collection 72 = .ok (.invokevirtual 606, 3) := by decide +kernel
theorem d_Mo_collection_75 : decode b_Mo_collection 75 = .ok (.aload_n 0, 1) := by decide +kernel
theorem d_Mo_collection_76 : decode b_Mo_collection 76 = .ok (.aload_n 0, 1) := by decide +kernel
theorem d_Mo_collection_77 : decode b_Mo_collection 77 = .ok (.getfield 239, 3) := by decide +kernel
theorem d_Mo_collection_80 : decode b_Mo_collection 80 = .ok (.iconst 0, 1) := by decide +kernel
theorem d_Mo_collection_81 : decode b_Mo_collection 81 = .ok (.aaload, 1) := by decide +kernel
theorem d_Mo_collection_82 : decode b_Mo_collection 82 = .ok (.getfield 615, 3) := by decide +kernel
theorem d_Mo_collection_85 : decode b_Mo_collection 85 = .ok (.invokevirtual 606, 3) := by decide +kernel
theorem d_Mo_collection_88 : decode b_Mo_collection 88 = .ok (.aload_n 0, 1) := by decide +kernel
theorem d_Mo_collection_89 : decode b_Mo_collection 89 = .ok (.aload_n 0, 1) := by decide +kernel
theorem d_Mo_collection_90 : decode b_Mo_collection 90 = .ok (.getfield 243, 3) := by decide +kernel
theorem d_Mo_collection_93 : decode b_Mo_collection 93 = .ok (.getfield 615, 3) := by decide +kernel
theorem d_Mo_collection_96 : decode b_Mo_collection 96 = .ok (.invokevirtual 606, 3) := by decide +kernel
theorem d_Mo_collection_99 : decode b_Mo_collection 99 = .ok (.aload_n 0, 1) := by decide +kernel
theorem d_Mo_collection_100 : decode b_Mo_collection 100 = .ok (.getfield 243, 3) := by decide +kernel
theorem d_Mo_collection_103 : decode b_Mo_collection 103 = .ok (.astore_n 1, 1) := by decide +kernel
theorem d_Mo_collection_104 : decode b_Mo_collection 104 = .ok (.aload_n 1, 1) := by decide +kernel
theorem d_Mo_collection_105 : decode b_Mo_collection 105 = .ok (.getfield 617, 3) := by decide +kernel
theorem d_Mo_collection_108 : decode b_Mo_collection 108 = .ok (.ifnull 22, 3) := by decide +kernel
theorem d_Mo_collection_111 : decode b_Mo_collection 111 = .ok (.aload_n 0, 1) := by decide +kernel
theorem d_Mo_collection_112 : decode b_Mo_collection 112 = .ok (.aload_n 1, 1) := by decide +kernel
theorem d_Mo_collection_113 : decode b_Mo_collection 113 = .ok (.getfield 617, 3) := by decide +kernel
theorem d_Mo_collection_116 : decode b_Mo_collection 116 = .ok (.getfield 615, 3) := by decide +kernel
theorem d_Mo_collection_119 : decode b_Mo_collection 119 = .ok (.invokevirtual 606, 3) := by decide +kernel
theorem d_Mo_collection_122 : decode b_Mo_collection 122 = .ok (.aload_n 1, 1) := by decide +kernel
theorem d_Mo_collection_123 : decode b_Mo_collection 123 = .ok (.getfield 617, 3) := by decide +kernel
theorem d_Mo_collection_126 : decode b_Mo_collection 126 = .ok (.astore_n 1, 1) := by decide +kernel
theorem d_Mo_collection_127 : decode b_Mo_collection 127 = .ok (.goto (-23), 3) := by decide +kernel
theorem d_Mo_collection_130 : decode b_Mo_collection 130 = .ok (.aload_n 0, 1) := by decide +kernel
theorem d_Mo_collection_131 : decode b_Mo_collection 131 = .ok (.aload_n 0, 1) := by decide +kernel
theorem d_Mo_collection_132 : decode b_Mo_collection 132 = .ok (.getfield 234, 3) := by decide +kernel
theorem d_Mo_collection_135 : decode b_Mo_collection 135 = .ok (.iconst 0, 1) := by decide +kernel
theorem d_Mo_collection_136 : decode b_Mo_collection 136 = .ok (.aload_n 0, 1) := by decide +kernel
theorem d_Mo_collection_137 : decode b_Mo_collection 137 = .ok (.getfield 234, 3) := by decide +kernel
theorem d_Mo_collection_140 : decode b_Mo_collection 140 = .ok (.getfield 569, 3) := by decide +kernel
theorem d_Mo_collection_143 : decode b_Mo_collection 143 = .ok (.invokevirtual 620, 3) := by decide +kernel
theorem d_Mo_collection_146 : decode b_Mo_collection 146 = .ok (.aload_n 0, 1) := by decide +kernel
theorem d_Mo_collection_147 : decode b_Mo_collection 147 = .ok (.aload_n 0, 1) := by decide +kernel
theorem d_Mo_collection_148 : decode b_Mo_collection 148 = .ok (.getfield 259, 3) := by decide +kernel
theorem d_Mo_collection_151 : decode b_Mo_collection 151 = .ok (.iconst 0, 1) := by decide +kernel
theorem d_Mo_collection_152 : decode b_Mo_collection 152 = .ok (.aload_n 0, 1) := by decide +kernel
theorem d_Mo_collection_153 : decode b_Mo_collection 153 = .ok (.getfield 259, 3) := by decide +kernel
theorem d_Mo_collection_156 : decode b_Mo_collection 156 = .ok (.getfield 569, 3) := by decide +kernel
theorem d_Mo_collection_159 : decode b_Mo_collection 159 = .ok (.invokevirtual 620, 3) := by decide +kernel
theorem d_Mo_collection_162 : decode b_Mo_collection 162 = .ok (.aload_n 0, 1) := by decide +kernel
theorem d_Mo_collection_163 : decode b_Mo_collection 163 = .ok (.aload_n 0, 1) := by decide +kernel
theorem d_Mo_collection_164 : decode b_Mo_collection 164 = .ok (.getfield 262, 3) := by decide +kernel
theorem d_Mo_collection_167 : decode b_Mo_collection 167 = .ok (.iconst 0, 1) := by decide +kernel
theorem d_Mo_collection_168 : decode b_Mo_collection 168 = .ok (.aload_n 0, 1) := by decide +kernel
theorem d_Mo_collection_169 : decode b_Mo_collection 169 = .ok (.getfield 262, 3) := by decide +kernel
theorem d_Mo_collection_172 : decode b_Mo_collection 172 = .ok (.getfield 569, 3) := by decide +kernel
theorem d_Mo_collection_175 : decode b_Mo_collection 175 = .ok (.invokevirtual 620, 3) := by decide +kernel
theorem d_Mo_collection_178 : decode b_Mo_collection 178 = .ok (.aload_n 0, 1) := by decide +kernel
theorem d_Mo_collection_179 : decode b_Mo_collection 179 = .ok (.aload_n 0, 1) := by decide +kernel
theorem d_Mo_collection_180 : decode b_Mo_collection 180 = .ok (.getfield 215, 3) := by decide +kernel
theorem d_Mo_collection_183 : decode b_Mo_collection 183 = .ok (.aload_n 0, 1) := by decide +kernel
theorem d_Mo_collection_184 : decode b_Mo_collection 184 = .ok (.getfield 218, 3) := by decide +kernel
theorem d_Mo_collection_187 : decode b_Mo_collection 187 = .ok (.invokevirtual 609, 3) := by decide +kernel
theorem d_Mo_collection_190 : decode b_Mo_collection 190 = .ok (.aload_n 0, 1) := by decide +kernel
theorem d_Mo_collection_191 : decode b_Mo_collection 191 = .ok (.aload_n 0, 1) := by decide +kernel
theorem d_Mo_collection_192 : decode b_Mo_collection 192 = .ok (.getfield 265, 3) := by decide +kernel
theorem d_Mo_collection_195 : decode b_Mo_collection 195 = .ok (.iconst 0, 1) := by decide +kernel
theorem d_Mo_collection_196 : decode b_Mo_collection 196 = .ok (.aload_n 0, 1) := by decide +kernel
theorem d_Mo_collection_197 : decode b_Mo_collection 197 = .ok (.getfield 265, 3) := by decide +kernel
theorem d_Mo_collection_200 : decode b_Mo_collection 200 = .ok (.getfield 569, 3) := by decide +kernel
theorem d_Mo_collection_203 : decode b_Mo_collection 203 = .ok (.invokevirtual 620, 3) := by decide +kernel
theorem d_Mo_collection_206 : decode b_Mo_collection 206 = .ok (.aload_n 0, 1) := by decide +kernel
theorem d_Mo_collection_207 : decode b_Mo_collection 207 = .ok (.aload_n 0, 1) := by decide +kernel
theorem d_Mo_collection_208 : decode b_Mo_collection 208 = .ok (.getfield 253, 3) := by decide +kernel
theorem d_Mo_collection_211 : decode b_Mo_collection 211 = .ok (.aload_n 0, 1) := by decide +kernel
theorem d_Mo_collection_212 : decode b_Mo_collection 212 = .ok (.getfield 256, 3) := by decide +kernel
theorem d_Mo_collection_215 : decode b_Mo_collection 215 = .ok (.invokevirtual 609, 3) := by decide +kernel
theorem d_Mo_collection_218 : decode b_Mo_collection 218 = .ok (.aload_n 0, 1) := by decide +kernel
theorem d_Mo_collection_219 : decode b_Mo_collection 219 = .ok (.getfield 231, 3) := by decide +kernel
theorem d_Mo_collection_222 : decode b_Mo_collection 222 = .ok (.ifCond .le 26, 3) := by decide +kernel
theorem d_Mo_collection_225 : decode b_Mo_collection 225 = .ok (.aload_n 0, 1) := by decide +kernel
theorem d_Mo_collection_226 : decode b_Mo_collection 226 = .ok (.aload_n 0, 1) := by decide +kernel
theorem d_Mo_collection_227 : decode b_Mo_collection 227 = .ok (.getfield 228, 3) := by decide +kernel
theorem d_Mo_collection_230 : decode b_Mo_collection 230 = .ok (.aload_n 0, 1) := by decide +kernel
theorem d_Mo_collection_231 : decode b_Mo_collection 231 = .ok (.dup, 1) := by decide +kernel
theorem d_Mo_collection_232 : decode b_Mo_collection 232 = .ok (.getfield 231, 3) := by decide +kernel
theorem d_Mo_collection_235 : decode b_Mo_collection 235 = .ok (.iconst 1, 1) := by decide +kernel
theorem d_Mo_collection_236 : decode b_Mo_collection 236 = .ok (.isub, 1) := by decide +kernel
theorem d_Mo_collection_237 : decode b_Mo_collection 237 = .ok (.dup_x1, 1) := by decide +kernel
theorem d_Mo_collection_238 : decode b_Mo_collection 238 = .ok (.putfield 231, 3) := by decide +kernel
theorem d_Mo_collection_241 : decode b_Mo_collection 241 = .ok (.iaload, 1) := by decide +kernel
theorem d_Mo_collection_242 : decode b_Mo_collection 242 = .ok (.invokevirtual 624, 3) := by decide +kernel
theorem d_Mo_collection_245 : decode b_Mo_collection 245 = .ok (.goto (-27), 3) := by decide +kernel
theorem d_Mo_collection_248 : decode b_Mo_collection 248 = .ok (.aload_n 0, 1) := by decide +kernel
theorem d_Mo_collection_249 : decode b_Mo_collection 249 = .ok (.invokevirtual 626, 3) := by decide +kernel
theorem d_Mo_collection_252 : decode b_Mo_collection 252 = .ok (.return_, 1) := by decide +kernel
theorem kw_439 : Cond.methodLink R_Mo 612 y_Arr_fill____ ∈ wA := kinm (show _ ∈ tables_1 from (List.mem_append_right _ (List.mem_append_right _ (List.mem_append_right _ (List.mem_append_right _ (List.mem_append_right _ (List.mem_append_right _ (List.mem_append_right _ (List.mem_append_right _ (List.mem_append_right _ (List.mem_append_right _ (List.mem_append_right _ (List.mem_append_left _ (List.mem_of_getElem? (l := tables_1_12) (i := 5) (by decide +kernel))))))))))))))) (by decide +kernel)
theorem kw_440 : Cond.fieldLink R_Mo 250 "LuaMachineModel" "globals" "I" ∈ wA := kinm (show _ ∈ tables_1 from (List.mem_append_right _ (List.mem_append_right _ (List.mem_append_right _ (List.mem_append_right _ (List.mem_append_right _ (List.mem_append_right _ (List.mem_append_right _ (List.mem_append_right _ (List.mem_append_right _ (List.mem_append_left _ (List.mem_of_getElem? (l := tables_1_10) (i := 130) (by decide +kernel))))))))))))) (by decide +kernel)
theorem kw_441 : Cond.fieldLink R_Mo 234 "LuaMachineModel" "hand" "LLuaMachineModel$Values;" ∈ wA := kinm (show _ ∈ tables_1 from (List.mem_append_right _ (List.mem_append_right _ (List.mem_append_right _ (List.mem_append_right _ (List.mem_append_right _ (List.mem_append_right _ (List.mem_append_right _ (List.mem_append_right _ (List.mem_append_right _ (List.mem_append_left _ (List.mem_of_getElem? (l := tables_1_10) (i := 126) (by decide +kernel))))))))))))) (by decide +kernel)
theorem kw_442 : Cond.methodLink R_Mo 620 y_Mo_markRow ∈ wA := kinm (show _ ∈ tables_1 from (List.mem_append_right _ (List.mem_append_right _ (List.mem_append_right _ (List.mem_append_right _ (List.mem_append_right _ (List.mem_append_right _ (List.mem_append_right _ (List.mem_append_right _ (List.mem_append_right _ (List.mem_append_right _ (List.mem_append_right _ (List.mem_append_left _ (List.mem_of_getElem? (l := tables_1_12) (i := 12) (by decide +kernel))))))))))))))) (by decide +kernel)
theorem kw_443 : Cond.methodLink R_Mo 624 y_Mo_follow ∈ wA := kinm (show _ ∈ tables_1 from (List.mem_append_right _ (List.mem_append_right _ (List.mem_append_right _ (List.mem_append_right _ (List.mem_append_right _ (List.mem_append_right _ (List.mem_append_right _ (List.mem_append_right _ (List.mem_append_right _ (List.mem_append_right _ (List.mem_append_right _ (List.mem_append_left _ (List.mem_of_getElem? (l := tables_1_12) (i := 20) (by decide +kernel))))))))))))))) (by decide +kernel)
theorem kw_444 : Cond.methodLink R_Mo 626 y_Mo_sweep ∈ wA := kinm (show _ ∈ tables_1 from (List.mem_append_right _ (List.mem_append_right _ (List.mem_append_right _ (List.mem_append_right _ (List.mem_append_right _ (List.mem_append_right _ (List.mem_append_right _ (List.mem_append_right _ (List.mem_append_right _ (List.mem_append_right _ (List.mem_append_right _ (List.mem_append_left _ (List.mem_of_getElem? (l := tables_1_12) (i := 34) (by decide +kernel))))))))))))))) (by decide +kernel)
theorem kw_445 : Cond.instanceMethod y_Mo_collection ∈ wA := kinm (show _ ∈ tables_1 from (List.mem_append_right _ (List.mem_append_right _ (List.mem_append_right _ (List.mem_append_right _ (List.mem_append_right _ (List.mem_append_right _ (List.mem_append_right _ (List.mem_append_right _ (List.mem_append_right _ (List.mem_append_right _ (List.mem_append_right _ (List.mem_append_left _ (List.mem_of_getElem? (l := tables_1_12) (i := 3) (by decide +kernel))))))))))))))) (by decide +kernel)
theorem kw_446 : Cond.selects R_Mo y_Mo_collection y_Mo_collection ∈ wA := kinp 129 (by decide +kernel) (by decide +kernel)
theorem cv_Mo_collection : CV y_Mo_collection b_Mo_collection 2 none 0 := ⟨kw_445, kw_446, kw_17, k_Mo_collection, by decide +kernel⟩
theorem j_Mo_collection_j61 {X : Cx} {q : PL} (g : Gd X y_Mo_collection b_Mo_collection 2 none 5 112 R_Mo) {o : ((Int32) ⊕ ((Unit))) × S1} (hR : (Sum.elim (fun y : Int32 => ∀ ls : Array Slot, lv_has ls 2 [(0, .ref (q.1 0 0)), (1, .int y)] → WW X q o.2 30 ls []) (fun y : Unit => ∀ ls : Array Slot, lv_has ls 2 [(0, .ref (q.1 0 0))] → WW X q o.2 67 ls []) o.1)) (l1 : Int32) (s : S1) (ls : Array Slot) (hl : lv_has ls 2 [(0, .ref (q.1 0 0)), (1, .int l1)]) (h : M_Mo_collection_j61 l1 s = some o) : WW X q s 61 ls [] := by
  unfold M_Mo_collection_j61 at h
  refine ww_iinc (pc := 61) g.1 (v := l1 + 1) (lv' := [(1, .int (l1 + 1)), (0, .ref (q.1 0 0))]) d_Mo_collection_61 hl (k := 1) rfl (by rfl) (by decide) rfl fun ls hl => ?_
  refine ww_goto (pc := 64) (tgt := 30) g.1 d_Mo_collection_64 (by decide) ?_
  rw [oR_eq h] at hR
  exact hR ls (lv_sub hl [1, 0] rfl)

theorem lp_Mo_collection_L30 {X : Cx} {q : PL} (g : Gd X y_Mo_collection b_Mo_collection 2 none 5 112 R_Mo) (x : Int32) (s : S1) (o : ((Int32) ⊕ ((Unit))) × S1) (h : M_Mo_collection_L30 x s = some o) (hR : (Sum.elim (fun y : Int32 => ∀ ls : Array Slot, lv_has ls 2 [(0, .ref (q.1 0 0)), (1, .int y)] → WW X q o.2 30 ls []) (fun y : Unit => ∀ ls : Array Slot, lv_has ls 2 [(0, .ref (q.1 0 0))] → WW X q o.2 67 ls []) o.1)) : ∀ ls : Array Slot, lv_has ls 2 [(0, .ref (q.1 0 0)), (1, .int x)] → WW X q s 30 ls [] := by
  intro ls hl
  unfold M_Mo_collection_L30 at h
  refine ww_iload_n (pc := 30) g.1 d_Mo_collection_30 rfl (lv_at hl 1 rfl) ?_
  refine ww_aload_n (pc := 31) g.1 d_Mo_collection_31 rfl (lv_at hl 0 rfl) ?_
  refine ww_gI (pc := 32) g (k := 40) cl_Mo (pz rfl (by decide)) (by decide) (Or.inl kw_109) (f := 40) rfl rfl d_Mo_collection_32 h fun v32 h => ?_
  refine ww_icmp_ge (pc := 35) (tgt := 67) g.1 d_Mo_collection_35 (by decide) h (fun c h => ?_) (fun c h => ?_)
  · rw [oR_eq h] at hR
    exact hR ls (lv_sub hl [0] rfl)
  · refine ww_aload_n (pc := 38) g.1 d_Mo_collection_38 rfl (lv_at hl 0 rfl) ?_
    refine ww_gR (pc := 39) g (k := 45) cl_Mo (pz rfl (by decide)) (by decide) (Or.inl kw_110) (f := 45) (t := 58) rfl rfl rfl d_Mo_collection_39 ?_
    refine ww_iload_n (pc := 42) g.1 d_Mo_collection_42 rfl (lv_at hl 1 rfl) ?_
    refine ww_ab (pc := 43) g (pz rfl (by decide)) rfl rfl d_Mo_collection_43 h fun v43 h => ?_
    refine ww_if_eq (pc := 44) (tgt := 61) g.1 d_Mo_collection_44 (by decide) h (fun c h => ?_) (fun c h => ?_)
    · exact j_Mo_collection_j61 g hR x s ls (lv_sub hl [0, 1] rfl) h
    · refine ww_aload_n (pc := 47) g.1 d_Mo_collection_47 rfl (lv_at hl 0 rfl) ?_
      refine ww_gR (pc := 48) g (k := 47) cl_Mo (pz rfl (by decide)) (by decide) (Or.inl kw_111) (f := 47) (t := 60) rfl rfl rfl d_Mo_collection_48 ?_
      refine ww_iload_n (pc := 51) g.1 d_Mo_collection_51 rfl (lv_at hl 1 rfl) ?_
      refine ww_az (pc := 52) g (pz rfl (by decide)) rfl rfl d_Mo_collection_52 h fun v52 h => ?_
      refine ww_if_eq (pc := 53) (tgt := 61) g.1 d_Mo_collection_53 (by decide) h (fun c h => ?_) (fun c h => ?_)
      · exact j_Mo_collection_j61 g hR x s ls (lv_sub hl [0, 1] rfl) h
      · refine ww_aload_n (pc := 56) g.1 d_Mo_collection_56 rfl (lv_at hl 0 rfl) ?_
        refine ww_iload_n (pc := 57) g.1 d_Mo_collection_57 rfl (lv_at hl 1 rfl) ?_
        obtain ⟨v58, s, hc58, h⟩ := oB_of h
        refine ww_callV (pc := 58) (rest := []) g cv_Mo_place (Or.inl kw_84) cl_Mo (pz rfl (by decide)) (ct_Mo_place hc58) ⟨by decide, by decide⟩ rfl hl.1 (Nat.le_of_ble_eq_true rfl) d_Mo_collection_58 rfl ?_
        refine ww_st (st' := []) rfl ?_
        exact j_Mo_collection_j61 g hR x s ls (lv_sub hl [0, 1] rfl) h

theorem lp_Mo_collection_L104 {X : Cx} {q : PL} (g : Gd X y_Mo_collection b_Mo_collection 2 none 5 112 R_Mo) (x : Int32) (s : S1) (o : ((Int32) ⊕ ((Unit))) × S1) (h : M_Mo_collection_L104 x s = some o) (hR : (Sum.elim (fun y : Int32 => ∀ ls : Array Slot, lv_has ls 2 [(0, .ref (q.1 0 0)), (1, vr q 28 y)] → WW X q o.2 104 ls []) (fun y : Unit => ∀ ls : Array Slot, lv_has ls 2 [(0, .ref (q.1 0 0))] → WW X q o.2 130 ls []) o.1)) : ∀ ls : Array Slot, lv_has ls 2 [(0, .ref (q.1 0 0)), (1, vr q 28 x)] → WW X q s 104 ls [] := by
  intro ls hl
  unfold M_Mo_collection_L104 at h
  refine ww_aload_nV (pc := 104) g.1 vr_cases d_Mo_collection_104 rfl (lv_at hl 1 rfl) ?_
  refine ww_ok h fun cn104 h => ?_
  refine ww_nn cn104 ?_
  refine ww_gV (pc := 105) g (k := 6) cl_Th (pt rfl rfl cn104) (by decide) (Or.inl kw_218) (f := 3590) (t := 28) rfl rfl rfl d_Mo_collection_105 h fun v105 h => ?_
  refine ww_ifnullV (pc := 108) (tgt := 130) g.1 d_Mo_collection_108 (by decide) h (fun c h => ?_) (fun c h => ?_)
  · rw [oR_eq h] at hR
    exact hR ls (lv_sub hl [0] rfl)
  · refine ww_aload_n (pc := 111) g.1 d_Mo_collection_111 rfl (lv_at hl 0 rfl) ?_
    refine ww_aload_nV (pc := 112) g.1 vr_cases d_Mo_collection_112 rfl (lv_at hl 1 rfl) ?_
    refine ww_ok h fun cn112 h => ?_
    refine ww_nn cn112 ?_
    refine ww_gV (pc := 113) g (k := 6) cl_Th (pt rfl rfl cn112) (by decide) (Or.inl kw_218) (f := 3590) (t := 28) rfl rfl rfl d_Mo_collection_113 h fun v113 h => ?_
    refine ww_ok h fun cn113 h => ?_
    refine ww_nn cn113 ?_
    refine ww_gI (pc := 116) g (k := 0) cl_Th (pt rfl rfl cn113) (by decide) (Or.inl kw_216) (f := 3584) rfl rfl d_Mo_collection_116 h fun v116 h => ?_
    obtain ⟨v119, s, hc119, h⟩ := oB_of h
    refine ww_callV (pc := 119) (rest := []) g cv_Mo_place (Or.inl kw_84) cl_Mo (pz rfl (by decide)) (ct_Mo_place hc119) ⟨by decide, by decide⟩ rfl hl.1 (Nat.le_of_ble_eq_true rfl) d_Mo_collection_119 rfl ?_
    refine ww_st (st' := []) rfl ?_
    refine ww_aload_nV (pc := 122) g.1 vr_cases d_Mo_collection_122 rfl (lv_at hl 1 rfl) ?_
    refine ww_ok h fun cn122 h => ?_
    refine ww_nn cn122 ?_
    refine ww_gV (pc := 123) g (k := 6) cl_Th (pt rfl rfl cn122) (by decide) (Or.inl kw_218) (f := 3590) (t := 28) rfl rfl rfl d_Mo_collection_123 h fun v123 h => ?_
    refine ww_astore_nV (pc := 126) (i := 1) g.1 vr_cases (lv' := [(1, vr q 28 v123), (0, .ref (q.1 0 0))]) d_Mo_collection_126 rfl hl (by decide) rfl fun ls hl => ?_
    refine ww_goto (pc := 127) (tgt := 104) g.1 d_Mo_collection_127 (by decide) ?_
    rw [oR_eq h] at hR
    exact hR ls (lv_sub hl [1, 0] rfl)

theorem lp_Mo_collection_L218 {X : Cx} {q : PL} (g : Gd X y_Mo_collection b_Mo_collection 2 none 5 112 R_Mo) (x : Unit) (s : S1) (o : ((Unit) ⊕ ((Unit))) × S1) (h : M_Mo_collection_L218 x s = some o) (hR : (Sum.elim (fun y : Unit => ∀ ls : Array Slot, lv_has ls 2 [(0, .ref (q.1 0 0))] → WW X q o.2 218 ls []) (fun y : Unit => ∀ ls : Array Slot, lv_has ls 2 [(0, .ref (q.1 0 0))] → WW X q o.2 248 ls []) o.1)) : ∀ ls : Array Slot, lv_has ls 2 [(0, .ref (q.1 0 0))] → WW X q s 218 ls [] := by
  intro ls hl
  unfold M_Mo_collection_L218 at h
  refine ww_aload_n (pc := 218) g.1 d_Mo_collection_218 rfl (lv_at hl 0 rfl) ?_
  refine ww_gI (pc := 219) g (k := 69) cl_Mo (pz rfl (by decide)) (by decide) (Or.inl kw_81) (f := 69) rfl rfl d_Mo_collection_219 h fun v219 h => ?_
  refine ww_if_le (pc := 222) (tgt := 248) g.1 d_Mo_collection_222 (by decide) h (fun c h => ?_) (fun c h => ?_)
  · rw [oR_eq h] at hR
    exact hR ls (lv_sub hl [0] rfl)
  · refine ww_aload_n (pc := 225) g.1 d_Mo_collection_225 rfl (lv_at hl 0 rfl) ?_
    refine ww_aload_n (pc := 226) g.1 d_Mo_collection_226 rfl (lv_at hl 0 rfl) ?_
    refine ww_gR (pc := 227) g (k := 68) cl_Mo (pz rfl (by decide)) (by decide) (Or.inl kw_80) (f := 68) (t := 75) rfl rfl rfl d_Mo_collection_227 ?_
    refine ww_aload_n (pc := 230) g.1 d_Mo_collection_230 rfl (lv_at hl 0 rfl) ?_
    refine ww_dup (pc := 231) g.1 d_Mo_collection_231 rfl ?_
    refine ww_gI (pc := 232) g (k := 69) cl_Mo (pz rfl (by decide)) (by decide) (Or.inl kw_81) (f := 69) rfl rfl d_Mo_collection_232 h fun v232 h => ?_
    refine ww_iconst (pc := 235) g.1 (v := 1) d_Mo_collection_235 (by decide) ?_
    refine ww_isub (pc := 236) g.1 d_Mo_collection_236 ?_
    refine ww_dup_x1 (pc := 237) g.1 d_Mo_collection_237 rfl rfl ?_
    refine ww_pI (pc := 238) g (k := 69) cl_Mo (pz rfl (by decide)) (by decide) (Or.inl kw_81) rfl (f := 69) rfl rfl rfl rfl d_Mo_collection_238 h fun s hs h => ?_
    refine ww_ai (pc := 241) g (pz rfl (by decide)) rfl rfl d_Mo_collection_241 h fun v241 h => ?_
    obtain ⟨v242, s, hc242, h⟩ := oB_of h
    refine ww_callV (pc := 242) (rest := []) g cv_Mo_follow (Or.inl kw_443) cl_Mo (pz rfl (by decide)) (ct_Mo_follow hc242) ⟨by decide, by decide⟩ rfl hl.1 (Nat.le_of_ble_eq_true rfl) d_Mo_collection_242 rfl ?_
    refine ww_st (st' := []) rfl ?_
    refine ww_goto (pc := 245) (tgt := 218) g.1 d_Mo_collection_245 (by decide) ?_
    rw [oR_eq h] at hR
    exact hR ls (lv_sub hl [0] rfl)

theorem ct_Mo_collection {l : Launch} {P : PP} {q : PL} {s s' : S1}  {r : Unit} (h : M_Mo_collection s = some (r, s')) : Ct l y_Mo_collection b_Mo_collection 2 none 5 112 P q s [.ref (q.1 0 0)] none q s' := by
  refine ct_of (by decide) (Nat.le_of_ble_eq_true rfl) fun X ls eP el g hR hl => ?_
  subst eP
  have hR : Rt X q ((r, s') : Unit × S1).2 none := hR
  have hl : lv_has ls 2 [(0, .ref (q.1 0 0))] := hl
  generalize (r, s') = o at h hR
  unfold M_Mo_collection at h
  refine ww_aload_n (pc := 0) g.1 d_Mo_collection_0 rfl (lv_at hl 0 rfl) ?_
  refine ww_dup (pc := 1) g.1 d_Mo_collection_1 rfl ?_
  refine ww_gI (pc := 2) g (k := 35) cl_Mo (pz rfl (by decide)) (by decide) (Or.inl kw_298) (f := 35) rfl rfl d_Mo_collection_2 h fun v2 h => ?_
  refine ww_iconst (pc := 5) g.1 (v := 1) d_Mo_collection_5 (by decide) ?_
  refine ww_iadd (pc := 6) g.1 d_Mo_collection_6 ?_
  refine ww_pI (pc := 7) g (k := 35) cl_Mo (pz rfl (by decide)) (by decide) (Or.inl kw_298) rfl (f := 35) rfl rfl rfl rfl d_Mo_collection_7 h fun s hs h => ?_
  refine ww_aload_n (pc := 10) g.1 d_Mo_collection_10 rfl (lv_at hl 0 rfl) ?_
  refine ww_gR (pc := 11) g (k := 46) cl_Mo (pz rfl (by decide)) (by decide) (Or.inl kw_79) (f := 46) (t := 59) rfl rfl rfl d_Mo_collection_11 ?_
  refine ww_iconst (pc := 14) g.1 (v := 0) d_Mo_collection_14 (by decide) ?_
  refine ww_aload_n (pc := 15) g.1 d_Mo_collection_15 rfl (lv_at hl 0 rfl) ?_
  refine ww_gI (pc := 16) g (k := 40) cl_Mo (pz rfl (by decide)) (by decide) (Or.inl kw_109) (f := 40) rfl rfl d_Mo_collection_16 h fun v16 h => ?_
  refine ww_iconst (pc := 19) g.1 (v := 0) d_Mo_collection_19 (by decide) ?_
  obtain ⟨v20, s, hc20, h⟩ := oB_of h
  refine ww_callS (pc := 20) (rest := []) g cs_Arr_fill____ (Or.inl kw_439) (ct_Arr_fill____ ⟨rfl, by decide, by decide⟩ (pz rfl (by decide)) hc20) ⟨by decide, by decide⟩ rfl hl.1 (Nat.le_of_ble_eq_true rfl) d_Mo_collection_20 rfl ?_
  refine ww_st (st' := []) rfl ?_
  refine ww_aload_n (pc := 23) g.1 d_Mo_collection_23 rfl (lv_at hl 0 rfl) ?_
  refine ww_iconst (pc := 24) g.1 (v := 0) d_Mo_collection_24 (by decide) ?_
  refine ww_pI (pc := 25) g (k := 69) cl_Mo (pz rfl (by decide)) (by decide) (Or.inl kw_81) rfl (f := 69) rfl rfl rfl rfl d_Mo_collection_25 h fun s hs h => ?_
  refine ww_iconst (pc := 28) g.1 (v := 0) d_Mo_collection_28 (by decide) ?_
  refine ww_istore_n (pc := 29) (i := 1) g.1 (lv' := [(1, .int 0), (0, .ref (q.1 0 0))]) d_Mo_collection_29 rfl hl (by decide) rfl fun ls hl => ?_
  obtain ⟨e30, s1, hw, h⟩ := oB_of h
  refine oW_rule (Wh := fun (x : Int32) (s : S1) => ∀ ls : Array Slot, lv_has ls 2 [(0, .ref (q.1 0 0)), (1, .int x)] → WW X q s 30 ls []) (We := fun (e : (Unit)) (s : S1) => ∀ ls : Array Slot, lv_has ls 2 [(0, .ref (q.1 0 0))] → WW X q s 67 ls []) (fun x s o hb hc => lp_Mo_collection_L30 (q := q) g x s o hb hc) hw ?_ ls (lv_sub hl [1, 0] rfl)
  clear hw hl
  clear ls
  intro ls hl
  generalize s1 = s at h ⊢
  refine ww_aload_n (pc := 67) g.1 d_Mo_collection_67 rfl (lv_at hl 0 rfl) ?_
  refine ww_aload_n (pc := 68) g.1 d_Mo_collection_68 rfl (lv_at hl 0 rfl) ?_
  refine ww_gI (pc := 69) g (k := 74) cl_Mo (pz rfl (by decide)) (by decide) (Or.inl kw_440) (f := 74) rfl rfl d_Mo_collection_69 h fun v69 h => ?_
  obtain ⟨v72, s, hc72, h⟩ := oB_of h
  refine ww_callV (pc := 72) (rest := []) g cv_Mo_place (Or.inl kw_84) cl_Mo (pz rfl (by decide)) (ct_Mo_place hc72) ⟨by decide, by decide⟩ rfl hl.1 (Nat.le_of_ble_eq_true rfl) d_Mo_collection_72 rfl ?_
  refine ww_st (st' := []) rfl ?_
  refine ww_aload_n (pc := 75) g.1 d_Mo_collection_75 rfl (lv_at hl 0 rfl) ?_
  refine ww_aload_n (pc := 76) g.1 d_Mo_collection_76 rfl (lv_at hl 0 rfl) ?_
  refine ww_gR (pc := 77) g (k := 71) cl_Mo (pz rfl (by decide)) (by decide) (Or.inl kw_88) (f := 71) (t := 76) rfl rfl rfl d_Mo_collection_77 ?_
  refine ww_iconst (pc := 80) g.1 (v := 0) d_Mo_collection_80 (by decide) ?_
  refine ww_at (pc := 81) g (t := 28) (pz rfl (by decide)) rfl rfl rfl d_Mo_collection_81 h fun ca81 h => ?_
  refine ww_gI (pc := 82) g (k := 0) cl_Th (pt rfl rfl ca81) (by decide) (Or.inl kw_216) (f := 3584) rfl rfl d_Mo_collection_82 h fun v82 h => ?_
  obtain ⟨v85, s, hc85, h⟩ := oB_of h
  refine ww_callV (pc := 85) (rest := []) g cv_Mo_place (Or.inl kw_84) cl_Mo (pz rfl (by decide)) (ct_Mo_place hc85) ⟨by decide, by decide⟩ rfl hl.1 (Nat.le_of_ble_eq_true rfl) d_Mo_collection_85 rfl ?_
  refine ww_st (st' := []) rfl ?_
  refine ww_aload_n (pc := 88) g.1 d_Mo_collection_88 rfl (lv_at hl 0 rfl) ?_
  refine ww_aload_n (pc := 89) g.1 d_Mo_collection_89 rfl (lv_at hl 0 rfl) ?_
  refine ww_gV (pc := 90) g (k := 72) cl_Mo (pz rfl (by decide)) (by decide) (Or.inl kw_150) (f := 72) (t := 28) rfl rfl rfl d_Mo_collection_90 h fun v90 h => ?_
  refine ww_ok h fun cn90 h => ?_
  refine ww_nn cn90 ?_
  refine ww_gI (pc := 93) g (k := 0) cl_Th (pt rfl rfl cn90) (by decide) (Or.inl kw_216) (f := 3584) rfl rfl d_Mo_collection_93 h fun v93 h => ?_
  obtain ⟨v96, s, hc96, h⟩ := oB_of h
  refine ww_callV (pc := 96) (rest := []) g cv_Mo_place (Or.inl kw_84) cl_Mo (pz rfl (by decide)) (ct_Mo_place hc96) ⟨by decide, by decide⟩ rfl hl.1 (Nat.le_of_ble_eq_true rfl) d_Mo_collection_96 rfl ?_
  refine ww_st (st' := []) rfl ?_
  refine ww_aload_n (pc := 99) g.1 d_Mo_collection_99 rfl (lv_at hl 0 rfl) ?_
  refine ww_gV (pc := 100) g (k := 72) cl_Mo (pz rfl (by decide)) (by decide) (Or.inl kw_150) (f := 72) (t := 28) rfl rfl rfl d_Mo_collection_100 h fun v100 h => ?_
  refine ww_astore_nV (pc := 103) (i := 1) g.1 vr_cases (lv' := [(1, vr q 28 v100), (0, .ref (q.1 0 0))]) d_Mo_collection_103 rfl hl (by decide) rfl fun ls hl => ?_
  obtain ⟨e104, s1, hw, h⟩ := oB_of h
  refine oW_rule (Wh := fun (x : Int32) (s : S1) => ∀ ls : Array Slot, lv_has ls 2 [(0, .ref (q.1 0 0)), (1, vr q 28 x)] → WW X q s 104 ls []) (We := fun (e : (Unit)) (s : S1) => ∀ ls : Array Slot, lv_has ls 2 [(0, .ref (q.1 0 0))] → WW X q s 130 ls []) (fun x s o hb hc => lp_Mo_collection_L104 (q := q) g x s o hb hc) hw ?_ ls (lv_sub hl [1, 0] rfl)
  clear hw hl
  clear ls
  intro ls hl
  generalize s1 = s at h ⊢
  refine ww_aload_n (pc := 130) g.1 d_Mo_collection_130 rfl (lv_at hl 0 rfl) ?_
  refine ww_aload_n (pc := 131) g.1 d_Mo_collection_131 rfl (lv_at hl 0 rfl) ?_
  refine ww_gR (pc := 132) g (k := 70) cl_Mo (pz rfl (by decide)) (by decide) (Or.inl kw_441) (f := 70) (t := 16) rfl rfl rfl d_Mo_collection_132 ?_
  refine ww_iconst (pc := 135) g.1 (v := 0) d_Mo_collection_135 (by decide) ?_
  refine ww_aload_n (pc := 136) g.1 d_Mo_collection_136 rfl (lv_at hl 0 rfl) ?_
  refine ww_gR (pc := 137) g (k := 70) cl_Mo (pz rfl (by decide)) (by decide) (Or.inl kw_441) (f := 70) (t := 16) rfl rfl rfl d_Mo_collection_137 ?_
  refine ww_gI (pc := 140) g (k := 2) (cl_Va (Or.inl ⟨by decide, rfl⟩)) (pz rfl (by decide)) (by decide) (Or.inl kw_179) (f := 2050) rfl rfl d_Mo_collection_140 h fun v140 h => ?_
  obtain ⟨v143, s, hc143, h⟩ := oB_of h
  refine ww_callV (pc := 143) (rest := []) g cv_Mo_markRow (Or.inl kw_442) cl_Mo (pz rfl (by decide)) (ct_Mo_markRow (Or.inl ⟨by decide, rfl⟩) hc143) ⟨by decide, by decide⟩ rfl hl.1 (Nat.le_of_ble_eq_true rfl) d_Mo_collection_143 rfl ?_
  refine ww_st (st' := []) rfl ?_
  refine ww_aload_n (pc := 146) g.1 d_Mo_collection_146 rfl (lv_at hl 0 rfl) ?_
  refine ww_aload_n (pc := 147) g.1 d_Mo_collection_147 rfl (lv_at hl 0 rfl) ?_
  refine ww_gR (pc := 148) g (k := 77) cl_Mo (pz rfl (by decide)) (by decide) (Or.inl kw_182) (f := 77) (t := 7) rfl rfl rfl d_Mo_collection_148 ?_
  refine ww_iconst (pc := 151) g.1 (v := 0) d_Mo_collection_151 (by decide) ?_
  refine ww_aload_n (pc := 152) g.1 d_Mo_collection_152 rfl (lv_at hl 0 rfl) ?_
  refine ww_gR (pc := 153) g (k := 77) cl_Mo (pz rfl (by decide)) (by decide) (Or.inl kw_182) (f := 77) (t := 7) rfl rfl rfl d_Mo_collection_153 ?_
  refine ww_gI (pc := 156) g (k := 2) (cl_Va (Or.inl ⟨by decide, rfl⟩)) (pz rfl (by decide)) (by decide) (Or.inl kw_179) (f := 898) rfl rfl d_Mo_collection_156 h fun v156 h => ?_
  obtain ⟨v159, s, hc159, h⟩ := oB_of h
  refine ww_callV (pc := 159) (rest := []) g cv_Mo_markRow (Or.inl kw_442) cl_Mo (pz rfl (by decide)) (ct_Mo_markRow (Or.inl ⟨by decide, rfl⟩) hc159) ⟨by decide, by decide⟩ rfl hl.1 (Nat.le_of_ble_eq_true rfl) d_Mo_collection_159 rfl ?_
  refine ww_st (st' := []) rfl ?_
  refine ww_aload_n (pc := 162) g.1 d_Mo_collection_162 rfl (lv_at hl 0 rfl) ?_
  refine ww_aload_n (pc := 163) g.1 d_Mo_collection_163 rfl (lv_at hl 0 rfl) ?_
  refine ww_gR (pc := 164) g (k := 78) cl_Mo (pz rfl (by decide)) (by decide) (Or.inl kw_178) (f := 78) (t := 10) rfl rfl rfl d_Mo_collection_164 ?_
  refine ww_iconst (pc := 167) g.1 (v := 0) d_Mo_collection_167 (by decide) ?_
  refine ww_aload_n (pc := 168) g.1 d_Mo_collection_168 rfl (lv_at hl 0 rfl) ?_
  refine ww_gR (pc := 169) g (k := 78) cl_Mo (pz rfl (by decide)) (by decide) (Or.inl kw_178) (f := 78) (t := 10) rfl rfl rfl d_Mo_collection_169 ?_
  refine ww_gI (pc := 172) g (k := 2) (cl_Va (Or.inl ⟨by decide, rfl⟩)) (pz rfl (by decide)) (by decide) (Or.inl kw_179) (f := 1282) rfl rfl d_Mo_collection_172 h fun v172 h => ?_
  obtain ⟨v175, s, hc175, h⟩ := oB_of h
  refine ww_callV (pc := 175) (rest := []) g cv_Mo_markRow (Or.inl kw_442) cl_Mo (pz rfl (by decide)) (ct_Mo_markRow (Or.inl ⟨by decide, rfl⟩) hc175) ⟨by decide, by decide⟩ rfl hl.1 (Nat.le_of_ble_eq_true rfl) d_Mo_collection_175 rfl ?_
  refine ww_st (st' := []) rfl ?_
  refine ww_aload_n (pc := 178) g.1 d_Mo_collection_178 rfl (lv_at hl 0 rfl) ?_
  refine ww_aload_n (pc := 179) g.1 d_Mo_collection_179 rfl (lv_at hl 0 rfl) ?_
  refine ww_gI (pc := 180) g (k := 64) cl_Mo (pz rfl (by decide)) (by decide) (Or.inl kw_73) (f := 64) rfl rfl d_Mo_collection_180 h fun v180 h => ?_
  refine ww_aload_n (pc := 183) g.1 d_Mo_collection_183 rfl (lv_at hl 0 rfl) ?_
  refine ww_gL (pc := 184) g (k := 65) cl_Mo (pz rfl (by decide)) (by decide) (Or.inl kw_74) (f := 65) rfl rfl d_Mo_collection_184 h fun v184 h => ?_
  obtain ⟨v187, s, hc187, h⟩ := oB_of h
  refine ww_callV (pc := 187) (rest := []) g cv_Mo_mark (Or.inl kw_320) cl_Mo (pz rfl (by decide)) (ct_Mo_mark hc187) ⟨by decide, by decide⟩ rfl hl.1 (Nat.le_of_ble_eq_true rfl) d_Mo_collection_187 rfl ?_
  refine ww_st (st' := []) rfl ?_
  refine ww_aload_n (pc := 190) g.1 d_Mo_collection_190 rfl (lv_at hl 0 rfl) ?_
  refine ww_aload_n (pc := 191) g.1 d_Mo_collection_191 rfl (lv_at hl 0 rfl) ?_
  refine ww_gR (pc := 192) g (k := 79) cl_Mo (pz rfl (by decide)) (by decide) (Or.inl kw_233) (f := 79) (t := 13) rfl rfl rfl d_Mo_collection_192 ?_
  refine ww_iconst (pc := 195) g.1 (v := 0) d_Mo_collection_195 (by decide) ?_
  refine ww_aload_n (pc := 196) g.1 d_Mo_collection_196 rfl (lv_at hl 0 rfl) ?_
  refine ww_gR (pc := 197) g (k := 79) cl_Mo (pz rfl (by decide)) (by decide) (Or.inl kw_233) (f := 79) (t := 13) rfl rfl rfl d_Mo_collection_197 ?_
  refine ww_gI (pc := 200) g (k := 2) (cl_Va (Or.inl ⟨by decide, rfl⟩)) (pz rfl (by decide)) (by decide) (Or.inl kw_179) (f := 1666) rfl rfl d_Mo_collection_200 h fun v200 h => ?_
  obtain ⟨v203, s, hc203, h⟩ := oB_of h
  refine ww_callV (pc := 203) (rest := []) g cv_Mo_markRow (Or.inl kw_442) cl_Mo (pz rfl (by decide)) (ct_Mo_markRow (Or.inl ⟨by decide, rfl⟩) hc203) ⟨by decide, by decide⟩ rfl hl.1 (Nat.le_of_ble_eq_true rfl) d_Mo_collection_203 rfl ?_
  refine ww_st (st' := []) rfl ?_
  refine ww_aload_n (pc := 206) g.1 d_Mo_collection_206 rfl (lv_at hl 0 rfl) ?_
  refine ww_aload_n (pc := 207) g.1 d_Mo_collection_207 rfl (lv_at hl 0 rfl) ?_
  refine ww_gI (pc := 208) g (k := 75) cl_Mo (pz rfl (by decide)) (by decide) (Or.inl kw_192) (f := 75) rfl rfl d_Mo_collection_208 h fun v208 h => ?_
  refine ww_aload_n (pc := 211) g.1 d_Mo_collection_211 rfl (lv_at hl 0 rfl) ?_
  refine ww_gL (pc := 212) g (k := 76) cl_Mo (pz rfl (by decide)) (by decide) (Or.inl kw_194) (f := 76) rfl rfl d_Mo_collection_212 h fun v212 h => ?_
  obtain ⟨v215, s, hc215, h⟩ := oB_of h
  refine ww_callV (pc := 215) (rest := []) g cv_Mo_mark (Or.inl kw_320) cl_Mo (pz rfl (by decide)) (ct_Mo_mark hc215) ⟨by decide, by decide⟩ rfl hl.1 (Nat.le_of_ble_eq_true rfl) d_Mo_collection_215 rfl ?_
  refine ww_st (st' := []) rfl ?_
  obtain ⟨e218, s1, hw, h⟩ := oB_of h
  refine oW_rule (Wh := fun (x : Unit) (s : S1) => ∀ ls : Array Slot, lv_has ls 2 [(0, .ref (q.1 0 0))] → WW X q s 218 ls []) (We := fun (e : (Unit)) (s : S1) => ∀ ls : Array Slot, lv_has ls 2 [(0, .ref (q.1 0 0))] → WW X q s 248 ls []) (fun x s o hb hc => lp_Mo_collection_L218 (q := q) g x s o hb hc) hw ?_ ls (lv_sub hl [0] rfl)
  clear hw hl
  clear ls
  intro ls hl
  generalize s1 = s at h ⊢
  refine ww_aload_n (pc := 248) g.1 d_Mo_collection_248 rfl (lv_at hl 0 rfl) ?_
  obtain ⟨v249, s, hc249, h⟩ := oB_of h
  refine ww_callV (pc := 249) (rest := []) g cv_Mo_sweep (Or.inl kw_444) cl_Mo (pz rfl (by decide)) (ct_Mo_sweep hc249) ⟨by decide, by decide⟩ rfl hl.1 (Nat.le_of_ble_eq_true rfl) d_Mo_collection_249 rfl ?_
  refine ww_st (st' := []) rfl ?_
  exact ww_vretH (pc := 252) g h hR d_Mo_collection_252

abbrev b_Mo_grow : ByteArray := prog_14_method_38_code
def y_Mo_grow : MethodName := ⟨R_Mo, "grow", "(I)Z"⟩
abbrev w_Mo_grow : List Cond := .code y_Mo_grow b_Mo_grow 4 (some .boolean) :: wA
theorem k_Mo_grow : Cond.code y_Mo_grow b_Mo_grow 4 (some .boolean) ∈ wA := kinm (show _ ∈ tables_1 from (List.mem_append_right _ (List.mem_append_right _ (List.mem_append_right _ (List.mem_append_right _ (List.mem_append_right _ (List.mem_append_right _ (List.mem_append_right _ (List.mem_append_right _ (List.mem_append_right _ (List.mem_append_right _ (List.mem_append_right _ (List.mem_append_left _ (List.mem_of_getElem? (l := tables_1_12) (i := 111) (by decide +kernel))))))))))))))) (by decide +kernel)
theorem d_Mo_grow_0 : decode b_Mo_grow 0 = .ok (.aload_n 0, 1) := by decide +kernel
theorem d_Mo_grow_1 : decode b_Mo_grow 1 = .ok (.getfield 171, 3) := by decide +kernel
theorem d_Mo_grow_4 : decode b_Mo_grow 4 = .ok (.iload_n 1, 1) := by decide +kernel
theorem d_Mo_grow_5 : decode b_Mo_grow 5 = .ok (.iaload, 1) := by decide +kernel
theorem d_Mo_grow_6 : decode b_Mo_grow 6 = .ok (.ifCond .ne 7, 3) := by decide +kernel
theorem d_Mo_grow_9 : decode b_Mo_grow 9 = .ok (.iconst 4, 1) := by decide +kernel
theorem d_Mo_grow_10 : decode b_Mo_grow 10 = .ok (.goto 11, 3) := by decide +kernel
theorem d_Mo_grow_13 : decode b_Mo_grow 13 = .ok (.iconst 2, 1) := by decide +kernel
theorem d_Mo_grow_14 : decode b_Mo_grow 14 = .ok (.aload_n 0, 1) := by decide +kernel
theorem d_Mo_grow_15 : decode b_Mo_grow 15 = .ok (.getfield 171, 3) := by decide +kernel
theorem d_Mo_grow_18 : decode b_Mo_grow 18 = .ok (.iload_n 1, 1) := by decide +kernel
theorem d_Mo_grow_19 : decode b_Mo_grow 19 = .ok (.iaload, 1) := by decide +kernel
theorem d_Mo_grow_20 : decode b_Mo_grow 20 = .ok (.imul, 1) := by decide +kernel
theorem d_Mo_grow_21 : decode b_Mo_grow 21 = .ok (.istore_n 2, 1) := by decide +kernel
theorem d_Mo_grow_22 : decode b_Mo_grow 22 = .ok (.aload_n 0, 1) := by decide +kernel
theorem d_Mo_grow_23 : decode b_Mo_grow 23 = .ok (.getfield 149, 3) := by decide +kernel
theorem d_Mo_grow_26 : decode b_Mo_grow 26 = .ok (.iload_n 2, 1) := by decide +kernel
theorem d_Mo_grow_27 : decode b_Mo_grow 27 = .ok (.iadd, 1) := by decide +kernel
theorem d_Mo_grow_28 : decode b_Mo_grow 28 = .ok (.ldc_w 579, 3) := by decide +kernel
theorem d_Mo_grow_31 : decode b_Mo_grow 31 = .ok (.if_icmp .le 12, 3) := by decide +kernel
theorem d_Mo_grow_34 : decode b_Mo_grow 34 = .ok (.aload_n 0, 1) := by decide +kernel
theorem d_Mo_grow_35 : decode b_Mo_grow 35 = .ok (.bipush 11, 2) := by decide +kernel
theorem d_Mo_grow_37 : decode b_Mo_grow 37 = .ok (.invokevirtual 517, 3) := by decide +kernel
theorem d_Mo_grow_40 : decode b_Mo_grow 40 = .ok (.pop, 1) := by decide +kernel
theorem d_Mo_grow_41 : decode b_Mo_grow 41 = .ok (.iconst 0, 1) := by decide +kernel
theorem d_Mo_grow_42 : decode b_Mo_grow 42 = .ok (.ireturn, 1) := by decide +kernel
theorem d_Mo_grow_43 : decode b_Mo_grow 43 = .ok (.aload_n 0, 1) := by decide +kernel
theorem d_Mo_grow_44 : decode b_Mo_grow 44 = .ok (.getfield 128, 3) := by decide +kernel
theorem d_Mo_grow_47 : decode b_Mo_grow 47 = .ok (.iload_n 2, 1) := by decide +kernel
theorem d_Mo_grow_48 : decode b_Mo_grow 48 = .ok (.iadd, 1) := by decide +kernel
theorem d_Mo_grow_49 : decode b_Mo_grow 49 = .ok (.ldc_w 580, 3) := by decide +kernel
theorem d_Mo_grow_52 : decode b_Mo_grow 52 = .ok (.if_icmp .le 7, 3) := by decide +kernel
theorem d_Mo_grow_55 : decode b_Mo_grow 55 = .ok (.aload_n 0, 1) := by decide +kernel
theorem d_Mo_grow_56 : decode b_Mo_grow 56 = .ok (.invokevirtual 520, 3) := by decide +kernel
theorem d_Mo_grow_59 : decode b_Mo_grow 59 = .ok (.aload_n 0, 1) := by decide +kernel
theorem d_Mo_grow_60 : decode b_Mo_grow 60 = .ok (.getfield 128, 3) := by decide +kernel
theorem d_Mo_grow_63 : decode b_Mo_grow 63 = .ok (.iload_n 2, 1) := by decide +kernel
theorem d_Mo_grow_64 : decode b_Mo_grow 64 = .ok (.iadd, 1) := by decide +kernel
theorem d_Mo_grow_65 : decode b_Mo_grow 65 = .ok (.ldc_w 580, 3) := by decide +kernel
theorem d_Mo_grow_68 : decode b_Mo_grow 68 = .ok (.if_icmp .le 12, 3) := by decide +kernel
theorem d_Mo_grow_71 : decode b_Mo_grow 71 = .ok (.aload_n 0, 1) := by decide +kernel
theorem d_Mo_grow_72 : decode b_Mo_grow 72 = .ok (.bipush 10, 2) := by decide +kernel
theorem d_Mo_grow_74 : decode b_Mo_grow 74 = .ok (.invokevirtual 517, 3) := by decide +kernel
theorem d_Mo_grow_77 : decode b_Mo_grow 77 = .ok (.pop, 1) := by decide +kernel
theorem d_Mo_grow_78 : decode b_Mo_grow 78 = .ok (.iconst 0, 1) := by decide +kernel
theorem d_Mo_grow_79 : decode b_Mo_grow 79 = .ok (.ireturn, 1) := by decide +kernel
theorem d_Mo_grow_80 : decode b_Mo_grow 80 = .ok (.aload_n 0, 1) := by decide +kernel
theorem d_Mo_grow_81 : decode b_Mo_grow 81 = .ok (.dup, 1) := by decide +kernel
theorem d_Mo_grow_82 : decode b_Mo_grow 82 = .ok (.getfield 131, 3) := by decide +kernel
theorem d_Mo_grow_85 : decode b_Mo_grow 85 = .ok (.iload_n 2, 1) := by decide +kernel
theorem d_Mo_grow_86 : decode b_Mo_grow 86 = .ok (.iadd, 1) := by decide +kernel
theorem d_Mo_grow_87 : decode b_Mo_grow 87 = .ok (.putfield 131, 3) := by decide +kernel
theorem d_Mo_grow_90 : decode b_Mo_grow 90 = .ok (.aload_n 0, 1) := by decide +kernel
theorem d_Mo_grow_91 : decode b_Mo_grow 91 = .ok (.dup, 1) := by decide +kernel
theorem d_Mo_grow_92 : decode b_Mo_grow 92 = .ok (.getfield 149, 3) := by decide +kernel
theorem d_Mo_grow_95 : decode b_Mo_grow 95 = .ok (.iload_n 2, 1) := by decide +kernel
theorem d_Mo_grow_96 : decode b_Mo_grow 96 = .ok (.iadd, 1) := by decide +kernel
theorem d_Mo_grow_97 : decode b_Mo_grow 97 = .ok (.putfield 149, 3) := by decide +kernel
theorem d_Mo_grow_100 : decode b_Mo_grow 100 = .ok (.aload_n 0, 1) := by decide +kernel
theorem d_Mo_grow_101 : decode b_Mo_grow 101 = .ok (.dup, 1) := by decide +kernel
theorem d_Mo_grow_102 : decode b_Mo_grow 102 = .ok (.getfield 128, 3) := by decide +kernel
theorem d_Mo_grow_105 : decode b_Mo_grow 105 = .ok (.iload_n 2, 1) := by decide +kernel
theorem d_Mo_grow_106 : decode b_Mo_grow 106 = .ok (.aload_n 0, 1) := by decide +kernel
theorem d_Mo_grow_107 : decode b_Mo_grow 107 = .ok (.getfield 171, 3) := by decide +kernel
theorem d_Mo_grow_110 : decode b_Mo_grow 110 = .ok (.iload_n 1, 1) := by decide +kernel
theorem d_Mo_grow_111 : decode b_Mo_grow 111 = .ok (.iaload, 1) := by decide +kernel
theorem d_Mo_grow_112 : decode b_Mo_grow 112 = .ok (.isub, 1) := by decide +kernel
theorem d_Mo_grow_113 : decode b_Mo_grow 113 = .ok (.iadd, 1) := by decide +kernel
theorem d_Mo_grow_114 : decode b_Mo_grow 114 = .ok (.putfield 128, 3) := by decide +kernel
theorem d_Mo_grow_117 : decode b_Mo_grow 117 = .ok (.aload_n 0, 1) := by decide +kernel
theorem d_Mo_grow_118 : decode b_Mo_grow 118 = .ok (.getfield 143, 3) := by decide +kernel
theorem d_Mo_grow_121 : decode b_Mo_grow 121 = .ok (.istore_n 3, 1) := by decide +kernel
theorem d_Mo_grow_122 : decode b_Mo_grow 122 = .ok (.aload_n 0, 1) := by decide +kernel
theorem d_Mo_grow_123 : decode b_Mo_grow 123 = .ok (.dup, 1) := by decide +kernel
theorem d_Mo_grow_124 : decode b_Mo_grow 124 = .ok (.getfield 143, 3) := by decide +kernel
theorem d_Mo_grow_127 : decode b_Mo_grow 127 = .ok (.iload_n 2, 1) := by decide +kernel
theorem d_Mo_grow_128 : decode b_Mo_grow 128 = .ok (.iadd, 1) := by decide +kernel
theorem d_Mo_grow_129 : decode b_Mo_grow 129 = .ok (.putfield 143, 3) := by decide +kernel
theorem d_Mo_grow_132 : decode b_Mo_grow 132 = .ok (.aload_n 0, 1) := by decide +kernel
theorem d_Mo_grow_133 : decode b_Mo_grow 133 = .ok (.iload_n 1, 1) := by decide +kernel
theorem d_Mo_grow_134 : decode b_Mo_grow 134 = .ok (.iload_n 3, 1) := by decide +kernel
theorem d_Mo_grow_135 : decode b_Mo_grow 135 = .ok (.iload_n 2, 1) := by decide +kernel
theorem d_Mo_grow_136 : decode b_Mo_grow 136 = .ok (.invokevirtual 565, 3) := by decide +kernel
theorem d_Mo_grow_139 : decode b_Mo_grow 139 = .ok (.iconst 1, 1) := by decide +kernel
theorem d_Mo_grow_140 : decode b_Mo_grow 140 = .ok (.ireturn, 1) := by decide +kernel
theorem kw_447 : Cond.constant R_Mo 579 300000 ∈ wA := kinm (show _ ∈ tables_1 from (List.mem_append_right _ (List.mem_append_right _ (List.mem_append_right _ (List.mem_append_right _ (List.mem_append_right _ (List.mem_append_right _ (List.mem_append_right _ (List.mem_append_right _ (List.mem_append_right _ (List.mem_append_right _ (List.mem_append_left _ (List.mem_of_getElem? (l := tables_1_11) (i := 219) (by decide +kernel)))))))))))))) (by decide +kernel)
theorem kw_448 : Cond.constant R_Mo 580 40000 ∈ wA := kinm (show _ ∈ tables_1 from (List.mem_append_right _ (List.mem_append_right _ (List.mem_append_right _ (List.mem_append_right _ (List.mem_append_right _ (List.mem_append_right _ (List.mem_append_right _ (List.mem_append_right _ (List.mem_append_right _ (List.mem_append_right _ (List.mem_append_right _ (List.mem_append_left _ (List.mem_of_getElem? (l := tables_1_12) (i := 112) (by decide +kernel))))))))))))))) (by decide +kernel)
theorem kw_449 : Cond.fieldLink R_Mo 149 "LuaMachineModel" "roomAll" "I" ∈ wA := kinm (show _ ∈ tables_1 from (List.mem_append_right _ (List.mem_append_right _ (List.mem_append_right _ (List.mem_append_right _ (List.mem_append_right _ (List.mem_append_right _ (List.mem_append_right _ (List.mem_append_right _ (List.mem_append_right _ (List.mem_append_left _ (List.mem_of_getElem? (l := tables_1_10) (i := 98) (by decide +kernel))))))))))))) (by decide +kernel)
theorem kw_450 : Cond.fieldLink R_Mo 143 "LuaMachineModel" "entryTop" "I" ∈ wA := kinm (show _ ∈ tables_1 from (List.mem_append_right _ (List.mem_append_right _ (List.mem_append_right _ (List.mem_append_right _ (List.mem_append_right _ (List.mem_append_right _ (List.mem_append_right _ (List.mem_append_right _ (List.mem_append_right _ (List.mem_append_left _ (List.mem_of_getElem? (l := tables_1_10) (i := 96) (by decide +kernel))))))))))))) (by decide +kernel)
theorem kw_451 : Cond.methodLink R_Mo 565 y_Mo_move ∈ wA := kinm (show _ ∈ tables_1 from (List.mem_append_right _ (List.mem_append_right _ (List.mem_append_right _ (List.mem_append_right _ (List.mem_append_right _ (List.mem_append_right _ (List.mem_append_right _ (List.mem_append_right _ (List.mem_append_right _ (List.mem_append_right _ (List.mem_append_right _ (List.mem_append_left _ (List.mem_of_getElem? (l := tables_1_12) (i := 95) (by decide +kernel))))))))))))))) (by decide +kernel)
theorem kw_452 : Cond.methodLink R_Mo 520 y_Mo_collection ∈ wA := kinm (show _ ∈ tables_1 from (List.mem_append_right _ (List.mem_append_right _ (List.mem_append_right _ (List.mem_append_right _ (List.mem_append_right _ (List.mem_append_right _ (List.mem_append_right _ (List.mem_append_right _ (List.mem_append_right _ (List.mem_append_right _ (List.mem_append_right _ (List.mem_append_left _ (List.mem_of_getElem? (l := tables_1_12) (i := 1) (by decide +kernel))))))))))))))) (by decide +kernel)
theorem kw_453 : Cond.instanceMethod y_Mo_grow ∈ wA := kinm (show _ ∈ tables_1 from (List.mem_append_right _ (List.mem_append_right _ (List.mem_append_right _ (List.mem_append_right _ (List.mem_append_right _ (List.mem_append_right _ (List.mem_append_right _ (List.mem_append_right _ (List.mem_append_right _ (List.mem_append_right _ (List.mem_append_right _ (List.mem_append_left _ (List.mem_of_getElem? (l := tables_1_12) (i := 110) (by decide +kernel))))))))))))))) (by decide +kernel)
theorem kw_454 : Cond.selects R_Mo y_Mo_grow y_Mo_grow ∈ wA := kinp 151 (by decide +kernel) (by decide +kernel)
theorem cv_Mo_grow : CV y_Mo_grow b_Mo_grow 4 (some .boolean) 1 := ⟨kw_453, kw_454, kw_17, k_Mo_grow, by decide +kernel⟩
theorem j_Mo_grow_j59 {X : Cx} {q : PL} (g : Gd X y_Mo_grow b_Mo_grow 4 (some .boolean) 6 133 R_Mo) {o : (Int32) × S1} (hR : Rt X q o.2 (some (.int o.1))) (l1 : Int32) (l2 : Int32) (s : S1) (ls : Array Slot) (hl : lv_has ls 4 [(0, .ref (q.1 0 0)), (1, .int l1), (2, .int l2)]) (h : M_Mo_grow_j59 l1 l2 s = some o) : WW X q s 59 ls [] := by
  unfold M_Mo_grow_j59 at h
  refine ww_aload_n (pc := 59) g.1 d_Mo_grow_59 rfl (lv_at hl 0 rfl) ?_
  refine ww_gI (pc := 60) g (k := 36) cl_Mo (pz rfl (by decide)) (by decide) (Or.inl kw_299) (f := 36) rfl rfl d_Mo_grow_60 h fun v60 h => ?_
  refine ww_iload_n (pc := 63) g.1 d_Mo_grow_63 rfl (lv_at hl 2 rfl) ?_
  refine ww_iadd (pc := 64) g.1 d_Mo_grow_64 ?_
  refine ww_ldcw (pc := 65) g (v := 40000) kw_448 d_Mo_grow_65 ?_
  refine ww_icmp_le (pc := 68) (tgt := 80) g.1 d_Mo_grow_68 (by decide) h (fun c h => ?_) (fun c h => ?_)
  · refine ww_aload_n (pc := 80) g.1 d_Mo_grow_80 rfl (lv_at hl 0 rfl) ?_
    refine ww_dup (pc := 81) g.1 d_Mo_grow_81 rfl ?_
    refine ww_gI (pc := 82) g (k := 37) cl_Mo (pz rfl (by decide)) (by decide) (Or.inl kw_300) (f := 37) rfl rfl d_Mo_grow_82 h fun v82 h => ?_
    refine ww_iload_n (pc := 85) g.1 d_Mo_grow_85 rfl (lv_at hl 2 rfl) ?_
    refine ww_iadd (pc := 86) g.1 d_Mo_grow_86 ?_
    refine ww_pI (pc := 87) g (k := 37) cl_Mo (pz rfl (by decide)) (by decide) (Or.inl kw_300) rfl (f := 37) rfl rfl rfl rfl d_Mo_grow_87 h fun s hs h => ?_
    refine ww_aload_n (pc := 90) g.1 d_Mo_grow_90 rfl (lv_at hl 0 rfl) ?_
    refine ww_dup (pc := 91) g.1 d_Mo_grow_91 rfl ?_
    refine ww_gI (pc := 92) g (k := 43) cl_Mo (pz rfl (by decide)) (by decide) (Or.inl kw_449) (f := 43) rfl rfl d_Mo_grow_92 h fun v92 h => ?_
    refine ww_iload_n (pc := 95) g.1 d_Mo_grow_95 rfl (lv_at hl 2 rfl) ?_
    refine ww_iadd (pc := 96) g.1 d_Mo_grow_96 ?_
    refine ww_pI (pc := 97) g (k := 43) cl_Mo (pz rfl (by decide)) (by decide) (Or.inl kw_449) rfl (f := 43) rfl rfl rfl rfl d_Mo_grow_97 h fun s hs h => ?_
    refine ww_aload_n (pc := 100) g.1 d_Mo_grow_100 rfl (lv_at hl 0 rfl) ?_
    refine ww_dup (pc := 101) g.1 d_Mo_grow_101 rfl ?_
    refine ww_gI (pc := 102) g (k := 36) cl_Mo (pz rfl (by decide)) (by decide) (Or.inl kw_299) (f := 36) rfl rfl d_Mo_grow_102 h fun v102 h => ?_
    refine ww_iload_n (pc := 105) g.1 d_Mo_grow_105 rfl (lv_at hl 2 rfl) ?_
    refine ww_aload_n (pc := 106) g.1 d_Mo_grow_106 rfl (lv_at hl 0 rfl) ?_
    refine ww_gR (pc := 107) g (k := 50) cl_Mo (pz rfl (by decide)) (by decide) (Or.inl kw_91) (f := 50) (t := 63) rfl rfl rfl d_Mo_grow_107 ?_
    refine ww_iload_n (pc := 110) g.1 d_Mo_grow_110 rfl (lv_at hl 1 rfl) ?_
    refine ww_ai (pc := 111) g (pz rfl (by decide)) rfl rfl d_Mo_grow_111 h fun v111 h => ?_
    refine ww_isub (pc := 112) g.1 d_Mo_grow_112 ?_
    refine ww_iadd (pc := 113) g.1 d_Mo_grow_113 ?_
    refine ww_pI (pc := 114) g (k := 36) cl_Mo (pz rfl (by decide)) (by decide) (Or.inl kw_299) rfl (f := 36) rfl rfl rfl rfl d_Mo_grow_114 h fun s hs h => ?_
    refine ww_aload_n (pc := 117) g.1 d_Mo_grow_117 rfl (lv_at hl 0 rfl) ?_
    refine ww_gI (pc := 118) g (k := 41) cl_Mo (pz rfl (by decide)) (by decide) (Or.inl kw_450) (f := 41) rfl rfl d_Mo_grow_118 h fun v118 h => ?_
    refine ww_istore_n (pc := 121) (i := 3) g.1 (lv' := [(3, .int v118), (0, .ref (q.1 0 0)), (1, .int l1), (2, .int l2)]) d_Mo_grow_121 rfl hl (by decide) rfl fun ls hl => ?_
    refine ww_aload_n (pc := 122) g.1 d_Mo_grow_122 rfl (lv_at hl 1 rfl) ?_
    refine ww_dup (pc := 123) g.1 d_Mo_grow_123 rfl ?_
    refine ww_gI (pc := 124) g (k := 41) cl_Mo (pz rfl (by decide)) (by decide) (Or.inl kw_450) (f := 41) rfl rfl d_Mo_grow_124 h fun v124 h => ?_
    refine ww_iload_n (pc := 127) g.1 d_Mo_grow_127 rfl (lv_at hl 3 rfl) ?_
    refine ww_iadd (pc := 128) g.1 d_Mo_grow_128 ?_
    refine ww_pI (pc := 129) g (k := 41) cl_Mo (pz rfl (by decide)) (by decide) (Or.inl kw_450) rfl (f := 41) rfl rfl rfl rfl d_Mo_grow_129 h fun s hs h => ?_
    refine ww_aload_n (pc := 132) g.1 d_Mo_grow_132 rfl (lv_at hl 1 rfl) ?_
    refine ww_iload_n (pc := 133) g.1 d_Mo_grow_133 rfl (lv_at hl 2 rfl) ?_
    refine ww_iload_n (pc := 134) g.1 d_Mo_grow_134 rfl (lv_at hl 0 rfl) ?_
    refine ww_iload_n (pc := 135) g.1 d_Mo_grow_135 rfl (lv_at hl 3 rfl) ?_
    obtain ⟨v136, s, hc136, h⟩ := oB_of h
    refine ww_callV (pc := 136) (rest := []) g cv_Mo_move (Or.inl kw_451) cl_Mo (pz rfl (by decide)) (ct_Mo_move hc136) ⟨by decide, by decide⟩ rfl hl.1 (Nat.le_of_ble_eq_true rfl) d_Mo_grow_136 rfl ?_
    refine ww_st (st' := []) rfl ?_
    refine ww_iconst (pc := 139) g.1 (v := 1) d_Mo_grow_139 (by decide) ?_
    exact ww_zretH (pc := 140) g h hR (Or.inr rfl) d_Mo_grow_140
  · refine ww_aload_n (pc := 71) g.1 d_Mo_grow_71 rfl (lv_at hl 0 rfl) ?_
    refine ww_bipush (pc := 72) g.1 (v := 10) d_Mo_grow_72 (by decide) ?_
    obtain ⟨v74, s, hc74, h⟩ := oB_of h
    refine ww_callV (pc := 74) (rest := []) g cv_Mo_raise (Or.inl kw_157) cl_Mo (pz rfl (by decide)) (ct_Mo_raise hc74) ⟨by decide, by decide⟩ rfl hl.1 (Nat.le_of_ble_eq_true rfl) d_Mo_grow_74 rfl ?_
    refine ww_st (st' := [.int v74]) rfl ?_
    refine ww_pop (pc := 77) g.1 d_Mo_grow_77 rfl ?_
    refine ww_iconst (pc := 78) g.1 (v := 0) d_Mo_grow_78 (by decide) ?_
    exact ww_zretH (pc := 79) g h hR (Or.inl rfl) d_Mo_grow_79

theorem j_Mo_grow_j21 {X : Cx} {q : PL} (g : Gd X y_Mo_grow b_Mo_grow 4 (some .boolean) 6 133 R_Mo) {o : (Int32) × S1} (hR : Rt X q o.2 (some (.int o.1))) (l1 : Int32) (k0 : Int32) (s : S1) (ls : Array Slot) (hl : lv_has ls 4 [(0, .ref (q.1 0 0)), (1, .int l1)]) (h : M_Mo_grow_j21 l1 k0 s = some o) : WW X q s 21 ls [.int k0] := by
  unfold M_Mo_grow_j21 at h
  refine ww_istore_n (pc := 21) (i := 2) g.1 (lv' := [(2, .int k0), (0, .ref (q.1 0 0)), (1, .int l1)]) d_Mo_grow_21 rfl hl (by decide) rfl fun ls hl => ?_
  refine ww_aload_n (pc := 22) g.1 d_Mo_grow_22 rfl (lv_at hl 1 rfl) ?_
  refine ww_gI (pc := 23) g (k := 43) cl_Mo (pz rfl (by decide)) (by decide) (Or.inl kw_449) (f := 43) rfl rfl d_Mo_grow_23 h fun v23 h => ?_
  refine ww_iload_n (pc := 26) g.1 d_Mo_grow_26 rfl (lv_at hl 0 rfl) ?_
  refine ww_iadd (pc := 27) g.1 d_Mo_grow_27 ?_
  refine ww_ldcw (pc := 28) g (v := 300000) kw_447 d_Mo_grow_28 ?_
  refine ww_icmp_le (pc := 31) (tgt := 43) g.1 d_Mo_grow_31 (by decide) h (fun c h => ?_) (fun c h => ?_)
  · refine ww_aload_n (pc := 43) g.1 d_Mo_grow_43 rfl (lv_at hl 1 rfl) ?_
    refine ww_gI (pc := 44) g (k := 36) cl_Mo (pz rfl (by decide)) (by decide) (Or.inl kw_299) (f := 36) rfl rfl d_Mo_grow_44 h fun v44 h => ?_
    refine ww_iload_n (pc := 47) g.1 d_Mo_grow_47 rfl (lv_at hl 0 rfl) ?_
    refine ww_iadd (pc := 48) g.1 d_Mo_grow_48 ?_
    refine ww_ldcw (pc := 49) g (v := 40000) kw_448 d_Mo_grow_49 ?_
    refine ww_icmp_le (pc := 52) (tgt := 59) g.1 d_Mo_grow_52 (by decide) h (fun c h => ?_) (fun c h => ?_)
    · exact j_Mo_grow_j59 g hR l1 k0 s ls (lv_sub hl [1, 2, 0] rfl) h
    · refine ww_aload_n (pc := 55) g.1 d_Mo_grow_55 rfl (lv_at hl 1 rfl) ?_
      obtain ⟨v56, s, hc56, h⟩ := oB_of h
      refine ww_callV (pc := 56) (rest := []) g cv_Mo_collection (Or.inl kw_452) cl_Mo (pz rfl (by decide)) (ct_Mo_collection hc56) ⟨by decide, by decide⟩ rfl hl.1 (Nat.le_of_ble_eq_true rfl) d_Mo_grow_56 rfl ?_
      refine ww_st (st' := []) rfl ?_
      exact j_Mo_grow_j59 g hR l1 k0 s ls (lv_sub hl [1, 2, 0] rfl) h
  · refine ww_aload_n (pc := 34) g.1 d_Mo_grow_34 rfl (lv_at hl 1 rfl) ?_
    refine ww_bipush (pc := 35) g.1 (v := 11) d_Mo_grow_35 (by decide) ?_
    obtain ⟨v37, s, hc37, h⟩ := oB_of h
    refine ww_callV (pc := 37) (rest := []) g cv_Mo_raise (Or.inl kw_157) cl_Mo (pz rfl (by decide)) (ct_Mo_raise hc37) ⟨by decide, by decide⟩ rfl hl.1 (Nat.le_of_ble_eq_true rfl) d_Mo_grow_37 rfl ?_
    refine ww_st (st' := [.int v37]) rfl ?_
    refine ww_pop (pc := 40) g.1 d_Mo_grow_40 rfl ?_
    refine ww_iconst (pc := 41) g.1 (v := 0) d_Mo_grow_41 (by decide) ?_
    exact ww_zretH (pc := 42) g h hR (Or.inl rfl) d_Mo_grow_42

theorem ct_Mo_grow {l : Launch} {P : PP} {q : PL} {s s' : S1} {l1 : Int32} {r : Int32} (h : M_Mo_grow l1 s = some (r, s')) : Ct l y_Mo_grow b_Mo_grow 4 (some .boolean) 6 133 P q s [.ref (q.1 0 0), .int l1] (some (.int r)) q s' := by
  refine ct_of (by decide) (Nat.le_of_ble_eq_true rfl) fun X ls eP el g hR hl => ?_
  subst eP
  have hR : Rt X q ((r, s') : Int32 × S1).2 (some (.int ((r, s') : Int32 × S1).1)) := hR
  have hl : lv_has ls 4 [(0, .ref (q.1 0 0)), (1, .int l1)] := hl
  generalize (r, s') = o at h hR
  unfold M_Mo_grow at h
  refine ww_aload_n (pc := 0) g.1 d_Mo_grow_0 rfl (lv_at hl 0 rfl) ?_
  refine ww_gR (pc := 1) g (k := 50) cl_Mo (pz rfl (by decide)) (by decide) (Or.inl kw_91) (f := 50) (t := 63) rfl rfl rfl d_Mo_grow_1 ?_
  refine ww_iload_n (pc := 4) g.1 d_Mo_grow_4 rfl (lv_at hl 1 rfl) ?_
  refine ww_ai (pc := 5) g (pz rfl (by decide)) rfl rfl d_Mo_grow_5 h fun v5 h => ?_
  refine ww_if_ne (pc := 6) (tgt := 13) g.1 d_Mo_grow_6 (by decide) h (fun c h => ?_) (fun c h => ?_)
  · refine ww_iconst (pc := 13) g.1 (v := 2) d_Mo_grow_13 (by decide) ?_
    refine ww_aload_n (pc := 14) g.1 d_Mo_grow_14 rfl (lv_at hl 0 rfl) ?_
    refine ww_gR (pc := 15) g (k := 50) cl_Mo (pz rfl (by decide)) (by decide) (Or.inl kw_91) (f := 50) (t := 63) rfl rfl rfl d_Mo_grow_15 ?_
    refine ww_iload_n (pc := 18) g.1 d_Mo_grow_18 rfl (lv_at hl 1 rfl) ?_
    refine ww_ai (pc := 19) g (pz rfl (by decide)) rfl rfl d_Mo_grow_19 h fun v19 h => ?_
    refine ww_imul (pc := 20) g.1 d_Mo_grow_20 ?_
    exact j_Mo_grow_j21 g hR l1 (2 * v19) s ls (lv_sub hl [0, 1] rfl) h
  · refine ww_iconst (pc := 9) g.1 (v := 4) d_Mo_grow_9 (by decide) ?_
    refine ww_goto (pc := 10) (tgt := 21) g.1 d_Mo_grow_10 (by decide) ?_
    exact j_Mo_grow_j21 g hR l1 4 s ls (lv_sub hl [0, 1] rfl) h


