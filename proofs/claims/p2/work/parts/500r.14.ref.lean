abbrev b_Mo_leave : ByteArray := prog_14_method_78_code
def y_Mo_leave : MethodName := ⟨R_Mo, "leave", "(LLuaMachineModel$Thread_;I)V"⟩
abbrev w_Mo_leave : List Cond := .code y_Mo_leave b_Mo_leave 4 none :: wA
theorem k_Mo_leave : Cond.code y_Mo_leave b_Mo_leave 4 none ∈ wA := kinm (show _ ∈ tables_1 from (List.mem_append_right _ (List.mem_append_right _ (List.mem_append_right _ (List.mem_append_right _ (List.mem_append_right _ (List.mem_append_right _ (List.mem_append_right _ (List.mem_append_right _ (List.mem_append_right _ (List.mem_append_right _ (List.mem_append_right _ (List.mem_append_right _ (List.mem_append_left _ (List.mem_of_getElem? (l := tables_1_13) (i := 118) (by decide +kernel)))))))))))))))) (by decide +kernel)
theorem d_Mo_leave_0 : decode b_Mo_leave 0 = .ok (.iload_n 2, 1) := by decide +kernel
theorem d_Mo_leave_1 : decode b_Mo_leave 1 = .ok (.istore_n 3, 1) := by decide +kernel
theorem d_Mo_leave_2 : decode b_Mo_leave 2 = .ok (.iload_n 3, 1) := by decide +kernel
theorem d_Mo_leave_3 : decode b_Mo_leave 3 = .ok (.aload_n 1, 1) := by decide +kernel
theorem d_Mo_leave_4 : decode b_Mo_leave 4 = .ok (.getfield 730, 3) := by decide +kernel
theorem d_Mo_leave_7 : decode b_Mo_leave 7 = .ok (.if_icmp .ge 33, 3) := by decide +kernel
theorem d_Mo_leave_10 : decode b_Mo_leave 10 = .ok (.aload_n 1, 1) := by decide +kernel
theorem d_Mo_leave_11 : decode b_Mo_leave 11 = .ok (.getfield 733, 3) := by decide +kernel
theorem d_Mo_leave_14 : decode b_Mo_leave 14 = .ok (.iload_n 3, 1) := by decide +kernel
theorem d_Mo_leave_15 : decode b_Mo_leave 15 = .ok (.iaload, 1) := by decide +kernel
theorem d_Mo_leave_16 : decode b_Mo_leave 16 = .ok (.ifCond .eq 6, 3) := by decide +kernel
theorem d_Mo_leave_19 : decode b_Mo_leave 19 = .ok (.goto 15, 3) := by decide +kernel
theorem d_Mo_leave_22 : decode b_Mo_leave 22 = .ok (.aload_n 0, 1) := by decide +kernel
theorem d_Mo_leave_23 : decode b_Mo_leave 23 = .ok (.aload_n 1, 1) := by decide +kernel
theorem d_Mo_leave_24 : decode b_Mo_leave 24 = .ok (.aload_n 1, 1) := by decide +kernel
theorem d_Mo_leave_25 : decode b_Mo_leave 25 = .ok (.getfield 744, 3) := by decide +kernel
theorem d_Mo_leave_28 : decode b_Mo_leave 28 = .ok (.iload_n 3, 1) := by decide +kernel
theorem d_Mo_leave_29 : decode b_Mo_leave 29 = .ok (.iaload, 1) := by decide +kernel
theorem d_Mo_leave_30 : decode b_Mo_leave 30 = .ok (.invokevirtual 789, 3) := by decide +kernel
theorem d_Mo_leave_33 : decode b_Mo_leave 33 = .ok (.return_, 1) := by decide +kernel
theorem d_Mo_leave_34 : decode b_Mo_leave 34 = .ok (.iinc 3 1, 3) := by decide +kernel
theorem d_Mo_leave_37 : decode b_Mo_leave 37 = .ok (.goto (-35), 3) := by decide +kernel
theorem d_Mo_leave_40 : decode b_Mo_leave 40 = .ok (.return_, 1) := by decide +kernel
theorem kw_374 : Cond.methodLink R_Mo 789 y_Mo_close ∈ wA := kinm (show _ ∈ tables_1 from (List.mem_append_right _ (List.mem_append_right _ (List.mem_append_right _ (List.mem_append_right _ (List.mem_append_right _ (List.mem_append_right _ (List.mem_append_right _ (List.mem_append_right _ (List.mem_append_right _ (List.mem_append_right _ (List.mem_append_right _ (List.mem_append_right _ (List.mem_append_left _ (List.mem_of_getElem? (l := tables_1_13) (i := 119) (by decide +kernel)))))))))))))))) (by decide +kernel)
theorem kw_375 : Cond.instanceMethod y_Mo_leave ∈ wA := kinm (show _ ∈ tables_1 from (List.mem_append_right _ (List.mem_append_right _ (List.mem_append_right _ (List.mem_append_right _ (List.mem_append_right _ (List.mem_append_right _ (List.mem_append_right _ (List.mem_append_right _ (List.mem_append_right _ (List.mem_append_right _ (List.mem_append_right _ (List.mem_append_right _ (List.mem_append_left _ (List.mem_of_getElem? (l := tables_1_13) (i := 117) (by decide +kernel)))))))))))))))) (by decide +kernel)
theorem kw_376 : Cond.selects R_Mo y_Mo_leave y_Mo_leave ∈ wA := kinp 200 (by decide +kernel) (by decide +kernel)
theorem cv_Mo_leave : CV y_Mo_leave b_Mo_leave 4 none 2 := ⟨kw_375, kw_376, kw_17, k_Mo_leave, by decide +kernel⟩
theorem lp_Mo_leave_L2 {X : Cx} {q : PL} (g : Gd X y_Mo_leave b_Mo_leave 4 none 3 70 R_Mo) (x : Int32 × Int32) (s : S1) (o : ((Int32 × Int32) ⊕ ((Int32 × Int32) ⊕ (Unit))) × S1) (h : M_Mo_leave_L2 x s = some o) (hR : (Sum.elim (fun y : Int32 × Int32 => ∀ ls : Array Slot, (0 ≤ y.1 ∧ y.1 < 33) → lv_has ls 4 [(0, .ref (q.1 0 0)), (1, .ref (q.1 28 y.1)), (3, .int y.2)] → WW X q o.2 2 ls []) (Sum.elim (fun y : Int32 × Int32 => ∀ ls : Array Slot, (0 ≤ y.1 ∧ y.1 < 33) → lv_has ls 4 [(0, .ref (q.1 0 0)), (1, .ref (q.1 28 y.1)), (3, .int y.2)] → WW X q o.2 22 ls []) (fun y : Unit => ∀ ls : Array Slot, lv_has ls 4 [] → WW X q o.2 40 ls [])) o.1)) : ∀ ls : Array Slot, (0 ≤ x.1 ∧ x.1 < 33) → lv_has ls 4 [(0, .ref (q.1 0 0)), (1, .ref (q.1 28 x.1)), (3, .int x.2)] → WW X q s 2 ls [] := by
  intro ls hp0 hl
  unfold M_Mo_leave_L2 at h
  refine ww_iload_n (pc := 2) g.1 d_Mo_leave_2 rfl (lv_at hl 2 rfl) ?_
  refine ww_aload_n (pc := 3) g.1 d_Mo_leave_3 rfl (lv_at hl 1 rfl) ?_
  refine ww_gI (pc := 4) g (k := 2) cl_Th (pt rfl rfl hp0) (by decide) (Or.inl kw_151) (f := 3586) rfl rfl d_Mo_leave_4 h fun v4 h => ?_
  refine ww_icmp_ge (pc := 7) (tgt := 40) g.1 d_Mo_leave_7 (by decide) h (fun c h => ?_) (fun c h => ?_)
  · rw [oR_eq h] at hR
    exact hR ls (lv_sub hl [] rfl)
  · refine ww_aload_n (pc := 10) g.1 d_Mo_leave_10 rfl (lv_at hl 1 rfl) ?_
    refine ww_gR (pc := 11) g (k := 11) cl_Th (pt rfl rfl hp0) (by decide) (Or.inl kw_152) (f := 3595) (t := 30) rfl rfl rfl d_Mo_leave_11 ?_
    refine ww_iload_n (pc := 14) g.1 d_Mo_leave_14 rfl (lv_at hl 2 rfl) ?_
    refine ww_ai (pc := 15) g (pt rfl rfl hp0) rfl rfl d_Mo_leave_15 h fun v15 h => ?_
    refine ww_if_eq (pc := 16) (tgt := 22) g.1 d_Mo_leave_16 (by decide) h (fun c h => ?_) (fun c h => ?_)
    · rw [oR_eq h] at hR
      exact hR ls hp0 (lv_sub hl [0, 1, 2] rfl)
    · refine ww_goto (pc := 19) (tgt := 34) g.1 d_Mo_leave_19 (by decide) ?_
      refine ww_iinc (pc := 34) g.1 (v := x.2 + 1) (lv' := [(3, .int (x.2 + 1)), (0, .ref (q.1 0 0)), (1, .ref (q.1 28 x.1))]) d_Mo_leave_34 hl (k := 2) rfl (by rfl) (by decide) rfl fun ls hl => ?_
      refine ww_goto (pc := 37) (tgt := 2) g.1 d_Mo_leave_37 (by decide) ?_
      rw [oR_eq h] at hR
      exact hR ls hp0 (lv_sub hl [1, 2, 0] rfl)

theorem ct_Mo_leave {l : Launch} {P : PP} {q : PL} {s s' : S1} {l1 : Int32} {l2 : Int32} (hp0 : 0 ≤ l1 ∧ l1 < 33) {r : Unit} (h : M_Mo_leave l1 l2 s = some (r, s')) : Ct l y_Mo_leave b_Mo_leave 4 none 3 70 P q s [.ref (q.1 0 0), .ref (q.1 28 l1), .int l2] none q s' := by
  refine ct_of (by decide) (Nat.le_of_ble_eq_true rfl) fun X ls eP el g hR hl => ?_
  subst eP
  have hR : Rt X q ((r, s') : Unit × S1).2 none := hR
  have hl : lv_has ls 4 [(0, .ref (q.1 0 0)), (1, .ref (q.1 28 l1)), (2, .int l2)] := hl
  generalize (r, s') = o at h hR
  unfold M_Mo_leave at h
  refine ww_iload_n (pc := 0) g.1 d_Mo_leave_0 rfl (lv_at hl 2 rfl) ?_
  refine ww_istore_n (pc := 1) (i := 3) g.1 (lv' := [(3, .int l2), (0, .ref (q.1 0 0)), (1, .ref (q.1 28 l1)), (2, .int l2)]) d_Mo_leave_1 rfl hl (by decide) rfl fun ls hl => ?_
  obtain ⟨e2, s1, hw, h⟩ := oB_of h
  refine oW_rule (Wh := fun (x : Int32 × Int32) (s : S1) => ∀ ls : Array Slot, (0 ≤ x.1 ∧ x.1 < 33) → lv_has ls 4 [(0, .ref (q.1 0 0)), (1, .ref (q.1 28 x.1)), (3, .int x.2)] → WW X q s 2 ls []) (We := fun (e : (Int32 × Int32) ⊕ (Unit)) (s : S1) => (Sum.elim (fun y : Int32 × Int32 => ∀ ls : Array Slot, (0 ≤ y.1 ∧ y.1 < 33) → lv_has ls 4 [(0, .ref (q.1 0 0)), (1, .ref (q.1 28 y.1)), (3, .int y.2)] → WW X q s 22 ls []) (fun y : Unit => ∀ ls : Array Slot, lv_has ls 4 [] → WW X q s 40 ls [])) e) (fun x s o hb hc => lp_Mo_leave_L2 (q := q) g x s o hb hc) hw ?_ ls hp0 (lv_sub hl [1, 2, 0] rfl)
  clear hw hl
  clear ls
  generalize s1 = s at h ⊢
  rcases e2 with y2_22 | y2_40
  · intro ls hq2_0 hl
    dsimp only [Sum.elim_inl, Sum.elim_inr] at h
    refine ww_aload_n (pc := 22) g.1 d_Mo_leave_22 rfl (lv_at hl 0 rfl) ?_
    refine ww_aload_n (pc := 23) g.1 d_Mo_leave_23 rfl (lv_at hl 1 rfl) ?_
    refine ww_aload_n (pc := 24) g.1 d_Mo_leave_24 rfl (lv_at hl 1 rfl) ?_
    refine ww_gR (pc := 25) g (k := 14) cl_Th (pt rfl rfl hq2_0) (by decide) (Or.inl kw_254) (f := 3598) (t := 33) rfl rfl rfl d_Mo_leave_25 ?_
    refine ww_iload_n (pc := 28) g.1 d_Mo_leave_28 rfl (lv_at hl 2 rfl) ?_
    refine ww_ai (pc := 29) g (pt rfl rfl hq2_0) rfl rfl d_Mo_leave_29 h fun v29 h => ?_
    obtain ⟨v30, s, hc30, h⟩ := oB_of h
    refine ww_callV (pc := 30) (rest := []) g cv_Mo_close (Or.inl kw_374) cl_Mo (pz rfl (by decide)) (ct_Mo_close hq2_0 hc30) ⟨by decide, by decide⟩ rfl hl.1 (Nat.le_of_ble_eq_true rfl) d_Mo_leave_30 rfl ?_
    refine ww_st (st' := []) rfl ?_
    exact ww_vretH (pc := 33) g h hR d_Mo_leave_33
  · intro ls hl
    dsimp only [Sum.elim_inl, Sum.elim_inr] at h
    exact ww_vretH (pc := 40) g h hR d_Mo_leave_40

abbrev b_Mo_halt : ByteArray := prog_14_method_79_code
def y_Mo_halt : MethodName := ⟨R_Mo, "halt", "()V"⟩
abbrev w_Mo_halt : List Cond := .code y_Mo_halt b_Mo_halt 3 none :: wA
theorem k_Mo_halt : Cond.code y_Mo_halt b_Mo_halt 3 none ∈ wA := kinm (show _ ∈ tables_1 from (List.mem_append_right _ (List.mem_append_right _ (List.mem_append_right _ (List.mem_append_right _ (List.mem_append_right _ (List.mem_append_right _ (List.mem_append_right _ (List.mem_append_right _ (List.mem_append_right _ (List.mem_append_right _ (List.mem_append_right _ (List.mem_append_right _ (List.mem_append_left _ (List.mem_of_getElem? (l := tables_1_13) (i := 126) (by decide +kernel)))))))))))))))) (by decide +kernel)
theorem d_Mo_halt_0 : decode b_Mo_halt 0 = .ok (.aload_n 0, 1) := by decide +kernel
theorem d_Mo_halt_1 : decode b_Mo_halt 1 = .ok (.iconst 0, 1) := by decide +kernel
theorem d_Mo_halt_2 : decode b_Mo_halt 2 = .ok (.putfield 247, 3) := by decide +kernel
theorem d_Mo_halt_5 : decode b_Mo_halt 5 = .ok (.aload_n 0, 1) := by decide +kernel
theorem d_Mo_halt_6 : decode b_Mo_halt 6 = .ok (.getfield 259, 3) := by decide +kernel
theorem d_Mo_halt_9 : decode b_Mo_halt 9 = .ok (.iconst 0, 1) := by decide +kernel
theorem d_Mo_halt_10 : decode b_Mo_halt 10 = .ok (.putfield 569, 3) := by decide +kernel
theorem d_Mo_halt_13 : decode b_Mo_halt 13 = .ok (.aload_n 0, 1) := by decide +kernel
theorem d_Mo_halt_14 : decode b_Mo_halt 14 = .ok (.getfield 262, 3) := by decide +kernel
theorem d_Mo_halt_17 : decode b_Mo_halt 17 = .ok (.iconst 0, 1) := by decide +kernel
theorem d_Mo_halt_18 : decode b_Mo_halt 18 = .ok (.putfield 569, 3) := by decide +kernel
theorem d_Mo_halt_21 : decode b_Mo_halt 21 = .ok (.aload_n 0, 1) := by decide +kernel
theorem d_Mo_halt_22 : decode b_Mo_halt 22 = .ok (.getfield 243, 3) := by decide +kernel
theorem d_Mo_halt_25 : decode b_Mo_halt 25 = .ok (.astore_n 1, 1) := by decide +kernel
theorem d_Mo_halt_26 : decode b_Mo_halt 26 = .ok (.aload_n 1, 1) := by decide +kernel
theorem d_Mo_halt_27 : decode b_Mo_halt 27 = .ok (.ifnull 34, 3) := by decide +kernel
theorem d_Mo_halt_30 : decode b_Mo_halt 30 = .ok (.aload_n 1, 1) := by decide +kernel
theorem d_Mo_halt_31 : decode b_Mo_halt 31 = .ok (.getfield 617, 3) := by decide +kernel
theorem d_Mo_halt_34 : decode b_Mo_halt 34 = .ok (.astore_n 2, 1) := by decide +kernel
theorem d_Mo_halt_35 : decode b_Mo_halt 35 = .ok (.aload_n 0, 1) := by decide +kernel
theorem d_Mo_halt_36 : decode b_Mo_halt 36 = .ok (.aload_n 1, 1) := by decide +kernel
theorem d_Mo_halt_37 : decode b_Mo_halt 37 = .ok (.iconst 0, 1) := by decide +kernel
theorem d_Mo_halt_38 : decode b_Mo_halt 38 = .ok (.invokevirtual 786, 3) := by decide +kernel
theorem d_Mo_halt_41 : decode b_Mo_halt 41 = .ok (.aload_n 1, 1) := by decide +kernel
theorem d_Mo_halt_42 : decode b_Mo_halt 42 = .ok (.iconst 0, 1) := by decide +kernel
theorem d_Mo_halt_43 : decode b_Mo_halt 43 = .ok (.putfield 730, 3) := by decide +kernel
theorem d_Mo_halt_46 : decode b_Mo_halt 46 = .ok (.aload_n 1, 1) := by decide +kernel
theorem d_Mo_halt_47 : decode b_Mo_halt 47 = .ok (.iconst 3, 1) := by decide +kernel
theorem d_Mo_halt_48 : decode b_Mo_halt 48 = .ok (.putfield 694, 3) := by decide +kernel
theorem d_Mo_halt_51 : decode b_Mo_halt 51 = .ok (.aload_n 1, 1) := by decide +kernel
theorem d_Mo_halt_52 : decode b_Mo_halt 52 = .ok (.aconst_null, 1) := by decide +kernel
theorem d_Mo_halt_53 : decode b_Mo_halt 53 = .ok (.putfield 617, 3) := by decide +kernel
theorem d_Mo_halt_56 : decode b_Mo_halt 56 = .ok (.aload_n 2, 1) := by decide +kernel
theorem d_Mo_halt_57 : decode b_Mo_halt 57 = .ok (.astore_n 1, 1) := by decide +kernel
theorem d_Mo_halt_58 : decode b_Mo_halt 58 = .ok (.goto (-32), 3) := by decide +kernel
theorem d_Mo_halt_61 : decode b_Mo_halt 61 = .ok (.aload_n 0, 1) := by decide +kernel
theorem d_Mo_halt_62 : decode b_Mo_halt 62 = .ok (.aload_n 0, 1) := by decide +kernel
theorem d_Mo_halt_63 : decode b_Mo_halt 63 = .ok (.getfield 239, 3) := by decide +kernel
theorem d_Mo_halt_66 : decode b_Mo_halt 66 = .ok (.iconst 0, 1) := by decide +kernel
theorem d_Mo_halt_67 : decode b_Mo_halt 67 = .ok (.aaload, 1) := by decide +kernel
theorem d_Mo_halt_68 : decode b_Mo_halt 68 = .ok (.putfield 243, 3) := by decide +kernel
theorem d_Mo_halt_71 : decode b_Mo_halt 71 = .ok (.aload_n 0, 1) := by decide +kernel
theorem d_Mo_halt_72 : decode b_Mo_halt 72 = .ok (.iconst 2, 1) := by decide +kernel
theorem d_Mo_halt_73 : decode b_Mo_halt 73 = .ok (.putfield 268, 3) := by decide +kernel
theorem d_Mo_halt_76 : decode b_Mo_halt 76 = .ok (.aload_n 0, 1) := by decide +kernel
theorem d_Mo_halt_77 : decode b_Mo_halt 77 = .ok (.getfield 265, 3) := by decide +kernel
theorem d_Mo_halt_80 : decode b_Mo_halt 80 = .ok (.iconst 0, 1) := by decide +kernel
theorem d_Mo_halt_81 : decode b_Mo_halt 81 = .ok (.putfield 569, 3) := by decide +kernel
theorem d_Mo_halt_84 : decode b_Mo_halt 84 = .ok (.aload_n 0, 1) := by decide +kernel
theorem d_Mo_halt_85 : decode b_Mo_halt 85 = .ok (.getfield 265, 3) := by decide +kernel
theorem d_Mo_halt_88 : decode b_Mo_halt 88 = .ok (.aload_n 0, 1) := by decide +kernel
theorem d_Mo_halt_89 : decode b_Mo_halt 89 = .ok (.getfield 215, 3) := by decide +kernel
theorem d_Mo_halt_92 : decode b_Mo_halt 92 = .ok (.aload_n 0, 1) := by decide +kernel
theorem d_Mo_halt_93 : decode b_Mo_halt 93 = .ok (.getfield 218, 3) := by decide +kernel
theorem d_Mo_halt_96 : decode b_Mo_halt 96 = .ok (.invokevirtual 572, 3) := by decide +kernel
theorem d_Mo_halt_99 : decode b_Mo_halt 99 = .ok (.aload_n 0, 1) := by decide +kernel
theorem d_Mo_halt_100 : decode b_Mo_halt 100 = .ok (.iconst 0, 1) := by decide +kernel
theorem d_Mo_halt_101 : decode b_Mo_halt 101 = .ok (.putfield 215, 3) := by decide +kernel
theorem d_Mo_halt_104 : decode b_Mo_halt 104 = .ok (.return_, 1) := by decide +kernel
theorem kw_377 : Cond.methodLink R_Mo 786 y_Mo_leave ∈ wA := kinm (show _ ∈ tables_1 from (List.mem_append_right _ (List.mem_append_right _ (List.mem_append_right _ (List.mem_append_right _ (List.mem_append_right _ (List.mem_append_right _ (List.mem_append_right _ (List.mem_append_right _ (List.mem_append_right _ (List.mem_append_right _ (List.mem_append_right _ (List.mem_append_right _ (List.mem_append_left _ (List.mem_of_getElem? (l := tables_1_13) (i := 115) (by decide +kernel)))))))))))))))) (by decide +kernel)
theorem kw_378 : Cond.instanceMethod y_Mo_halt ∈ wA := kinm (show _ ∈ tables_1 from (List.mem_append_right _ (List.mem_append_right _ (List.mem_append_right _ (List.mem_append_right _ (List.mem_append_right _ (List.mem_append_right _ (List.mem_append_right _ (List.mem_append_right _ (List.mem_append_right _ (List.mem_append_right _ (List.mem_append_right _ (List.mem_append_right _ (List.mem_append_left _ (List.mem_of_getElem? (l := tables_1_13) (i := 125) (by decide +kernel)))))))))))))))) (by decide +kernel)
theorem kw_379 : Cond.selects R_Mo y_Mo_halt y_Mo_halt ∈ wA := kinp 202 (by decide +kernel) (by decide +kernel)
theorem cv_Mo_halt : CV y_Mo_halt b_Mo_halt 3 none 0 := ⟨kw_378, kw_379, kw_17, k_Mo_halt, by decide +kernel⟩
theorem lp_Mo_halt_L26 {X : Cx} {q : PL} (g : Gd X y_Mo_halt b_Mo_halt 3 none 4 93 R_Mo) (x : Int32) (s : S1) (o : ((Int32) ⊕ ((Unit))) × S1) (h : M_Mo_halt_L26 x s = some o) (hR : (Sum.elim (fun y : Int32 => ∀ ls : Array Slot, lv_has ls 3 [(0, .ref (q.1 0 0)), (1, vr q 28 y)] → WW X q o.2 26 ls []) (fun y : Unit => ∀ ls : Array Slot, lv_has ls 3 [(0, .ref (q.1 0 0))] → WW X q o.2 61 ls []) o.1)) : ∀ ls : Array Slot, lv_has ls 3 [(0, .ref (q.1 0 0)), (1, vr q 28 x)] → WW X q s 26 ls [] := by
  intro ls hl
  unfold M_Mo_halt_L26 at h
  refine ww_aload_nV (pc := 26) g.1 vr_cases d_Mo_halt_26 rfl (lv_at hl 1 rfl) ?_
  refine ww_ifnullV (pc := 27) (tgt := 61) g.1 d_Mo_halt_27 (by decide) h (fun c h => ?_) (fun c h => ?_)
  · rw [oR_eq h] at hR
    exact hR ls (lv_sub hl [0] rfl)
  · refine ww_aload_nV (pc := 30) g.1 vr_cases d_Mo_halt_30 rfl (lv_at hl 1 rfl) ?_
    refine ww_ok h fun cn30 h => ?_
    refine ww_nn cn30 ?_
    refine ww_gV (pc := 31) g (k := 6) cl_Th (pt rfl rfl cn30) (by decide) (Or.inl kw_218) (f := 3590) (t := 28) rfl rfl rfl d_Mo_halt_31 h fun v31 h => ?_
    refine ww_astore_nV (pc := 34) (i := 2) g.1 vr_cases (lv' := [(2, vr q 28 v31), (0, .ref (q.1 0 0)), (1, vr q 28 x)]) d_Mo_halt_34 rfl hl (by decide) (by simp [vr_cat]) fun ls hl => ?_
    refine ww_aload_n (pc := 35) g.1 d_Mo_halt_35 rfl (lv_at hl 1 rfl) ?_
    refine ww_aload_nV (pc := 36) g.1 vr_cases d_Mo_halt_36 rfl (lv_at hl 2 rfl) ?_
    refine ww_ok h fun cn36 h => ?_
    refine ww_nn cn36 ?_
    refine ww_iconst (pc := 37) g.1 (v := 0) d_Mo_halt_37 (by decide) ?_
    obtain ⟨v38, s, hc38, h⟩ := oB_of h
    refine ww_callV (pc := 38) (rest := []) g cv_Mo_leave (Or.inl kw_377) cl_Mo (pz rfl (by decide)) (ct_Mo_leave cn36 hc38) ⟨by decide, by decide⟩ rfl hl.1 (Nat.le_of_ble_eq_true rfl) d_Mo_halt_38 rfl ?_
    refine ww_st (st' := []) rfl ?_
    refine ww_aload_nV (pc := 41) g.1 vr_cases d_Mo_halt_41 rfl (lv_at hl 2 rfl) ?_
    refine ww_ok h fun cn41 h => ?_
    refine ww_nn cn41 ?_
    refine ww_iconst (pc := 42) g.1 (v := 0) d_Mo_halt_42 (by decide) ?_
    refine ww_pI (pc := 43) g (k := 2) cl_Th (pt rfl rfl cn41) (by decide) (Or.inl kw_151) rfl (f := 3586) rfl rfl rfl rfl d_Mo_halt_43 h fun s hs h => ?_
    refine ww_aload_nV (pc := 46) g.1 vr_cases d_Mo_halt_46 rfl (lv_at hl 2 rfl) ?_
    refine ww_ok h fun cn46 h => ?_
    refine ww_nn cn46 ?_
    refine ww_iconst (pc := 47) g.1 (v := 3) d_Mo_halt_47 (by decide) ?_
    refine ww_pI (pc := 48) g (k := 1) cl_Th (pt rfl rfl cn46) (by decide) (Or.inl kw_217) rfl (f := 3585) rfl rfl rfl rfl d_Mo_halt_48 h fun s hs h => ?_
    refine ww_aload_nV (pc := 51) g.1 vr_cases d_Mo_halt_51 rfl (lv_at hl 2 rfl) ?_
    refine ww_ok h fun cn51 h => ?_
    refine ww_nn cn51 ?_
    refine ww_null (pc := 52) g.1 d_Mo_halt_52 ?_
    refine ww_st (st' := [vr q 28 (-1), .ref (q.1 28 x)]) (by rw [vr_m1]) ?_
    refine ww_pV (pc := 53) g (k := 6) cl_Th (pt rfl rfl cn51) (by decide) (Or.inl kw_218) rfl (f := 3590) (t := 28) rfl rfl rfl rfl fits_vr d_Mo_halt_53 h fun s hs h => ?_
    refine ww_aload_nV (pc := 56) g.1 vr_cases d_Mo_halt_56 rfl (lv_at hl 0 rfl) ?_
    refine ww_astore_nV (pc := 57) (i := 1) g.1 vr_cases (lv' := [(1, vr q 28 v31), (2, vr q 28 v31), (0, .ref (q.1 0 0))]) d_Mo_halt_57 rfl hl (by decide) rfl fun ls hl => ?_
    refine ww_goto (pc := 58) (tgt := 26) g.1 d_Mo_halt_58 (by decide) ?_
    rw [oR_eq h] at hR
    exact hR ls (lv_sub hl [2, 0] rfl)

theorem ct_Mo_halt {l : Launch} {P : PP} {q : PL} {s s' : S1}  {r : Unit} (h : M_Mo_halt s = some (r, s')) : Ct l y_Mo_halt b_Mo_halt 3 none 4 93 P q s [.ref (q.1 0 0)] none q s' := by
  refine ct_of (by decide) (Nat.le_of_ble_eq_true rfl) fun X ls eP el g hR hl => ?_
  subst eP
  have hR : Rt X q ((r, s') : Unit × S1).2 none := hR
  have hl : lv_has ls 3 [(0, .ref (q.1 0 0))] := hl
  generalize (r, s') = o at h hR
  unfold M_Mo_halt at h
  refine ww_aload_n (pc := 0) g.1 d_Mo_halt_0 rfl (lv_at hl 0 rfl) ?_
  refine ww_iconst (pc := 1) g.1 (v := 0) d_Mo_halt_1 (by decide) ?_
  refine ww_pI (pc := 2) g (k := 73) cl_Mo (pz rfl (by decide)) (by decide) (Or.inl kw_75) rfl (f := 73) rfl rfl rfl rfl d_Mo_halt_2 h fun s hs h => ?_
  refine ww_aload_n (pc := 5) g.1 d_Mo_halt_5 rfl (lv_at hl 0 rfl) ?_
  refine ww_gR (pc := 6) g (k := 77) cl_Mo (pz rfl (by decide)) (by decide) (Or.inl kw_182) (f := 77) (t := 7) rfl rfl rfl d_Mo_halt_6 ?_
  refine ww_iconst (pc := 9) g.1 (v := 0) d_Mo_halt_9 (by decide) ?_
  refine ww_pI (pc := 10) g (k := 2) (cl_Va (Or.inl ⟨by decide, rfl⟩)) (pz rfl (by decide)) (by decide) (Or.inl kw_179) rfl (f := 898) rfl rfl rfl rfl d_Mo_halt_10 h fun s hs h => ?_
  refine ww_aload_n (pc := 13) g.1 d_Mo_halt_13 rfl (lv_at hl 0 rfl) ?_
  refine ww_gR (pc := 14) g (k := 78) cl_Mo (pz rfl (by decide)) (by decide) (Or.inl kw_178) (f := 78) (t := 10) rfl rfl rfl d_Mo_halt_14 ?_
  refine ww_iconst (pc := 17) g.1 (v := 0) d_Mo_halt_17 (by decide) ?_
  refine ww_pI (pc := 18) g (k := 2) (cl_Va (Or.inl ⟨by decide, rfl⟩)) (pz rfl (by decide)) (by decide) (Or.inl kw_179) rfl (f := 1282) rfl rfl rfl rfl d_Mo_halt_18 h fun s hs h => ?_
  refine ww_aload_n (pc := 21) g.1 d_Mo_halt_21 rfl (lv_at hl 0 rfl) ?_
  refine ww_gV (pc := 22) g (k := 72) cl_Mo (pz rfl (by decide)) (by decide) (Or.inl kw_150) (f := 72) (t := 28) rfl rfl rfl d_Mo_halt_22 h fun v22 h => ?_
  refine ww_astore_nV (pc := 25) (i := 1) g.1 vr_cases (lv' := [(1, vr q 28 v22), (0, .ref (q.1 0 0))]) d_Mo_halt_25 rfl hl (by decide) rfl fun ls hl => ?_
  obtain ⟨e26, s1, hw, h⟩ := oB_of h
  refine oW_rule (Wh := fun (x : Int32) (s : S1) => ∀ ls : Array Slot, lv_has ls 3 [(0, .ref (q.1 0 0)), (1, vr q 28 x)] → WW X q s 26 ls []) (We := fun (e : (Unit)) (s : S1) => ∀ ls : Array Slot, lv_has ls 3 [(0, .ref (q.1 0 0))] → WW X q s 61 ls []) (fun x s o hb hc => lp_Mo_halt_L26 (q := q) g x s o hb hc) hw ?_ ls (lv_sub hl [1, 0] rfl)
  clear hw hl
  clear ls
  intro ls hl
  generalize s1 = s at h ⊢
  refine ww_aload_n (pc := 61) g.1 d_Mo_halt_61 rfl (lv_at hl 0 rfl) ?_
  refine ww_aload_n (pc := 62) g.1 d_Mo_halt_62 rfl (lv_at hl 0 rfl) ?_
  refine ww_gR (pc := 63) g (k := 71) cl_Mo (pz rfl (by decide)) (by decide) (Or.inl kw_88) (f := 71) (t := 76) rfl rfl rfl d_Mo_halt_63 ?_
  refine ww_iconst (pc := 66) g.1 (v := 0) d_Mo_halt_66 (by decide) ?_
  refine ww_at (pc := 67) g (t := 28) (pz rfl (by decide)) rfl rfl rfl d_Mo_halt_67 h fun ca67 h => ?_
  refine ww_st (st' := [vr q 28 0, .ref (q.1 0 0)]) (by rw [vr_nn ca67]) ?_
  refine ww_pV (pc := 68) g (k := 72) cl_Mo (pz rfl (by decide)) (by decide) (Or.inl kw_150) rfl (f := 72) (t := 28) rfl rfl rfl rfl fits_vr d_Mo_halt_68 h fun s hs h => ?_
  refine ww_aload_n (pc := 71) g.1 d_Mo_halt_71 rfl (lv_at hl 0 rfl) ?_
  refine ww_iconst (pc := 72) g.1 (v := 2) d_Mo_halt_72 (by decide) ?_
  refine ww_pI (pc := 73) g (k := 80) cl_Mo (pz rfl (by decide)) (by decide) (Or.inl kw_232) rfl (f := 80) rfl rfl rfl rfl d_Mo_halt_73 h fun s hs h => ?_
  refine ww_aload_n (pc := 76) g.1 d_Mo_halt_76 rfl (lv_at hl 0 rfl) ?_
  refine ww_gR (pc := 77) g (k := 79) cl_Mo (pz rfl (by decide)) (by decide) (Or.inl kw_233) (f := 79) (t := 13) rfl rfl rfl d_Mo_halt_77 ?_
  refine ww_iconst (pc := 80) g.1 (v := 0) d_Mo_halt_80 (by decide) ?_
  refine ww_pI (pc := 81) g (k := 2) (cl_Va (Or.inl ⟨by decide, rfl⟩)) (pz rfl (by decide)) (by decide) (Or.inl kw_179) rfl (f := 1666) rfl rfl rfl rfl d_Mo_halt_81 h fun s hs h => ?_
  refine ww_aload_n (pc := 84) g.1 d_Mo_halt_84 rfl (lv_at hl 0 rfl) ?_
  refine ww_gR (pc := 85) g (k := 79) cl_Mo (pz rfl (by decide)) (by decide) (Or.inl kw_233) (f := 79) (t := 13) rfl rfl rfl d_Mo_halt_85 ?_
  refine ww_aload_n (pc := 88) g.1 d_Mo_halt_88 rfl (lv_at hl 0 rfl) ?_
  refine ww_gI (pc := 89) g (k := 64) cl_Mo (pz rfl (by decide)) (by decide) (Or.inl kw_73) (f := 64) rfl rfl d_Mo_halt_89 h fun v89 h => ?_
  refine ww_aload_n (pc := 92) g.1 d_Mo_halt_92 rfl (lv_at hl 0 rfl) ?_
  refine ww_gL (pc := 93) g (k := 65) cl_Mo (pz rfl (by decide)) (by decide) (Or.inl kw_74) (f := 65) rfl rfl d_Mo_halt_93 h fun v93 h => ?_
  obtain ⟨v96, s, hc96, h⟩ := oB_of h
  refine ww_callV (pc := 96) (rest := []) g cv_Va_add (Or.inl kw_187) (cl_Va (Or.inl ⟨by decide, rfl⟩)) (pz rfl (by decide)) (ct_Va_add (Or.inl ⟨by decide, rfl⟩) hc96) ⟨by decide, by decide⟩ rfl hl.1 (Nat.le_of_ble_eq_true rfl) d_Mo_halt_96 rfl ?_
  refine ww_st (st' := []) rfl ?_
  refine ww_aload_n (pc := 99) g.1 d_Mo_halt_99 rfl (lv_at hl 0 rfl) ?_
  refine ww_iconst (pc := 100) g.1 (v := 0) d_Mo_halt_100 (by decide) ?_
  refine ww_pI (pc := 101) g (k := 64) cl_Mo (pz rfl (by decide)) (by decide) (Or.inl kw_73) rfl (f := 64) rfl rfl rfl rfl d_Mo_halt_101 h fun s hs h => ?_
  exact ww_vretH (pc := 104) g h hR d_Mo_halt_104

abbrev b_Mo_reckon : ByteArray := prog_14_method_120_code
def y_Mo_reckon : MethodName := ⟨R_Mo, "reckon", "(IJJ)J"⟩
abbrev w_Mo_reckon : List Cond := .code y_Mo_reckon b_Mo_reckon 5 (some .long) :: wA
theorem k_Mo_reckon : Cond.code y_Mo_reckon b_Mo_reckon 5 (some .long) ∈ wA := kinm (show _ ∈ tables_1 from (List.mem_append_right _ (List.mem_append_right _ (List.mem_append_right _ (List.mem_append_right _ (List.mem_append_right _ (List.mem_append_right _ (List.mem_append_right _ (List.mem_append_right _ (List.mem_append_right _ (List.mem_append_right _ (List.mem_append_right _ (List.mem_append_right _ (List.mem_append_left _ (List.mem_of_getElem? (l := tables_1_13) (i := 176) (by decide +kernel)))))))))))))))) (by decide +kernel)
theorem d_Mo_reckon_0 : decode b_Mo_reckon 0 = .ok (.iload_n 0, 1) := by decide +kernel
theorem d_Mo_reckon_1 : decode b_Mo_reckon 1 = .ok (.tableswitch 131 13 25 #[67, 71, 75, 79, 131, 131, 85, 91, 95, 99, 103, 109, 128], 67) := by decide +kernel
theorem d_Mo_reckon_68 : decode b_Mo_reckon 68 = .ok (.lload_n 1, 1) := by decide +kernel
theorem d_Mo_reckon_69 : decode b_Mo_reckon 69 = .ok (.lload_n 3, 1) := by decide +kernel
theorem d_Mo_reckon_70 : decode b_Mo_reckon 70 = .ok (.ladd, 1) := by decide +kernel
theorem d_Mo_reckon_71 : decode b_Mo_reckon 71 = .ok (.lreturn, 1) := by decide +kernel
theorem d_Mo_reckon_72 : decode b_Mo_reckon 72 = .ok (.lload_n 1, 1) := by decide +kernel
theorem d_Mo_reckon_73 : decode b_Mo_reckon 73 = .ok (.lload_n 3, 1) := by decide +kernel
theorem d_Mo_reckon_74 : decode b_Mo_reckon 74 = .ok (.lsub, 1) := by decide +kernel
theorem d_Mo_reckon_75 : decode b_Mo_reckon 75 = .ok (.lreturn, 1) := by decide +kernel
theorem d_Mo_reckon_76 : decode b_Mo_reckon 76 = .ok (.lload_n 1, 1) := by decide +kernel
theorem d_Mo_reckon_77 : decode b_Mo_reckon 77 = .ok (.lload_n 3, 1) := by decide +kernel
theorem d_Mo_reckon_78 : decode b_Mo_reckon 78 = .ok (.lmul, 1) := by decide +kernel
theorem d_Mo_reckon_79 : decode b_Mo_reckon 79 = .ok (.lreturn, 1) := by decide +kernel
theorem d_Mo_reckon_80 : decode b_Mo_reckon 80 = .ok (.lload_n 1, 1) := by decide +kernel
theorem d_Mo_reckon_81 : decode b_Mo_reckon 81 = .ok (.lload_n 3, 1) := by decide +kernel
theorem d_Mo_reckon_82 : decode b_Mo_reckon 82 = .ok (.invokestatic 542, 3) := by decide +kernel
theorem d_Mo_reckon_85 : decode b_Mo_reckon 85 = .ok (.lreturn, 1) := by decide +kernel
theorem d_Mo_reckon_86 : decode b_Mo_reckon 86 = .ok (.lload_n 1, 1) := by decide +kernel
theorem d_Mo_reckon_87 : decode b_Mo_reckon 87 = .ok (.lload_n 3, 1) := by decide +kernel
theorem d_Mo_reckon_88 : decode b_Mo_reckon 88 = .ok (.invokestatic 963, 3) := by decide +kernel
theorem d_Mo_reckon_91 : decode b_Mo_reckon 91 = .ok (.lreturn, 1) := by decide +kernel
theorem d_Mo_reckon_92 : decode b_Mo_reckon 92 = .ok (.lload_n 1, 1) := by decide +kernel
theorem d_Mo_reckon_93 : decode b_Mo_reckon 93 = .ok (.lload_n 3, 1) := by decide +kernel
theorem d_Mo_reckon_94 : decode b_Mo_reckon 94 = .ok (.land, 1) := by decide +kernel
theorem d_Mo_reckon_95 : decode b_Mo_reckon 95 = .ok (.lreturn, 1) := by decide +kernel
theorem d_Mo_reckon_96 : decode b_Mo_reckon 96 = .ok (.lload_n 1, 1) := by decide +kernel
theorem d_Mo_reckon_97 : decode b_Mo_reckon 97 = .ok (.lload_n 3, 1) := by decide +kernel
theorem d_Mo_reckon_98 : decode b_Mo_reckon 98 = .ok (.lor, 1) := by decide +kernel
theorem d_Mo_reckon_99 : decode b_Mo_reckon 99 = .ok (.lreturn, 1) := by decide +kernel
theorem d_Mo_reckon_100 : decode b_Mo_reckon 100 = .ok (.lload_n 1, 1) := by decide +kernel
theorem d_Mo_reckon_101 : decode b_Mo_reckon 101 = .ok (.lload_n 3, 1) := by decide +kernel
theorem d_Mo_reckon_102 : decode b_Mo_reckon 102 = .ok (.lxor, 1) := by decide +kernel
theorem d_Mo_reckon_103 : decode b_Mo_reckon 103 = .ok (.lreturn, 1) := by decide +kernel
theorem d_Mo_reckon_104 : decode b_Mo_reckon 104 = .ok (.lload_n 1, 1) := by decide +kernel
theorem d_Mo_reckon_105 : decode b_Mo_reckon 105 = .ok (.lload_n 3, 1) := by decide +kernel
theorem d_Mo_reckon_106 : decode b_Mo_reckon 106 = .ok (.invokestatic 966, 3) := by decide +kernel
theorem d_Mo_reckon_109 : decode b_Mo_reckon 109 = .ok (.lreturn, 1) := by decide +kernel
theorem d_Mo_reckon_110 : decode b_Mo_reckon 110 = .ok (.lload_n 3, 1) := by decide +kernel
theorem d_Mo_reckon_111 : decode b_Mo_reckon 111 = .ok (.ldc2_w 971, 3) := by decide +kernel
theorem d_Mo_reckon_114 : decode b_Mo_reckon 114 = .ok (.lcmp, 1) := by decide +kernel
theorem d_Mo_reckon_115 : decode b_Mo_reckon 115 = .ok (.ifCond .ne 7, 3) := by decide +kernel
theorem d_Mo_reckon_118 : decode b_Mo_reckon 118 = .ok (.lconst 0, 1) := by decide +kernel
theorem d_Mo_reckon_119 : decode b_Mo_reckon 119 = .ok (.goto 9, 3) := by decide +kernel
theorem d_Mo_reckon_122 : decode b_Mo_reckon 122 = .ok (.lload_n 1, 1) := by decide +kernel
theorem d_Mo_reckon_123 : decode b_Mo_reckon 123 = .ok (.lload_n 3, 1) := by decide +kernel
theorem d_Mo_reckon_124 : decode b_Mo_reckon 124 = .ok (.lneg, 1) := by decide +kernel
theorem d_Mo_reckon_125 : decode b_Mo_reckon 125 = .ok (.invokestatic 966, 3) := by decide +kernel
theorem d_Mo_reckon_128 : decode b_Mo_reckon 128 = .ok (.lreturn, 1) := by decide +kernel
theorem d_Mo_reckon_129 : decode b_Mo_reckon 129 = .ok (.lload_n 1, 1) := by decide +kernel
theorem d_Mo_reckon_130 : decode b_Mo_reckon 130 = .ok (.lneg, 1) := by decide +kernel
theorem d_Mo_reckon_131 : decode b_Mo_reckon 131 = .ok (.lreturn, 1) := by decide +kernel
theorem d_Mo_reckon_132 : decode b_Mo_reckon 132 = .ok (.lload_n 1, 1) := by decide +kernel
theorem d_Mo_reckon_133 : decode b_Mo_reckon 133 = .ok (.ldc2_w 722, 3) := by decide +kernel
theorem d_Mo_reckon_136 : decode b_Mo_reckon 136 = .ok (.lxor, 1) := by decide +kernel
theorem d_Mo_reckon_137 : decode b_Mo_reckon 137 = .ok (.lreturn, 1) := by decide +kernel
theorem kw_380 : Cond.constantLong R_Mo 971 (-9223372036854775808) ∈ wA := kinm (show _ ∈ tables_1 from (List.mem_append_right _ (List.mem_append_right _ (List.mem_append_right _ (List.mem_append_right _ (List.mem_append_right _ (List.mem_append_right _ (List.mem_append_right _ (List.mem_append_right _ (List.mem_append_right _ (List.mem_append_right _ (List.mem_append_right _ (List.mem_append_right _ (List.mem_append_left _ (List.mem_of_getElem? (l := tables_1_13) (i := 183) (by decide +kernel)))))))))))))))) (by decide +kernel)
theorem kw_381 : Cond.methodLink R_Mo 963 y_Mth_floorDiv ∈ wA := kinm (show _ ∈ tables_1 from (List.mem_append_right _ (List.mem_append_right _ (List.mem_append_right _ (List.mem_append_right _ (List.mem_append_right _ (List.mem_append_right _ (List.mem_append_right _ (List.mem_append_right _ (List.mem_append_right _ (List.mem_append_right _ (List.mem_append_right _ (List.mem_append_right _ (List.mem_append_left _ (List.mem_of_getElem? (l := tables_1_13) (i := 177) (by decide +kernel)))))))))))))))) (by decide +kernel)
theorem kw_382 : Cond.methodLink R_Mo 966 y_Mo_shifted ∈ wA := kinm (show _ ∈ tables_1 from (List.mem_append_right _ (List.mem_append_right _ (List.mem_append_right _ (List.mem_append_right _ (List.mem_append_right _ (List.mem_append_right _ (List.mem_append_right _ (List.mem_append_right _ (List.mem_append_right _ (List.mem_append_right _ (List.mem_append_right _ (List.mem_append_right _ (List.mem_append_left _ (List.mem_of_getElem? (l := tables_1_13) (i := 178) (by decide +kernel)))))))))))))))) (by decide +kernel)
theorem kw_383 : Cond.static y_Mo_reckon ∈ wA := kinm (show _ ∈ tables_1 from (List.mem_append_right _ (List.mem_append_right _ (List.mem_append_right _ (List.mem_append_right _ (List.mem_append_right _ (List.mem_append_right _ (List.mem_append_right _ (List.mem_append_right _ (List.mem_append_right _ (List.mem_append_right _ (List.mem_append_right _ (List.mem_append_right _ (List.mem_append_left _ (List.mem_of_getElem? (l := tables_1_13) (i := 175) (by decide +kernel)))))))))))))))) (by decide +kernel)
theorem cs_Mo_reckon : CS y_Mo_reckon b_Mo_reckon 5 (some .long) 3 := ⟨kw_383, kw_17, k_Mo_reckon, by decide +kernel⟩
theorem ct_Mo_reckon {l : Launch} {P : PP} {q : PL} {s s' : S1} {l0 : Int32} {l1 : Int64} {l3 : Int64} {r : Int64} (h : M_Mo_reckon l0 l1 l3 s = some (r, s')) : Ct l y_Mo_reckon b_Mo_reckon 5 (some .long) 1 25 P q s [.int l0, .long l1, .long l3] (some (.long r)) q s' := by
  refine ct_of (by decide) (Nat.le_of_ble_eq_true rfl) fun X ls eP el g hR hl => ?_
  subst eP
  have hR : Rt X q ((r, s') : Int64 × S1).2 (some (.long ((r, s') : Int64 × S1).1)) := hR
  have hl : lv_has ls 5 [(0, .int l0), (1, .long l1), (3, .long l3)] := hl
  generalize (r, s') = o at h hR
  unfold M_Mo_reckon at h
  refine ww_iload_n (pc := 0) g.1 d_Mo_reckon_0 rfl (lv_at hl 0 rfl) ?_
  by_cases c1_68 : l0 = 13
  · have h := oC_pos c1_68 h
    have c := c1_68
    refine ww_tableIn (pc := 1) (tgt := 68) g.1 d_Mo_reckon_1 (by rw [c]; decide) (by rw [c]; decide) (by rw [c]; rfl) (by decide) ?_
    refine ww_lload_n (pc := 68) g.1 d_Mo_reckon_68 rfl (lv_at hl 1 rfl) ?_
    refine ww_lload_n (pc := 69) g.1 d_Mo_reckon_69 rfl (lv_at hl 2 rfl) ?_
    refine ww_ladd (pc := 70) g.1 d_Mo_reckon_70 ?_
    exact ww_lretH (pc := 71) g h hR d_Mo_reckon_71
  have h := oC_neg c1_68 h
  by_cases c1_72 : l0 = 14
  · have h := oC_pos c1_72 h
    have c := c1_72
    refine ww_tableIn (pc := 1) (tgt := 72) g.1 d_Mo_reckon_1 (by rw [c]; decide) (by rw [c]; decide) (by rw [c]; rfl) (by decide) ?_
    refine ww_lload_n (pc := 72) g.1 d_Mo_reckon_72 rfl (lv_at hl 1 rfl) ?_
    refine ww_lload_n (pc := 73) g.1 d_Mo_reckon_73 rfl (lv_at hl 2 rfl) ?_
    refine ww_lsub (pc := 74) g.1 d_Mo_reckon_74 ?_
    exact ww_lretH (pc := 75) g h hR d_Mo_reckon_75
  have h := oC_neg c1_72 h
  by_cases c1_76 : l0 = 15
  · have h := oC_pos c1_76 h
    have c := c1_76
    refine ww_tableIn (pc := 1) (tgt := 76) g.1 d_Mo_reckon_1 (by rw [c]; decide) (by rw [c]; decide) (by rw [c]; rfl) (by decide) ?_
    refine ww_lload_n (pc := 76) g.1 d_Mo_reckon_76 rfl (lv_at hl 1 rfl) ?_
    refine ww_lload_n (pc := 77) g.1 d_Mo_reckon_77 rfl (lv_at hl 2 rfl) ?_
    refine ww_lmul (pc := 78) g.1 d_Mo_reckon_78 ?_
    exact ww_lretH (pc := 79) g h hR d_Mo_reckon_79
  have h := oC_neg c1_76 h
  by_cases c1_80 : l0 = 16
  · have h := oC_pos c1_80 h
    have c := c1_80
    refine ww_tableIn (pc := 1) (tgt := 80) g.1 d_Mo_reckon_1 (by rw [c]; decide) (by rw [c]; decide) (by rw [c]; rfl) (by decide) ?_
    refine ww_lload_n (pc := 80) g.1 d_Mo_reckon_80 rfl (lv_at hl 1 rfl) ?_
    refine ww_lload_n (pc := 81) g.1 d_Mo_reckon_81 rfl (lv_at hl 2 rfl) ?_
    obtain ⟨v82, s, hc82, h⟩ := oB_of h
    refine ww_callS (pc := 82) (rest := []) g cs_Mth_floorMod (Or.inl kw_120) (ct_Mth_floorMod hc82) ⟨by decide, by decide⟩ rfl hl.1 (Nat.le_of_ble_eq_true rfl) d_Mo_reckon_82 rfl ?_
    refine ww_st (st' := [.long v82]) rfl ?_
    exact ww_lretH (pc := 85) g h hR d_Mo_reckon_85
  have h := oC_neg c1_80 h
  by_cases c1_86 : l0 = 19
  · have h := oC_pos c1_86 h
    have c := c1_86
    refine ww_tableIn (pc := 1) (tgt := 86) g.1 d_Mo_reckon_1 (by rw [c]; decide) (by rw [c]; decide) (by rw [c]; rfl) (by decide) ?_
    refine ww_lload_n (pc := 86) g.1 d_Mo_reckon_86 rfl (lv_at hl 1 rfl) ?_
    refine ww_lload_n (pc := 87) g.1 d_Mo_reckon_87 rfl (lv_at hl 2 rfl) ?_
    obtain ⟨v88, s, hc88, h⟩ := oB_of h
    refine ww_callS (pc := 88) (rest := []) g cs_Mth_floorDiv (Or.inl kw_381) (ct_Mth_floorDiv hc88) ⟨by decide, by decide⟩ rfl hl.1 (Nat.le_of_ble_eq_true rfl) d_Mo_reckon_88 rfl ?_
    refine ww_st (st' := [.long v88]) rfl ?_
    exact ww_lretH (pc := 91) g h hR d_Mo_reckon_91
  have h := oC_neg c1_86 h
  by_cases c1_92 : l0 = 20
  · have h := oC_pos c1_92 h
    have c := c1_92
    refine ww_tableIn (pc := 1) (tgt := 92) g.1 d_Mo_reckon_1 (by rw [c]; decide) (by rw [c]; decide) (by rw [c]; rfl) (by decide) ?_
    refine ww_lload_n (pc := 92) g.1 d_Mo_reckon_92 rfl (lv_at hl 1 rfl) ?_
    refine ww_lload_n (pc := 93) g.1 d_Mo_reckon_93 rfl (lv_at hl 2 rfl) ?_
    refine ww_land (pc := 94) g.1 d_Mo_reckon_94 ?_
    exact ww_lretH (pc := 95) g h hR d_Mo_reckon_95
  have h := oC_neg c1_92 h
  by_cases c1_96 : l0 = 21
  · have h := oC_pos c1_96 h
    have c := c1_96
    refine ww_tableIn (pc := 1) (tgt := 96) g.1 d_Mo_reckon_1 (by rw [c]; decide) (by rw [c]; decide) (by rw [c]; rfl) (by decide) ?_
    refine ww_lload_n (pc := 96) g.1 d_Mo_reckon_96 rfl (lv_at hl 1 rfl) ?_
    refine ww_lload_n (pc := 97) g.1 d_Mo_reckon_97 rfl (lv_at hl 2 rfl) ?_
    refine ww_lor (pc := 98) g.1 d_Mo_reckon_98 ?_
    exact ww_lretH (pc := 99) g h hR d_Mo_reckon_99
  have h := oC_neg c1_96 h
  by_cases c1_100 : l0 = 22
  · have h := oC_pos c1_100 h
    have c := c1_100
    refine ww_tableIn (pc := 1) (tgt := 100) g.1 d_Mo_reckon_1 (by rw [c]; decide) (by rw [c]; decide) (by rw [c]; rfl) (by decide) ?_
    refine ww_lload_n (pc := 100) g.1 d_Mo_reckon_100 rfl (lv_at hl 1 rfl) ?_
    refine ww_lload_n (pc := 101) g.1 d_Mo_reckon_101 rfl (lv_at hl 2 rfl) ?_
    refine ww_lxor (pc := 102) g.1 d_Mo_reckon_102 ?_
    exact ww_lretH (pc := 103) g h hR d_Mo_reckon_103
  have h := oC_neg c1_100 h
  by_cases c1_104 : l0 = 23
  · have h := oC_pos c1_104 h
    have c := c1_104
    refine ww_tableIn (pc := 1) (tgt := 104) g.1 d_Mo_reckon_1 (by rw [c]; decide) (by rw [c]; decide) (by rw [c]; rfl) (by decide) ?_
    refine ww_lload_n (pc := 104) g.1 d_Mo_reckon_104 rfl (lv_at hl 1 rfl) ?_
    refine ww_lload_n (pc := 105) g.1 d_Mo_reckon_105 rfl (lv_at hl 2 rfl) ?_
    obtain ⟨v106, s, hc106, h⟩ := oB_of h
    refine ww_callS (pc := 106) (rest := []) g cs_Mo_shifted (Or.inl kw_382) (ct_Mo_shifted hc106) ⟨by decide, by decide⟩ rfl hl.1 (Nat.le_of_ble_eq_true rfl) d_Mo_reckon_106 rfl ?_
    refine ww_st (st' := [.long v106]) rfl ?_
    exact ww_lretH (pc := 109) g h hR d_Mo_reckon_109
  have h := oC_neg c1_104 h
  by_cases c1_110 : l0 = 24
  · have h := oC_pos c1_110 h
    have c := c1_110
    refine ww_tableIn (pc := 1) (tgt := 110) g.1 d_Mo_reckon_1 (by rw [c]; decide) (by rw [c]; decide) (by rw [c]; rfl) (by decide) ?_
    refine ww_lload_n (pc := 110) g.1 d_Mo_reckon_110 rfl (lv_at hl 2 rfl) ?_
    refine ww_ldc2 (pc := 111) g (v := (-9223372036854775808)) kw_380 d_Mo_reckon_111 ?_
    refine ww_lcmp (pc := 114) g.1 d_Mo_reckon_114 ?_
    refine ww_if_ne (pc := 115) (tgt := 122) g.1 d_Mo_reckon_115 (by decide) h (fun c h => ?_) (fun c h => ?_)
    · refine ww_lload_n (pc := 122) g.1 d_Mo_reckon_122 rfl (lv_at hl 1 rfl) ?_
      refine ww_lload_n (pc := 123) g.1 d_Mo_reckon_123 rfl (lv_at hl 2 rfl) ?_
      refine ww_lneg (pc := 124) g.1 d_Mo_reckon_124 ?_
      obtain ⟨v125, s, hc125, h⟩ := oB_of h
      refine ww_callS (pc := 125) (rest := []) g cs_Mo_shifted (Or.inl kw_382) (ct_Mo_shifted hc125) ⟨by decide, by decide⟩ rfl hl.1 (Nat.le_of_ble_eq_true rfl) d_Mo_reckon_125 rfl ?_
      refine ww_st (st' := [.long v125]) rfl ?_
      exact ww_lretH (pc := 128) g h hR d_Mo_reckon_128
    · refine ww_lconst (pc := 118) g.1 (v := 0) d_Mo_reckon_118 (by decide) ?_
      refine ww_goto (pc := 119) (tgt := 128) g.1 d_Mo_reckon_119 (by decide) ?_
      exact ww_lretH (pc := 128) g h hR d_Mo_reckon_128
  have h := oC_neg c1_110 h
  by_cases c1_129 : l0 = 25
  · have h := oC_pos c1_129 h
    have c := c1_129
    refine ww_tableIn (pc := 1) (tgt := 129) g.1 d_Mo_reckon_1 (by rw [c]; decide) (by rw [c]; decide) (by rw [c]; rfl) (by decide) ?_
    refine ww_lload_n (pc := 129) g.1 d_Mo_reckon_129 rfl (lv_at hl 1 rfl) ?_
    refine ww_lneg (pc := 130) g.1 d_Mo_reckon_130 ?_
    exact ww_lretH (pc := 131) g h hR d_Mo_reckon_131
  have h := oC_neg c1_129 h
  have n_13 : ¬ l0.toInt = 13 := lv_neT (fun e => c1_68 e) rfl
  have n_14 : ¬ l0.toInt = 14 := lv_neT (fun e => c1_72 e) rfl
  have n_15 : ¬ l0.toInt = 15 := lv_neT (fun e => c1_76 e) rfl
  have n_16 : ¬ l0.toInt = 16 := lv_neT (fun e => c1_80 e) rfl
  have n_19 : ¬ l0.toInt = 19 := lv_neT (fun e => c1_86 e) rfl
  have n_20 : ¬ l0.toInt = 20 := lv_neT (fun e => c1_92 e) rfl
  have n_21 : ¬ l0.toInt = 21 := lv_neT (fun e => c1_96 e) rfl
  have n_22 : ¬ l0.toInt = 22 := lv_neT (fun e => c1_100 e) rfl
  have n_23 : ¬ l0.toInt = 23 := lv_neT (fun e => c1_104 e) rfl
  have n_24 : ¬ l0.toInt = 24 := lv_neT (fun e => c1_110 e) rfl
  have n_25 : ¬ l0.toInt = 25 := lv_neT (fun e => c1_129 e) rfl
  by_cases hr : l0.toInt < 13 ∨ 25 < l0.toInt
  · refine ww_tableOut (pc := 1) (tgt := 132) g.1 d_Mo_reckon_1 hr (by decide) ?_
    refine ww_lload_n (pc := 132) g.1 d_Mo_reckon_132 rfl (lv_at hl 1 rfl) ?_
    refine ww_ldc2 (pc := 133) g (v := (-1)) kw_286 d_Mo_reckon_133 ?_
    refine ww_lxor (pc := 136) g.1 d_Mo_reckon_136 ?_
    exact ww_lretH (pc := 137) g h hR d_Mo_reckon_137
  have hh : l0.toInt = 17 ∨ l0.toInt = 18 := by omega
  rcases hh with c | c
  · refine ww_tableIn (pc := 1) (tgt := 132) g.1 d_Mo_reckon_1 (by rw [c]; decide) (by rw [c]; decide) (by rw [c]; rfl) (by decide) ?_
    refine ww_lload_n (pc := 132) g.1 d_Mo_reckon_132 rfl (lv_at hl 1 rfl) ?_
    refine ww_ldc2 (pc := 133) g (v := (-1)) kw_286 d_Mo_reckon_133 ?_
    refine ww_lxor (pc := 136) g.1 d_Mo_reckon_136 ?_
    exact ww_lretH (pc := 137) g h hR d_Mo_reckon_137
  · refine ww_tableIn (pc := 1) (tgt := 132) g.1 d_Mo_reckon_1 (by rw [c]; decide) (by rw [c]; decide) (by rw [c]; rfl) (by decide) ?_
    refine ww_lload_n (pc := 132) g.1 d_Mo_reckon_132 rfl (lv_at hl 1 rfl) ?_
    refine ww_ldc2 (pc := 133) g (v := (-1)) kw_286 d_Mo_reckon_133 ?_
    refine ww_lxor (pc := 136) g.1 d_Mo_reckon_136 ?_
    exact ww_lretH (pc := 137) g h hR d_Mo_reckon_137

abbrev b_Mo_gather : ByteArray := prog_14_method_128_code
def y_Mo_gather : MethodName := ⟨R_Mo, "gather", "(LLuaMachineModel$Thread_;III)Z"⟩
abbrev w_Mo_gather : List Cond := .code y_Mo_gather b_Mo_gather 7 (some .boolean) :: wA
theorem k_Mo_gather : Cond.code y_Mo_gather b_Mo_gather 7 (some .boolean) ∈ wA := kinm (show _ ∈ tables_1 from (List.mem_append_right _ (List.mem_append_right _ (List.mem_append_right _ (List.mem_append_right _ (List.mem_append_right _ (List.mem_append_right _ (List.mem_append_right _ (List.mem_append_right _ (List.mem_append_right _ (List.mem_append_right _ (List.mem_append_right _ (List.mem_append_right _ (List.mem_append_left _ (List.mem_of_getElem? (l := tables_1_13) (i := 211) (by decide +kernel)))))))))))))))) (by decide +kernel)
theorem d_Mo_gather_0 : decode b_Mo_gather 0 = .ok (.iload 4, 2) := by decide +kernel
theorem d_Mo_gather_2 : decode b_Mo_gather 2 = .ok (.ifCond .le 10, 3) := by decide +kernel
theorem d_Mo_gather_5 : decode b_Mo_gather 5 = .ok (.iload_n 3, 1) := by decide +kernel
theorem d_Mo_gather_6 : decode b_Mo_gather 6 = .ok (.iload 4, 2) := by decide +kernel
theorem d_Mo_gather_8 : decode b_Mo_gather 8 = .ok (.iadd, 1) := by decide +kernel
theorem d_Mo_gather_9 : decode b_Mo_gather 9 = .ok (.goto 16, 3) := by decide +kernel
theorem d_Mo_gather_12 : decode b_Mo_gather 12 = .ok (.aload_n 1, 1) := by decide +kernel
theorem d_Mo_gather_13 : decode b_Mo_gather 13 = .ok (.getfield 773, 3) := by decide +kernel
theorem d_Mo_gather_16 : decode b_Mo_gather 16 = .ok (.iload_n 2, 1) := by decide +kernel
theorem d_Mo_gather_17 : decode b_Mo_gather 17 = .ok (.iaload, 1) := by decide +kernel
theorem d_Mo_gather_18 : decode b_Mo_gather 18 = .ok (.aload_n 1, 1) := by decide +kernel
theorem d_Mo_gather_19 : decode b_Mo_gather 19 = .ok (.getfield 738, 3) := by decide +kernel
theorem d_Mo_gather_22 : decode b_Mo_gather 22 = .ok (.iload_n 2, 1) := by decide +kernel
theorem d_Mo_gather_23 : decode b_Mo_gather 23 = .ok (.iaload, 1) := by decide +kernel
theorem d_Mo_gather_24 : decode b_Mo_gather 24 = .ok (.iadd, 1) := by decide +kernel
theorem d_Mo_gather_25 : decode b_Mo_gather 25 = .ok (.istore 5, 2) := by decide +kernel
theorem d_Mo_gather_27 : decode b_Mo_gather 27 = .ok (.aload_n 0, 1) := by decide +kernel
theorem d_Mo_gather_28 : decode b_Mo_gather 28 = .ok (.getfield 259, 3) := by decide +kernel
theorem d_Mo_gather_31 : decode b_Mo_gather 31 = .ok (.iconst 0, 1) := by decide +kernel
theorem d_Mo_gather_32 : decode b_Mo_gather 32 = .ok (.putfield 569, 3) := by decide +kernel
theorem d_Mo_gather_35 : decode b_Mo_gather 35 = .ok (.iload 5, 2) := by decide +kernel
theorem d_Mo_gather_37 : decode b_Mo_gather 37 = .ok (.iload_n 3, 1) := by decide +kernel
theorem d_Mo_gather_38 : decode b_Mo_gather 38 = .ok (.isub, 1) := by decide +kernel
theorem d_Mo_gather_39 : decode b_Mo_gather 39 = .ok (.iconst 1, 1) := by decide +kernel
theorem d_Mo_gather_40 : decode b_Mo_gather 40 = .ok (.isub, 1) := by decide +kernel
theorem d_Mo_gather_41 : decode b_Mo_gather 41 = .ok (.sipush 250, 3) := by decide +kernel
theorem d_Mo_gather_44 : decode b_Mo_gather 44 = .ok (.if_icmp .le 19, 3) := by decide +kernel
theorem d_Mo_gather_47 : decode b_Mo_gather 47 = .ok (.aload_n 1, 1) := by decide +kernel
theorem d_Mo_gather_48 : decode b_Mo_gather 48 = .ok (.getfield 738, 3) := by decide +kernel
theorem d_Mo_gather_51 : decode b_Mo_gather 51 = .ok (.iload_n 2, 1) := by decide +kernel
theorem d_Mo_gather_52 : decode b_Mo_gather 52 = .ok (.iconst 0, 1) := by decide +kernel
theorem d_Mo_gather_53 : decode b_Mo_gather 53 = .ok (.iastore, 1) := by decide +kernel
theorem d_Mo_gather_54 : decode b_Mo_gather 54 = .ok (.aload_n 0, 1) := by decide +kernel
theorem d_Mo_gather_55 : decode b_Mo_gather 55 = .ok (.bipush 7, 2) := by decide +kernel
theorem d_Mo_gather_57 : decode b_Mo_gather 57 = .ok (.invokevirtual 517, 3) := by decide +kernel
theorem d_Mo_gather_60 : decode b_Mo_gather 60 = .ok (.pop, 1) := by decide +kernel
theorem d_Mo_gather_61 : decode b_Mo_gather 61 = .ok (.iconst 0, 1) := by decide +kernel
theorem d_Mo_gather_62 : decode b_Mo_gather 62 = .ok (.ireturn, 1) := by decide +kernel
theorem d_Mo_gather_63 : decode b_Mo_gather 63 = .ok (.iload_n 3, 1) := by decide +kernel
theorem d_Mo_gather_64 : decode b_Mo_gather 64 = .ok (.iconst 1, 1) := by decide +kernel
theorem d_Mo_gather_65 : decode b_Mo_gather 65 = .ok (.iadd, 1) := by decide +kernel
theorem d_Mo_gather_66 : decode b_Mo_gather 66 = .ok (.istore 6, 2) := by decide +kernel
theorem d_Mo_gather_68 : decode b_Mo_gather 68 = .ok (.iload 6, 2) := by decide +kernel
theorem d_Mo_gather_70 : decode b_Mo_gather 70 = .ok (.iload 5, 2) := by decide +kernel
theorem d_Mo_gather_72 : decode b_Mo_gather 72 = .ok (.if_icmp .ge 31, 3) := by decide +kernel
theorem d_Mo_gather_75 : decode b_Mo_gather 75 = .ok (.aload_n 0, 1) := by decide +kernel
theorem d_Mo_gather_76 : decode b_Mo_gather 76 = .ok (.aload_n 0, 1) := by decide +kernel
theorem d_Mo_gather_77 : decode b_Mo_gather 77 = .ok (.getfield 259, 3) := by decide +kernel
theorem d_Mo_gather_80 : decode b_Mo_gather 80 = .ok (.aload_n 1, 1) := by decide +kernel
theorem d_Mo_gather_81 : decode b_Mo_gather 81 = .ok (.iload_n 2, 1) := by decide +kernel
theorem d_Mo_gather_82 : decode b_Mo_gather 82 = .ok (.iload 4, 2) := by decide +kernel
theorem d_Mo_gather_84 : decode b_Mo_gather 84 = .ok (.ifCond .ne 7, 3) := by decide +kernel
theorem d_Mo_gather_87 : decode b_Mo_gather 87 = .ok (.iconst 1, 1) := by decide +kernel
theorem d_Mo_gather_88 : decode b_Mo_gather 88 = .ok (.goto 4, 3) := by decide +kernel
theorem d_Mo_gather_91 : decode b_Mo_gather 91 = .ok (.iconst 0, 1) := by decide +kernel
theorem d_Mo_gather_92 : decode b_Mo_gather 92 = .ok (.iload 6, 2) := by decide +kernel
theorem d_Mo_gather_94 : decode b_Mo_gather 94 = .ok (.invokevirtual 993, 3) := by decide +kernel
theorem d_Mo_gather_97 : decode b_Mo_gather 97 = .ok (.iinc 6 1, 3) := by decide +kernel
theorem d_Mo_gather_100 : decode b_Mo_gather 100 = .ok (.goto (-32), 3) := by decide +kernel
theorem d_Mo_gather_103 : decode b_Mo_gather 103 = .ok (.aload_n 1, 1) := by decide +kernel
theorem d_Mo_gather_104 : decode b_Mo_gather 104 = .ok (.getfield 738, 3) := by decide +kernel
theorem d_Mo_gather_107 : decode b_Mo_gather 107 = .ok (.iload_n 2, 1) := by decide +kernel
theorem d_Mo_gather_108 : decode b_Mo_gather 108 = .ok (.iconst 0, 1) := by decide +kernel
theorem d_Mo_gather_109 : decode b_Mo_gather 109 = .ok (.iastore, 1) := by decide +kernel
theorem d_Mo_gather_110 : decode b_Mo_gather 110 = .ok (.iconst 1, 1) := by decide +kernel
theorem d_Mo_gather_111 : decode b_Mo_gather 111 = .ok (.ireturn, 1) := by decide +kernel
theorem kw_384 : Cond.methodLink R_Mo 993 y_Mo_addAt ∈ wA := kinm (show _ ∈ tables_1 from (List.mem_append_right _ (List.mem_append_right _ (List.mem_append_right _ (List.mem_append_right _ (List.mem_append_right _ (List.mem_append_right _ (List.mem_append_right _ (List.mem_append_right _ (List.mem_append_right _ (List.mem_append_right _ (List.mem_append_right _ (List.mem_append_right _ (List.mem_append_left _ (List.mem_of_getElem? (l := tables_1_13) (i := 212) (by decide +kernel)))))))))))))))) (by decide +kernel)
theorem kw_385 : Cond.instanceMethod y_Mo_gather ∈ wA := kinm (show _ ∈ tables_1 from (List.mem_append_right _ (List.mem_append_right _ (List.mem_append_right _ (List.mem_append_right _ (List.mem_append_right _ (List.mem_append_right _ (List.mem_append_right _ (List.mem_append_right _ (List.mem_append_right _ (List.mem_append_right _ (List.mem_append_right _ (List.mem_append_right _ (List.mem_append_left _ (List.mem_of_getElem? (l := tables_1_13) (i := 210) (by decide +kernel)))))))))))))))) (by decide +kernel)
theorem kw_386 : Cond.selects R_Mo y_Mo_gather y_Mo_gather ∈ wA := kinp 219 (by decide +kernel) (by decide +kernel)
theorem cv_Mo_gather : CV y_Mo_gather b_Mo_gather 7 (some .boolean) 4 := ⟨kw_385, kw_386, kw_17, k_Mo_gather, by decide +kernel⟩
theorem j_Mo_gather_j92 {X : Cx} {q : PL} (g : Gd X y_Mo_gather b_Mo_gather 7 (some .boolean) 3 70 R_Mo) {o : ((Int32 × Int32 × Int32 × Int32 × Int32) ⊕ ((Int32 × Int32))) × S1} (hR : (Sum.elim (fun y : Int32 × Int32 × Int32 × Int32 × Int32 => ∀ ls : Array Slot, (0 ≤ y.1 ∧ y.1 < 33) → lv_has ls 7 [(0, .ref (q.1 0 0)), (1, .ref (q.1 28 y.1)), (2, .int y.2.1), (4, .int y.2.2.1), (5, .int y.2.2.2.1), (6, .int y.2.2.2.2)] → WW X q o.2 68 ls []) (fun y : Int32 × Int32 => ∀ ls : Array Slot, (0 ≤ y.1 ∧ y.1 < 33) → lv_has ls 7 [(1, .ref (q.1 28 y.1)), (2, .int y.2)] → WW X q o.2 103 ls []) o.1)) (l1 : Int32) (l2 : Int32) (l4 : Int32) (l5 : Int32) (l6 : Int32) (k0 : Int32) (k1 : Int32) (k2 : Int32) (s : S1) (hp0 : 0 ≤ l1 ∧ l1 < 33) (hp1 : 0 ≤ k2 ∧ k2 < 33) (ls : Array Slot) (hl : lv_has ls 7 [(0, .ref (q.1 0 0)), (1, .ref (q.1 28 l1)), (2, .int l2), (4, .int l4), (5, .int l5), (6, .int l6)]) (h : M_Mo_gather_j92 l1 l2 l4 l5 l6 k0 k1 k2 s = some o) : WW X q s 92 ls [.int k0, .int k1, .ref (q.1 28 k2), .ref (q.1 7 0), .ref (q.1 0 0)] := by
  unfold M_Mo_gather_j92 at h
  refine ww_iload (pc := 92) g.1 d_Mo_gather_92 (lv_at hl 5 rfl) ?_
  obtain ⟨v94, s, hc94, h⟩ := oB_of h
  refine ww_callV (pc := 94) (rest := []) g cv_Mo_addAt (Or.inl kw_384) cl_Mo (pz rfl (by decide)) (ct_Mo_addAt (Or.inl ⟨by decide, rfl⟩) hp1 hc94) ⟨by decide, by decide⟩ rfl hl.1 (Nat.le_of_ble_eq_true rfl) d_Mo_gather_94 rfl ?_
  refine ww_st (st' := []) rfl ?_
  refine ww_iinc (pc := 97) g.1 (v := l6 + 1) (lv' := [(6, .int (l6 + 1)), (0, .ref (q.1 0 0)), (1, .ref (q.1 28 l1)), (2, .int l2), (4, .int l4), (5, .int l5)]) d_Mo_gather_97 hl (k := 5) rfl (by rfl) (by decide) rfl fun ls hl => ?_
  refine ww_goto (pc := 100) (tgt := 68) g.1 d_Mo_gather_100 (by decide) ?_
  rw [oR_eq h] at hR
  exact hR ls hp0 (lv_sub hl [1, 2, 3, 4, 5, 0] rfl)

theorem lp_Mo_gather_L68 {X : Cx} {q : PL} (g : Gd X y_Mo_gather b_Mo_gather 7 (some .boolean) 3 70 R_Mo) (x : Int32 × Int32 × Int32 × Int32 × Int32) (s : S1) (o : ((Int32 × Int32 × Int32 × Int32 × Int32) ⊕ ((Int32 × Int32))) × S1) (h : M_Mo_gather_L68 x s = some o) (hR : (Sum.elim (fun y : Int32 × Int32 × Int32 × Int32 × Int32 => ∀ ls : Array Slot, (0 ≤ y.1 ∧ y.1 < 33) → lv_has ls 7 [(0, .ref (q.1 0 0)), (1, .ref (q.1 28 y.1)), (2, .int y.2.1), (4, .int y.2.2.1), (5, .int y.2.2.2.1), (6, .int y.2.2.2.2)] → WW X q o.2 68 ls []) (fun y : Int32 × Int32 => ∀ ls : Array Slot, (0 ≤ y.1 ∧ y.1 < 33) → lv_has ls 7 [(1, .ref (q.1 28 y.1)), (2, .int y.2)] → WW X q o.2 103 ls []) o.1)) : ∀ ls : Array Slot, (0 ≤ x.1 ∧ x.1 < 33) → lv_has ls 7 [(0, .ref (q.1 0 0)), (1, .ref (q.1 28 x.1)), (2, .int x.2.1), (4, .int x.2.2.1), (5, .int x.2.2.2.1), (6, .int x.2.2.2.2)] → WW X q s 68 ls [] := by
  intro ls hp0 hl
  unfold M_Mo_gather_L68 at h
  refine ww_iload (pc := 68) g.1 d_Mo_gather_68 (lv_at hl 5 rfl) ?_
  refine ww_iload (pc := 70) g.1 d_Mo_gather_70 (lv_at hl 4 rfl) ?_
  refine ww_icmp_ge (pc := 72) (tgt := 103) g.1 d_Mo_gather_72 (by decide) h (fun c h => ?_) (fun c h => ?_)
  · rw [oR_eq h] at hR
    exact hR ls hp0 (lv_sub hl [1, 2] rfl)
  · refine ww_aload_n (pc := 75) g.1 d_Mo_gather_75 rfl (lv_at hl 0 rfl) ?_
    refine ww_aload_n (pc := 76) g.1 d_Mo_gather_76 rfl (lv_at hl 0 rfl) ?_
    refine ww_gR (pc := 77) g (k := 77) cl_Mo (pz rfl (by decide)) (by decide) (Or.inl kw_182) (f := 77) (t := 7) rfl rfl rfl d_Mo_gather_77 ?_
    refine ww_aload_n (pc := 80) g.1 d_Mo_gather_80 rfl (lv_at hl 1 rfl) ?_
    refine ww_iload_n (pc := 81) g.1 d_Mo_gather_81 rfl (lv_at hl 2 rfl) ?_
    refine ww_iload (pc := 82) g.1 d_Mo_gather_82 (lv_at hl 3 rfl) ?_
    refine ww_if_ne (pc := 84) (tgt := 91) g.1 d_Mo_gather_84 (by decide) h (fun c h => ?_) (fun c h => ?_)
    · refine ww_iconst (pc := 91) g.1 (v := 0) d_Mo_gather_91 (by decide) ?_
      exact j_Mo_gather_j92 g hR x.1 x.2.1 x.2.2.1 x.2.2.2.1 x.2.2.2.2 0 x.2.1 x.1 s hp0 hp0 ls (lv_sub hl [0, 1, 2, 3, 4, 5] rfl) h
    · refine ww_iconst (pc := 87) g.1 (v := 1) d_Mo_gather_87 (by decide) ?_
      refine ww_goto (pc := 88) (tgt := 92) g.1 d_Mo_gather_88 (by decide) ?_
      exact j_Mo_gather_j92 g hR x.1 x.2.1 x.2.2.1 x.2.2.2.1 x.2.2.2.2 1 x.2.1 x.1 s hp0 hp0 ls (lv_sub hl [0, 1, 2, 3, 4, 5] rfl) h

theorem j_Mo_gather_j25 {X : Cx} {q : PL} (g : Gd X y_Mo_gather b_Mo_gather 7 (some .boolean) 3 70 R_Mo) {o : (Int32) × S1} (hR : Rt X q o.2 (some (.int o.1))) (l1 : Int32) (l2 : Int32) (l3 : Int32) (l4 : Int32) (k0 : Int32) (s : S1) (hp0 : 0 ≤ l1 ∧ l1 < 33) (ls : Array Slot) (hl : lv_has ls 7 [(0, .ref (q.1 0 0)), (1, .ref (q.1 28 l1)), (2, .int l2), (3, .int l3), (4, .int l4)]) (h : M_Mo_gather_j25 l1 l2 l3 l4 k0 s = some o) : WW X q s 25 ls [.int k0] := by
  unfold M_Mo_gather_j25 at h
  refine ww_istore (pc := 25) (i := 5) g.1 (lv' := [(5, .int k0), (0, .ref (q.1 0 0)), (1, .ref (q.1 28 l1)), (2, .int l2), (3, .int l3), (4, .int l4)]) d_Mo_gather_25 hl (by decide) rfl fun ls hl => ?_
  refine ww_aload_n (pc := 27) g.1 d_Mo_gather_27 rfl (lv_at hl 1 rfl) ?_
  refine ww_gR (pc := 28) g (k := 77) cl_Mo (pz rfl (by decide)) (by decide) (Or.inl kw_182) (f := 77) (t := 7) rfl rfl rfl d_Mo_gather_28 ?_
  refine ww_iconst (pc := 31) g.1 (v := 0) d_Mo_gather_31 (by decide) ?_
  refine ww_pI (pc := 32) g (k := 2) (cl_Va (Or.inl ⟨by decide, rfl⟩)) (pz rfl (by decide)) (by decide) (Or.inl kw_179) rfl (f := 898) rfl rfl rfl rfl d_Mo_gather_32 h fun s hs h => ?_
  refine ww_iload (pc := 35) g.1 d_Mo_gather_35 (lv_at hl 0 rfl) ?_
  refine ww_iload_n (pc := 37) g.1 d_Mo_gather_37 rfl (lv_at hl 4 rfl) ?_
  refine ww_isub (pc := 38) g.1 d_Mo_gather_38 ?_
  refine ww_iconst (pc := 39) g.1 (v := 1) d_Mo_gather_39 (by decide) ?_
  refine ww_isub (pc := 40) g.1 d_Mo_gather_40 ?_
  refine ww_sipush (pc := 41) g.1 (v := 250) d_Mo_gather_41 (by decide) ?_
  refine ww_icmp_le (pc := 44) (tgt := 63) g.1 d_Mo_gather_44 (by decide) h (fun c h => ?_) (fun c h => ?_)
  · refine ww_iload_n (pc := 63) g.1 d_Mo_gather_63 rfl (lv_at hl 4 rfl) ?_
    refine ww_iconst (pc := 64) g.1 (v := 1) d_Mo_gather_64 (by decide) ?_
    refine ww_iadd (pc := 65) g.1 d_Mo_gather_65 ?_
    refine ww_leti h fun l6_66 h => ?_
    refine ww_istore (pc := 66) (i := 6) g.1 (lv' := [(6, .int l6_66), (5, .int k0), (0, .ref (q.1 0 0)), (1, .ref (q.1 28 l1)), (2, .int l2), (3, .int l3), (4, .int l4)]) d_Mo_gather_66 hl (by decide) rfl fun ls hl => ?_
    obtain ⟨e68, s1, hw, h⟩ := oB_of h
    refine oW_rule (Wh := fun (x : Int32 × Int32 × Int32 × Int32 × Int32) (s : S1) => ∀ ls : Array Slot, (0 ≤ x.1 ∧ x.1 < 33) → lv_has ls 7 [(0, .ref (q.1 0 0)), (1, .ref (q.1 28 x.1)), (2, .int x.2.1), (4, .int x.2.2.1), (5, .int x.2.2.2.1), (6, .int x.2.2.2.2)] → WW X q s 68 ls []) (We := fun (e : (Int32 × Int32)) (s : S1) => ∀ ls : Array Slot, (0 ≤ e.1 ∧ e.1 < 33) → lv_has ls 7 [(1, .ref (q.1 28 e.1)), (2, .int e.2)] → WW X q s 103 ls []) (fun x s o hb hc => lp_Mo_gather_L68 (q := q) g x s o hb hc) hw ?_ ls hp0 (lv_sub hl [2, 3, 4, 6, 1, 0] rfl)
    clear hw hl
    clear ls
    intro ls hq68_0 hl
    generalize s1 = s at h ⊢
    refine ww_aload_n (pc := 103) g.1 d_Mo_gather_103 rfl (lv_at hl 0 rfl) ?_
    refine ww_gR (pc := 104) g (k := 17) cl_Th (pt rfl rfl hq68_0) (by decide) (Or.inl kw_154) (f := 3601) (t := 36) rfl rfl rfl d_Mo_gather_104 ?_
    refine ww_iload_n (pc := 107) g.1 d_Mo_gather_107 rfl (lv_at hl 1 rfl) ?_
    refine ww_iconst (pc := 108) g.1 (v := 0) d_Mo_gather_108 (by decide) ?_
    refine ww_si (pc := 109) g (pt rfl rfl hq68_0) rfl rfl d_Mo_gather_109 h fun s hs h => ?_
    refine ww_iconst (pc := 110) g.1 (v := 1) d_Mo_gather_110 (by decide) ?_
    exact ww_zretH (pc := 111) g h hR (Or.inr rfl) d_Mo_gather_111
  · refine ww_aload_n (pc := 47) g.1 d_Mo_gather_47 rfl (lv_at hl 2 rfl) ?_
    refine ww_gR (pc := 48) g (k := 17) cl_Th (pt rfl rfl hp0) (by decide) (Or.inl kw_154) (f := 3601) (t := 36) rfl rfl rfl d_Mo_gather_48 ?_
    refine ww_iload_n (pc := 51) g.1 d_Mo_gather_51 rfl (lv_at hl 3 rfl) ?_
    refine ww_iconst (pc := 52) g.1 (v := 0) d_Mo_gather_52 (by decide) ?_
    refine ww_si (pc := 53) g (pt rfl rfl hp0) rfl rfl d_Mo_gather_53 h fun s hs h => ?_
    refine ww_aload_n (pc := 54) g.1 d_Mo_gather_54 rfl (lv_at hl 1 rfl) ?_
    refine ww_bipush (pc := 55) g.1 (v := 7) d_Mo_gather_55 (by decide) ?_
    obtain ⟨v57, s, hc57, h⟩ := oB_of h
    refine ww_callV (pc := 57) (rest := []) g cv_Mo_raise (Or.inl kw_157) cl_Mo (pz rfl (by decide)) (ct_Mo_raise hc57) ⟨by decide, by decide⟩ rfl hl.1 (Nat.le_of_ble_eq_true rfl) d_Mo_gather_57 rfl ?_
    refine ww_st (st' := [.int v57]) rfl ?_
    refine ww_pop (pc := 60) g.1 d_Mo_gather_60 rfl ?_
    refine ww_iconst (pc := 61) g.1 (v := 0) d_Mo_gather_61 (by decide) ?_
    exact ww_zretH (pc := 62) g h hR (Or.inl rfl) d_Mo_gather_62

theorem ct_Mo_gather {l : Launch} {P : PP} {q : PL} {s s' : S1} {l1 : Int32} {l2 : Int32} {l3 : Int32} {l4 : Int32} (hp0 : 0 ≤ l1 ∧ l1 < 33) {r : Int32} (h : M_Mo_gather l1 l2 l3 l4 s = some (r, s')) : Ct l y_Mo_gather b_Mo_gather 7 (some .boolean) 3 70 P q s [.ref (q.1 0 0), .ref (q.1 28 l1), .int l2, .int l3, .int l4] (some (.int r)) q s' := by
  refine ct_of (by decide) (Nat.le_of_ble_eq_true rfl) fun X ls eP el g hR hl => ?_
  subst eP
  have hR : Rt X q ((r, s') : Int32 × S1).2 (some (.int ((r, s') : Int32 × S1).1)) := hR
  have hl : lv_has ls 7 [(0, .ref (q.1 0 0)), (1, .ref (q.1 28 l1)), (2, .int l2), (3, .int l3), (4, .int l4)] := hl
  generalize (r, s') = o at h hR
  unfold M_Mo_gather at h
  refine ww_iload (pc := 0) g.1 d_Mo_gather_0 (lv_at hl 4 rfl) ?_
  refine ww_if_le (pc := 2) (tgt := 12) g.1 d_Mo_gather_2 (by decide) h (fun c h => ?_) (fun c h => ?_)
  · refine ww_aload_n (pc := 12) g.1 d_Mo_gather_12 rfl (lv_at hl 1 rfl) ?_
    refine ww_gR (pc := 13) g (k := 16) cl_Th (pt rfl rfl hp0) (by decide) (Or.inl kw_270) (f := 3600) (t := 35) rfl rfl rfl d_Mo_gather_13 ?_
    refine ww_iload_n (pc := 16) g.1 d_Mo_gather_16 rfl (lv_at hl 2 rfl) ?_
    refine ww_ai (pc := 17) g (pt rfl rfl hp0) rfl rfl d_Mo_gather_17 h fun v17 h => ?_
    refine ww_aload_n (pc := 18) g.1 d_Mo_gather_18 rfl (lv_at hl 1 rfl) ?_
    refine ww_gR (pc := 19) g (k := 17) cl_Th (pt rfl rfl hp0) (by decide) (Or.inl kw_154) (f := 3601) (t := 36) rfl rfl rfl d_Mo_gather_19 ?_
    refine ww_iload_n (pc := 22) g.1 d_Mo_gather_22 rfl (lv_at hl 2 rfl) ?_
    refine ww_ai (pc := 23) g (pt rfl rfl hp0) rfl rfl d_Mo_gather_23 h fun v23 h => ?_
    refine ww_iadd (pc := 24) g.1 d_Mo_gather_24 ?_
    exact j_Mo_gather_j25 g hR l1 l2 l3 l4 (v17 + v23) s hp0 ls (lv_sub hl [0, 1, 2, 3, 4] rfl) h
  · refine ww_iload_n (pc := 5) g.1 d_Mo_gather_5 rfl (lv_at hl 3 rfl) ?_
    refine ww_iload (pc := 6) g.1 d_Mo_gather_6 (lv_at hl 4 rfl) ?_
    refine ww_iadd (pc := 8) g.1 d_Mo_gather_8 ?_
    refine ww_goto (pc := 9) (tgt := 25) g.1 d_Mo_gather_9 (by decide) ?_
    exact j_Mo_gather_j25 g hR l1 l2 l3 l4 (l3 + l4) s hp0 ls (lv_sub hl [0, 1, 2, 3, 4] rfl) h

abbrev b_Mo_kind : ByteArray := prog_14_method_140_code
def y_Mo_kind : MethodName := ⟨R_Mo, "kind", "(I)I"⟩
abbrev w_Mo_kind : List Cond := .code y_Mo_kind b_Mo_kind 2 (some .int) :: wA
theorem k_Mo_kind : Cond.code y_Mo_kind b_Mo_kind 2 (some .int) ∈ wA := kinm (show _ ∈ tables_1 from (List.mem_append_right _ (List.mem_append_right _ (List.mem_append_right _ (List.mem_append_right _ (List.mem_append_right _ (List.mem_append_right _ (List.mem_append_right _ (List.mem_append_right _ (List.mem_append_right _ (List.mem_append_right _ (List.mem_append_right _ (List.mem_append_right _ (List.mem_append_right _ (List.mem_of_getElem? (l := tables_1_14) (i := 7) (by decide +kernel)))))))))))))))) (by decide +kernel)
theorem d_Mo_kind_0 : decode b_Mo_kind 0 = .ok (.aload_n 0, 1) := by decide +kernel
theorem d_Mo_kind_1 : decode b_Mo_kind 1 = .ok (.iload_n 1, 1) := by decide +kernel
theorem d_Mo_kind_2 : decode b_Mo_kind 2 = .ok (.invokevirtual 1033, 3) := by decide +kernel
theorem d_Mo_kind_5 : decode b_Mo_kind 5 = .ok (.ifCond .eq 7, 3) := by decide +kernel
theorem d_Mo_kind_8 : decode b_Mo_kind 8 = .ok (.iconst 0, 1) := by decide +kernel
theorem d_Mo_kind_9 : decode b_Mo_kind 9 = .ok (.goto 12, 3) := by decide +kernel
theorem d_Mo_kind_12 : decode b_Mo_kind 12 = .ok (.aload_n 0, 1) := by decide +kernel
theorem d_Mo_kind_13 : decode b_Mo_kind 13 = .ok (.getfield 265, 3) := by decide +kernel
theorem d_Mo_kind_16 : decode b_Mo_kind 16 = .ok (.getfield 585, 3) := by decide +kernel
theorem d_Mo_kind_19 : decode b_Mo_kind 19 = .ok (.iload_n 1, 1) := by decide +kernel
theorem d_Mo_kind_20 : decode b_Mo_kind 20 = .ok (.baload, 1) := by decide +kernel
theorem d_Mo_kind_21 : decode b_Mo_kind 21 = .ok (.ireturn, 1) := by decide +kernel
theorem kw_387 : Cond.instanceMethod y_Mo_kind ∈ wA := kinm (show _ ∈ tables_1 from (List.mem_append_right _ (List.mem_append_right _ (List.mem_append_right _ (List.mem_append_right _ (List.mem_append_right _ (List.mem_append_right _ (List.mem_append_right _ (List.mem_append_right _ (List.mem_append_right _ (List.mem_append_right _ (List.mem_append_right _ (List.mem_append_right _ (List.mem_append_right _ (List.mem_of_getElem? (l := tables_1_14) (i := 5) (by decide +kernel)))))))))))))))) (by decide +kernel)
theorem kw_388 : Cond.selects R_Mo y_Mo_kind y_Mo_kind ∈ wA := kinm (show _ ∈ tables_1 from (List.mem_append_right _ (List.mem_append_right _ (List.mem_append_right _ (List.mem_append_right _ (List.mem_append_right _ (List.mem_append_right _ (List.mem_append_right _ (List.mem_append_right _ (List.mem_append_right _ (List.mem_append_right _ (List.mem_append_right _ (List.mem_append_right _ (List.mem_append_right _ (List.mem_of_getElem? (l := tables_1_14) (i := 6) (by decide +kernel)))))))))))))))) (by decide +kernel)
theorem cv_Mo_kind : CV y_Mo_kind b_Mo_kind 2 (some .int) 1 := ⟨kw_387, kw_388, kw_17, k_Mo_kind, by decide +kernel⟩
theorem ct_Mo_kind {l : Launch} {P : PP} {q : PL} {s s' : S1} {l1 : Int32} {r : Int32} (h : M_Mo_kind l1 s = some (r, s')) : Ct l y_Mo_kind b_Mo_kind 2 (some .int) 2 43 P q s [.ref (q.1 0 0), .int l1] (some (.int r)) q s' := by
  refine ct_of (by decide) (Nat.le_of_ble_eq_true rfl) fun X ls eP el g hR hl => ?_
  subst eP
  have hR : Rt X q ((r, s') : Int32 × S1).2 (some (.int ((r, s') : Int32 × S1).1)) := hR
  have hl : lv_has ls 2 [(0, .ref (q.1 0 0)), (1, .int l1)] := hl
  generalize (r, s') = o at h hR
  unfold M_Mo_kind at h
  refine ww_aload_n (pc := 0) g.1 d_Mo_kind_0 rfl (lv_at hl 0 rfl) ?_
  refine ww_iload_n (pc := 1) g.1 d_Mo_kind_1 rfl (lv_at hl 1 rfl) ?_
  obtain ⟨v2, s, hc2, h⟩ := oB_of h
  refine ww_callV (pc := 2) (rest := []) g cv_Mo_none (Or.inl kw_287) cl_Mo (pz rfl (by decide)) (ct_Mo_none hc2) ⟨by decide, by decide⟩ rfl hl.1 (Nat.le_of_ble_eq_true rfl) d_Mo_kind_2 rfl ?_
  refine ww_st (st' := [.int v2]) rfl ?_
  refine ww_if_eq (pc := 5) (tgt := 12) g.1 d_Mo_kind_5 (by decide) h (fun c h => ?_) (fun c h => ?_)
  · refine ww_aload_n (pc := 12) g.1 d_Mo_kind_12 rfl (lv_at hl 0 rfl) ?_
    refine ww_gR (pc := 13) g (k := 79) cl_Mo (pz rfl (by decide)) (by decide) (Or.inl kw_233) (f := 79) (t := 13) rfl rfl rfl d_Mo_kind_13 ?_
    refine ww_gR (pc := 16) g (k := 0) (cl_Va (Or.inl ⟨by decide, rfl⟩)) (pz rfl (by decide)) (by decide) (Or.inl kw_90) (f := 1664) (t := 14) rfl rfl rfl d_Mo_kind_16 ?_
    refine ww_iload_n (pc := 19) g.1 d_Mo_kind_19 rfl (lv_at hl 1 rfl) ?_
    refine ww_ab (pc := 20) g (pz rfl (by decide)) rfl rfl d_Mo_kind_20 h fun v20 h => ?_
    exact ww_iretH (pc := 21) g h hR d_Mo_kind_21
  · refine ww_iconst (pc := 8) g.1 (v := 0) d_Mo_kind_8 (by decide) ?_
    refine ww_goto (pc := 9) (tgt := 21) g.1 d_Mo_kind_9 (by decide) ?_
    exact ww_iretH (pc := 21) g h hR d_Mo_kind_21

abbrev b_Mo_formed : ByteArray := prog_14_method_24_code
def y_Mo_formed : MethodName := ⟨R_Mo, "formed", "(II)Z"⟩
abbrev w_Mo_formed : List Cond := .code y_Mo_formed b_Mo_formed 8 (some .boolean) :: wA
set_option maxRecDepth 20000 in
theorem k_Mo_formed : Cond.code y_Mo_formed b_Mo_formed 8 (some .boolean) ∈ wA := kinm (show _ ∈ tables_1 from (List.mem_append_right _ (List.mem_append_right _ (List.mem_append_right _ (List.mem_append_right _ (List.mem_append_right _ (List.mem_append_right _ (List.mem_append_right _ (List.mem_append_right _ (List.mem_append_right _ (List.mem_append_right _ (List.mem_append_left _ (List.mem_of_getElem? (l := tables_1_11) (i := 173) rfl))))))))))))) rfl
theorem d_Mo_formed_0 : decode b_Mo_formed 0 = .ok (.aload_n 0, 1) := by decide +kernel
theorem d_Mo_formed_1 : decode b_Mo_formed 1 = .ok (.iload_n 1, 1) := by decide +kernel
theorem d_Mo_formed_2 : decode b_Mo_formed 2 = .ok (.putfield 113, 3) := by decide +kernel
theorem d_Mo_formed_5 : decode b_Mo_formed 5 = .ok (.aload_n 0, 1) := by decide +kernel
theorem d_Mo_formed_6 : decode b_Mo_formed 6 = .ok (.aload_n 0, 1) := by decide +kernel
theorem d_Mo_formed_7 : decode b_Mo_formed 7 = .ok (.getfield 38, 3) := by decide +kernel
theorem d_Mo_formed_10 : decode b_Mo_formed 10 = .ok (.iload_n 1, 1) := by decide +kernel
theorem d_Mo_formed_11 : decode b_Mo_formed 11 = .ok (.iaload, 1) := by decide +kernel
theorem d_Mo_formed_12 : decode b_Mo_formed 12 = .ok (.putfield 110, 3) := by decide +kernel
theorem d_Mo_formed_15 : decode b_Mo_formed 15 = .ok (.aload_n 0, 1) := by decide +kernel
theorem d_Mo_formed_16 : decode b_Mo_formed 16 = .ok (.getfield 71, 3) := by decide +kernel
theorem d_Mo_formed_19 : decode b_Mo_formed 19 = .ok (.aload_n 0, 1) := by decide +kernel
theorem d_Mo_formed_20 : decode b_Mo_formed 20 = .ok (.getfield 53, 3) := by decide +kernel
theorem d_Mo_formed_23 : decode b_Mo_formed 23 = .ok (.iload_n 1, 1) := by decide +kernel
theorem d_Mo_formed_24 : decode b_Mo_formed 24 = .ok (.iaload, 1) := by decide +kernel
theorem d_Mo_formed_25 : decode b_Mo_formed 25 = .ok (.iload_n 2, 1) := by decide +kernel
theorem d_Mo_formed_26 : decode b_Mo_formed 26 = .ok (.iadd, 1) := by decide +kernel
theorem d_Mo_formed_27 : decode b_Mo_formed 27 = .ok (.iaload, 1) := by decide +kernel
theorem d_Mo_formed_28 : decode b_Mo_formed 28 = .ok (.istore_n 3, 1) := by decide +kernel
theorem d_Mo_formed_29 : decode b_Mo_formed 29 = .ok (.iload_n 3, 1) := by decide +kernel
theorem d_Mo_formed_30 : decode b_Mo_formed 30 = .ok (.invokestatic 475, 3) := by decide +kernel
theorem d_Mo_formed_33 : decode b_Mo_formed 33 = .ok (.istore 4, 2) := by decide +kernel
theorem d_Mo_formed_35 : decode b_Mo_formed 35 = .ok (.iload_n 2, 1) := by decide +kernel
theorem d_Mo_formed_36 : decode b_Mo_formed 36 = .ok (.iconst 1, 1) := by decide +kernel
theorem d_Mo_formed_37 : decode b_Mo_formed 37 = .ok (.iadd, 1) := by decide +kernel
theorem d_Mo_formed_38 : decode b_Mo_formed 38 = .ok (.aload_n 0, 1) := by decide +kernel
theorem d_Mo_formed_39 : decode b_Mo_formed 39 = .ok (.getfield 56, 3) := by decide +kernel
theorem d_Mo_formed_42 : decode b_Mo_formed 42 = .ok (.iload_n 1, 1) := by decide +kernel
theorem d_Mo_formed_43 : decode b_Mo_formed 43 = .ok (.iaload, 1) := by decide +kernel
theorem d_Mo_formed_44 : decode b_Mo_formed 44 = .ok (.if_icmp .ge 7, 3) := by decide +kernel
theorem d_Mo_formed_47 : decode b_Mo_formed 47 = .ok (.iconst 1, 1) := by decide +kernel
theorem d_Mo_formed_48 : decode b_Mo_formed 48 = .ok (.goto 4, 3) := by decide +kernel
theorem d_Mo_formed_51 : decode b_Mo_formed 51 = .ok (.iconst 0, 1) := by decide +kernel
theorem d_Mo_formed_52 : decode b_Mo_formed 52 = .ok (.istore 5, 2) := by decide +kernel
theorem d_Mo_formed_54 : decode b_Mo_formed 54 = .ok (.iload 5, 2) := by decide +kernel
theorem d_Mo_formed_56 : decode b_Mo_formed 56 = .ok (.ifCond .ne 26, 3) := by decide +kernel
theorem d_Mo_formed_59 : decode b_Mo_formed 59 = .ok (.iload 4, 2) := by decide +kernel
theorem d_Mo_formed_61 : decode b_Mo_formed 61 = .ok (.bipush 30, 2) := by decide +kernel
theorem d_Mo_formed_63 : decode b_Mo_formed 63 = .ok (.if_icmp .eq 19, 3) := by decide +kernel
theorem d_Mo_formed_66 : decode b_Mo_formed 66 = .ok (.iload 4, 2) := by decide +kernel
theorem d_Mo_formed_68 : decode b_Mo_formed 68 = .ok (.bipush 37, 2) := by decide +kernel
theorem d_Mo_formed_70 : decode b_Mo_formed 70 = .ok (.if_icmp .eq 12, 3) := by decide +kernel
theorem d_Mo_formed_73 : decode b_Mo_formed 73 = .ok (.iload 4, 2) := by decide +kernel
theorem d_Mo_formed_75 : decode b_Mo_formed 75 = .ok (.bipush 38, 2) := by decide +kernel
theorem d_Mo_formed_77 : decode b_Mo_formed 77 = .ok (.if_icmp .eq 5, 3) := by decide +kernel
theorem d_Mo_formed_80 : decode b_Mo_formed 80 = .ok (.iconst 0, 1) := by decide +kernel
theorem d_Mo_formed_81 : decode b_Mo_formed 81 = .ok (.ireturn, 1) := by decide +kernel
theorem d_Mo_formed_82 : decode b_Mo_formed 82 = .ok (.iload 5, 2) := by decide +kernel
theorem d_Mo_formed_84 : decode b_Mo_formed 84 = .ok (.ifCond .eq 21, 3) := by decide +kernel
theorem d_Mo_formed_87 : decode b_Mo_formed 87 = .ok (.aload_n 0, 1) := by decide +kernel
theorem d_Mo_formed_88 : decode b_Mo_formed 88 = .ok (.getfield 71, 3) := by decide +kernel
theorem d_Mo_formed_91 : decode b_Mo_formed 91 = .ok (.aload_n 0, 1) := by decide +kernel
theorem d_Mo_formed_92 : decode b_Mo_formed 92 = .ok (.getfield 53, 3) := by decide +kernel
theorem d_Mo_formed_95 : decode b_Mo_formed 95 = .ok (.iload_n 1, 1) := by decide +kernel
theorem d_Mo_formed_96 : decode b_Mo_formed 96 = .ok (.iaload, 1) := by decide +kernel
theorem d_Mo_formed_97 : decode b_Mo_formed 97 = .ok (.iload_n 2, 1) := by decide +kernel
theorem d_Mo_formed_98 : decode b_Mo_formed 98 = .ok (.iadd, 1) := by decide +kernel
theorem d_Mo_formed_99 : decode b_Mo_formed 99 = .ok (.iconst 1, 1) := by decide +kernel
theorem d_Mo_formed_100 : decode b_Mo_formed 100 = .ok (.iadd, 1) := by decide +kernel
theorem d_Mo_formed_101 : decode b_Mo_formed 101 = .ok (.iaload, 1) := by decide +kernel
theorem d_Mo_formed_102 : decode b_Mo_formed 102 = .ok (.goto 4, 3) := by decide +kernel
theorem d_Mo_formed_105 : decode b_Mo_formed 105 = .ok (.iconst 0, 1) := by decide +kernel
theorem d_Mo_formed_106 : decode b_Mo_formed 106 = .ok (.istore 6, 2) := by decide +kernel
theorem d_Mo_formed_108 : decode b_Mo_formed 108 = .ok (.iload_n 3, 1) := by decide +kernel
theorem d_Mo_formed_109 : decode b_Mo_formed 109 = .ok (.invokestatic 492, 3) := by decide +kernel
theorem d_Mo_formed_112 : decode b_Mo_formed 112 = .ok (.ifCond .eq 49, 3) := by decide +kernel
theorem d_Mo_formed_115 : decode b_Mo_formed 115 = .ok (.iload 6, 2) := by decide +kernel
theorem d_Mo_formed_117 : decode b_Mo_formed 117 = .ok (.invokestatic 475, 3) := by decide +kernel
theorem d_Mo_formed_120 : decode b_Mo_formed 120 = .ok (.bipush 38, 2) := by decide +kernel
theorem d_Mo_formed_122 : decode b_Mo_formed 122 = .ok (.if_icmp .ne 11, 3) := by decide +kernel
theorem d_Mo_formed_125 : decode b_Mo_formed 125 = .ok (.iload 6, 2) := by decide +kernel
theorem d_Mo_formed_127 : decode b_Mo_formed 127 = .ok (.invokestatic 495, 3) := by decide +kernel
theorem d_Mo_formed_130 : decode b_Mo_formed 130 = .ok (.goto 10, 3) := by decide +kernel
theorem d_Mo_formed_133 : decode b_Mo_formed 133 = .ok (.iload 6, 2) := by decide +kernel
theorem d_Mo_formed_135 : decode b_Mo_formed 135 = .ok (.invokestatic 495, 3) := by decide +kernel
theorem d_Mo_formed_138 : decode b_Mo_formed 138 = .ok (.iconst 1, 1) := by decide +kernel
theorem d_Mo_formed_139 : decode b_Mo_formed 139 = .ok (.iadd, 1) := by decide +kernel
theorem d_Mo_formed_140 : decode b_Mo_formed 140 = .ok (.istore 7, 2) := by decide +kernel
theorem d_Mo_formed_142 : decode b_Mo_formed 142 = .ok (.iload 6, 2) := by decide +kernel
theorem d_Mo_formed_144 : decode b_Mo_formed 144 = .ok (.invokestatic 488, 3) := by decide +kernel
theorem d_Mo_formed_147 : decode b_Mo_formed 147 = .ok (.ifCond .eq 12, 3) := by decide +kernel
theorem d_Mo_formed_150 : decode b_Mo_formed 150 = .ok (.iload 7, 2) := by decide +kernel
theorem d_Mo_formed_152 : decode b_Mo_formed 152 = .ok (.iload_n 3, 1) := by decide +kernel
theorem d_Mo_formed_153 : decode b_Mo_formed 153 = .ok (.invokestatic 495, 3) := by decide +kernel
theorem d_Mo_formed_156 : decode b_Mo_formed 156 = .ok (.if_icmp .le 5, 3) := by decide +kernel
theorem d_Mo_formed_159 : decode b_Mo_formed 159 = .ok (.iconst 0, 1) := by decide +kernel
theorem d_Mo_formed_160 : decode b_Mo_formed 160 = .ok (.ireturn, 1) := by decide +kernel
theorem d_Mo_formed_161 : decode b_Mo_formed 161 = .ok (.iload_n 3, 1) := by decide +kernel
theorem d_Mo_formed_162 : decode b_Mo_formed 162 = .ok (.invokestatic 488, 3) := by decide +kernel
theorem d_Mo_formed_165 : decode b_Mo_formed 165 = .ok (.ifCond .eq 30, 3) := by decide +kernel
theorem d_Mo_formed_168 : decode b_Mo_formed 168 = .ok (.iload_n 2, 1) := by decide +kernel
theorem d_Mo_formed_169 : decode b_Mo_formed 169 = .ok (.ifCond .eq 24, 3) := by decide +kernel
theorem d_Mo_formed_172 : decode b_Mo_formed 172 = .ok (.aload_n 0, 1) := by decide +kernel
theorem d_Mo_formed_173 : decode b_Mo_formed 173 = .ok (.getfield 71, 3) := by decide +kernel
theorem d_Mo_formed_176 : decode b_Mo_formed 176 = .ok (.aload_n 0, 1) := by decide +kernel
theorem d_Mo_formed_177 : decode b_Mo_formed 177 = .ok (.getfield 53, 3) := by decide +kernel
theorem d_Mo_formed_180 : decode b_Mo_formed 180 = .ok (.iload_n 1, 1) := by decide +kernel
theorem d_Mo_formed_181 : decode b_Mo_formed 181 = .ok (.iaload, 1) := by decide +kernel
theorem d_Mo_formed_182 : decode b_Mo_formed 182 = .ok (.iload_n 2, 1) := by decide +kernel
theorem d_Mo_formed_183 : decode b_Mo_formed 183 = .ok (.iadd, 1) := by decide +kernel
theorem d_Mo_formed_184 : decode b_Mo_formed 184 = .ok (.iconst 1, 1) := by decide +kernel
theorem d_Mo_formed_185 : decode b_Mo_formed 185 = .ok (.isub, 1) := by decide +kernel
theorem d_Mo_formed_186 : decode b_Mo_formed 186 = .ok (.iaload, 1) := by decide +kernel
theorem d_Mo_formed_187 : decode b_Mo_formed 187 = .ok (.invokestatic 492, 3) := by decide +kernel
theorem d_Mo_formed_190 : decode b_Mo_formed 190 = .ok (.ifCond .ne 5, 3) := by decide +kernel
theorem d_Mo_formed_193 : decode b_Mo_formed 193 = .ok (.iconst 0, 1) := by decide +kernel
theorem d_Mo_formed_194 : decode b_Mo_formed 194 = .ok (.ireturn, 1) := by decide +kernel
theorem d_Mo_formed_195 : decode b_Mo_formed 195 = .ok (.iload 4, 2) := by decide +kernel
theorem d_Mo_formed_197 : decode b_Mo_formed 197 = .ok (.bipush 31, 2) := by decide +kernel
theorem d_Mo_formed_199 : decode b_Mo_formed 199 = .ok (.if_icmp .lt 32, 3) := by decide +kernel
theorem d_Mo_formed_202 : decode b_Mo_formed 202 = .ok (.iload 4, 2) := by decide +kernel
theorem d_Mo_formed_204 : decode b_Mo_formed 204 = .ok (.bipush 35, 2) := by decide +kernel
theorem d_Mo_formed_206 : decode b_Mo_formed 206 = .ok (.if_icmp .gt 25, 3) := by decide +kernel
theorem d_Mo_formed_209 : decode b_Mo_formed 209 = .ok (.iload 6, 2) := by decide +kernel
theorem d_Mo_formed_211 : decode b_Mo_formed 211 = .ok (.invokestatic 475, 3) := by decide +kernel
theorem d_Mo_formed_214 : decode b_Mo_formed 214 = .ok (.bipush 30, 2) := by decide +kernel
theorem d_Mo_formed_216 : decode b_Mo_formed 216 = .ok (.if_icmp .ne 13, 3) := by decide +kernel
theorem d_Mo_formed_219 : decode b_Mo_formed 219 = .ok (.aload_n 0, 1) := by decide +kernel
theorem d_Mo_formed_220 : decode b_Mo_formed 220 = .ok (.iload_n 2, 1) := by decide +kernel
theorem d_Mo_formed_221 : decode b_Mo_formed 221 = .ok (.iconst 2, 1) := by decide +kernel
theorem d_Mo_formed_222 : decode b_Mo_formed 222 = .ok (.iadd, 1) := by decide +kernel
theorem d_Mo_formed_223 : decode b_Mo_formed 223 = .ok (.invokevirtual 498, 3) := by decide +kernel
theorem d_Mo_formed_226 : decode b_Mo_formed 226 = .ok (.ifCond .ne 5, 3) := by decide +kernel
theorem d_Mo_formed_229 : decode b_Mo_formed 229 = .ok (.iconst 0, 1) := by decide +kernel
theorem d_Mo_formed_230 : decode b_Mo_formed 230 = .ok (.ireturn, 1) := by decide +kernel
theorem d_Mo_formed_231 : decode b_Mo_formed 231 = .ok (.aload_n 0, 1) := by decide +kernel
theorem d_Mo_formed_232 : decode b_Mo_formed 232 = .ok (.iload_n 1, 1) := by decide +kernel
theorem d_Mo_formed_233 : decode b_Mo_formed 233 = .ok (.iload_n 2, 1) := by decide +kernel
theorem d_Mo_formed_234 : decode b_Mo_formed 234 = .ok (.iload_n 3, 1) := by decide +kernel
theorem d_Mo_formed_235 : decode b_Mo_formed 235 = .ok (.iload 4, 2) := by decide +kernel
theorem d_Mo_formed_237 : decode b_Mo_formed 237 = .ok (.invokevirtual 501, 3) := by decide +kernel
theorem d_Mo_formed_240 : decode b_Mo_formed 240 = .ok (.ireturn, 1) := by decide +kernel
theorem kw_389 : Cond.methodLink R_Mo 492 y_Mo_makes ∈ wA := kinm (show _ ∈ tables_1 from (List.mem_append_right _ (List.mem_append_right _ (List.mem_append_right _ (List.mem_append_right _ (List.mem_append_right _ (List.mem_append_right _ (List.mem_append_right _ (List.mem_append_right _ (List.mem_append_right _ (List.mem_append_right _ (List.mem_append_left _ (List.mem_of_getElem? (l := tables_1_11) (i := 177) (by decide +kernel)))))))))))))) (by decide +kernel)
theorem kw_390 : Cond.methodLink R_Mo 501 y_Mo_named ∈ wA := kinm (show _ ∈ tables_1 from (List.mem_append_right _ (List.mem_append_right _ (List.mem_append_right _ (List.mem_append_right _ (List.mem_append_right _ (List.mem_append_right _ (List.mem_append_right _ (List.mem_append_right _ (List.mem_append_right _ (List.mem_append_right _ (List.mem_append_left _ (List.mem_of_getElem? (l := tables_1_11) (i := 196) (by decide +kernel)))))))))))))) (by decide +kernel)
theorem kw_391 : Cond.instanceMethod y_Mo_formed ∈ wA := kinm (show _ ∈ tables_1 from (List.mem_append_right _ (List.mem_append_right _ (List.mem_append_right _ (List.mem_append_right _ (List.mem_append_right _ (List.mem_append_right _ (List.mem_append_right _ (List.mem_append_right _ (List.mem_append_right _ (List.mem_append_right _ (List.mem_append_left _ (List.mem_of_getElem? (l := tables_1_11) (i := 172) (by decide +kernel)))))))))))))) (by decide +kernel)
theorem kw_392 : Cond.selects R_Mo y_Mo_formed y_Mo_formed ∈ wA := kinp 119 (by decide +kernel) (by decide +kernel)
theorem cv_Mo_formed : CV y_Mo_formed b_Mo_formed 8 (some .boolean) 2 := ⟨kw_391, kw_392, kw_17, k_Mo_formed, by decide +kernel⟩
theorem j_Mo_formed_j231 {X : Cx} {q : PL} (g : Gd X y_Mo_formed b_Mo_formed 8 (some .boolean) 4 89 R_Mo) {o : (Int32) × S1} (hR : Rt X q o.2 (some (.int o.1))) (l1 : Int32) (l2 : Int32) (l3 : Int32) (l4 : Int32) (s : S1) (ls : Array Slot) (hl : lv_has ls 8 [(0, .ref (q.1 0 0)), (1, .int l1), (2, .int l2), (3, .int l3), (4, .int l4)]) (h : M_Mo_formed_j231 l1 l2 l3 l4 s = some o) : WW X q s 231 ls [] := by
  unfold M_Mo_formed_j231 at h
  refine ww_aload_n (pc := 231) g.1 d_Mo_formed_231 rfl (lv_at hl 0 rfl) ?_
  refine ww_iload_n (pc := 232) g.1 d_Mo_formed_232 rfl (lv_at hl 1 rfl) ?_
  refine ww_iload_n (pc := 233) g.1 d_Mo_formed_233 rfl (lv_at hl 2 rfl) ?_
  refine ww_iload_n (pc := 234) g.1 d_Mo_formed_234 rfl (lv_at hl 3 rfl) ?_
  refine ww_iload (pc := 235) g.1 d_Mo_formed_235 (lv_at hl 4 rfl) ?_
  obtain ⟨v237, s, hc237, h⟩ := oB_of h
  refine ww_callV (pc := 237) (rest := []) g cv_Mo_named (Or.inl kw_390) cl_Mo (pz rfl (by decide)) (ct_Mo_named hc237) ⟨by decide, by decide⟩ rfl hl.1 (Nat.le_of_ble_eq_true rfl) d_Mo_formed_237 rfl ?_
  refine ww_st (st' := [.int v237]) rfl ?_
  refine ww_ok h fun cz h => ?_
  exact ww_zretH (pc := 240) g h hR cz d_Mo_formed_240

theorem j_Mo_formed_j195 {X : Cx} {q : PL} (g : Gd X y_Mo_formed b_Mo_formed 8 (some .boolean) 4 89 R_Mo) {o : (Int32) × S1} (hR : Rt X q o.2 (some (.int o.1))) (l1 : Int32) (l2 : Int32) (l3 : Int32) (l4 : Int32) (l6 : Int32) (s : S1) (ls : Array Slot) (hl : lv_has ls 8 [(0, .ref (q.1 0 0)), (1, .int l1), (2, .int l2), (3, .int l3), (4, .int l4), (6, .int l6)]) (h : M_Mo_formed_j195 l1 l2 l3 l4 l6 s = some o) : WW X q s 195 ls [] := by
  unfold M_Mo_formed_j195 at h
  refine ww_iload (pc := 195) g.1 d_Mo_formed_195 (lv_at hl 4 rfl) ?_
  refine ww_bipush (pc := 197) g.1 (v := 31) d_Mo_formed_197 (by decide) ?_
  refine ww_icmp_lt (pc := 199) (tgt := 231) g.1 d_Mo_formed_199 (by decide) h (fun c h => ?_) (fun c h => ?_)
  · exact j_Mo_formed_j231 g hR l1 l2 l3 l4 s ls (lv_sub hl [0, 1, 2, 3, 4] rfl) h
  · refine ww_iload (pc := 202) g.1 d_Mo_formed_202 (lv_at hl 4 rfl) ?_
    refine ww_bipush (pc := 204) g.1 (v := 35) d_Mo_formed_204 (by decide) ?_
    refine ww_icmp_gt (pc := 206) (tgt := 231) g.1 d_Mo_formed_206 (by decide) h (fun c h => ?_) (fun c h => ?_)
    · exact j_Mo_formed_j231 g hR l1 l2 l3 l4 s ls (lv_sub hl [0, 1, 2, 3, 4] rfl) h
    · refine ww_iload (pc := 209) g.1 d_Mo_formed_209 (lv_at hl 5 rfl) ?_
      obtain ⟨v211, s, hc211, h⟩ := oB_of h
      refine ww_callS (pc := 211) (rest := []) g cs_Mo_op (Or.inl kw_53) (ct_Mo_op hc211) ⟨by decide, by decide⟩ rfl hl.1 (Nat.le_of_ble_eq_true rfl) d_Mo_formed_211 rfl ?_
      refine ww_st (st' := [.int v211]) rfl ?_
      refine ww_bipush (pc := 214) g.1 (v := 30) d_Mo_formed_214 (by decide) ?_
      refine ww_icmp_ne (pc := 216) (tgt := 229) g.1 d_Mo_formed_216 (by decide) h (fun c h => ?_) (fun c h => ?_)
      · refine ww_iconst (pc := 229) g.1 (v := 0) d_Mo_formed_229 (by decide) ?_
        exact ww_zretH (pc := 230) g h hR (Or.inl rfl) d_Mo_formed_230
      · refine ww_aload_n (pc := 219) g.1 d_Mo_formed_219 rfl (lv_at hl 0 rfl) ?_
        refine ww_iload_n (pc := 220) g.1 d_Mo_formed_220 rfl (lv_at hl 2 rfl) ?_
        refine ww_iconst (pc := 221) g.1 (v := 2) d_Mo_formed_221 (by decide) ?_
        refine ww_iadd (pc := 222) g.1 d_Mo_formed_222 ?_
        obtain ⟨v223, s, hc223, h⟩ := oB_of h
        refine ww_callV (pc := 223) (rest := []) g cv_Mo_goes (Or.inl kw_315) cl_Mo (pz rfl (by decide)) (ct_Mo_goes hc223) ⟨by decide, by decide⟩ rfl hl.1 (Nat.le_of_ble_eq_true rfl) d_Mo_formed_223 rfl ?_
        refine ww_st (st' := [.int v223]) rfl ?_
        refine ww_if_ne (pc := 226) (tgt := 231) g.1 d_Mo_formed_226 (by decide) h (fun c h => ?_) (fun c h => ?_)
        · exact j_Mo_formed_j231 g hR l1 l2 l3 l4 s ls (lv_sub hl [0, 1, 2, 3, 4] rfl) h
        · refine ww_iconst (pc := 229) g.1 (v := 0) d_Mo_formed_229 (by decide) ?_
          exact ww_zretH (pc := 230) g h hR (Or.inl rfl) d_Mo_formed_230

theorem j_Mo_formed_j161 {X : Cx} {q : PL} (g : Gd X y_Mo_formed b_Mo_formed 8 (some .boolean) 4 89 R_Mo) {o : (Int32) × S1} (hR : Rt X q o.2 (some (.int o.1))) (l1 : Int32) (l2 : Int32) (l3 : Int32) (l4 : Int32) (l6 : Int32) (s : S1) (ls : Array Slot) (hl : lv_has ls 8 [(0, .ref (q.1 0 0)), (1, .int l1), (2, .int l2), (3, .int l3), (4, .int l4), (6, .int l6)]) (h : M_Mo_formed_j161 l1 l2 l3 l4 l6 s = some o) : WW X q s 161 ls [] := by
  unfold M_Mo_formed_j161 at h
  refine ww_iload_n (pc := 161) g.1 d_Mo_formed_161 rfl (lv_at hl 3 rfl) ?_
  obtain ⟨v162, s, hc162, h⟩ := oB_of h
  refine ww_callS (pc := 162) (rest := []) g cs_Mo_uses (Or.inl kw_60) (ct_Mo_uses hc162) ⟨by decide, by decide⟩ rfl hl.1 (Nat.le_of_ble_eq_true rfl) d_Mo_formed_162 rfl ?_
  refine ww_st (st' := [.int v162]) rfl ?_
  refine ww_if_eq (pc := 165) (tgt := 195) g.1 d_Mo_formed_165 (by decide) h (fun c h => ?_) (fun c h => ?_)
  · exact j_Mo_formed_j195 g hR l1 l2 l3 l4 l6 s ls (lv_sub hl [0, 1, 2, 3, 4, 5] rfl) h
  · refine ww_iload_n (pc := 168) g.1 d_Mo_formed_168 rfl (lv_at hl 2 rfl) ?_
    refine ww_if_eq (pc := 169) (tgt := 193) g.1 d_Mo_formed_169 (by decide) h (fun c h => ?_) (fun c h => ?_)
    · refine ww_iconst (pc := 193) g.1 (v := 0) d_Mo_formed_193 (by decide) ?_
      exact ww_zretH (pc := 194) g h hR (Or.inl rfl) d_Mo_formed_194
    · refine ww_aload_n (pc := 172) g.1 d_Mo_formed_172 rfl (lv_at hl 0 rfl) ?_
      refine ww_gR (pc := 173) g (k := 19) cl_Mo (pz rfl (by decide)) (by decide) (Or.inl kw_58) (f := 19) (t := 55) rfl rfl rfl d_Mo_formed_173 ?_
      refine ww_aload_n (pc := 176) g.1 d_Mo_formed_176 rfl (lv_at hl 0 rfl) ?_
      refine ww_gR (pc := 177) g (k := 13) cl_Mo (pz rfl (by decide)) (by decide) (Or.inl kw_59) (f := 13) (t := 49) rfl rfl rfl d_Mo_formed_177 ?_
      refine ww_iload_n (pc := 180) g.1 d_Mo_formed_180 rfl (lv_at hl 1 rfl) ?_
      refine ww_ai (pc := 181) g (pz rfl (by decide)) rfl rfl d_Mo_formed_181 h fun v181 h => ?_
      refine ww_iload_n (pc := 182) g.1 d_Mo_formed_182 rfl (lv_at hl 2 rfl) ?_
      refine ww_iadd (pc := 183) g.1 d_Mo_formed_183 ?_
      refine ww_iconst (pc := 184) g.1 (v := 1) d_Mo_formed_184 (by decide) ?_
      refine ww_isub (pc := 185) g.1 d_Mo_formed_185 ?_
      refine ww_ai (pc := 186) g (pz rfl (by decide)) rfl rfl d_Mo_formed_186 h fun v186 h => ?_
      obtain ⟨v187, s, hc187, h⟩ := oB_of h
      refine ww_callS (pc := 187) (rest := []) g cs_Mo_makes (Or.inl kw_389) (ct_Mo_makes hc187) ⟨by decide, by decide⟩ rfl hl.1 (Nat.le_of_ble_eq_true rfl) d_Mo_formed_187 rfl ?_
      refine ww_st (st' := [.int v187]) rfl ?_
      refine ww_if_ne (pc := 190) (tgt := 195) g.1 d_Mo_formed_190 (by decide) h (fun c h => ?_) (fun c h => ?_)
      · exact j_Mo_formed_j195 g hR l1 l2 l3 l4 l6 s ls (lv_sub hl [0, 1, 2, 3, 4, 5] rfl) h
      · refine ww_iconst (pc := 193) g.1 (v := 0) d_Mo_formed_193 (by decide) ?_
        exact ww_zretH (pc := 194) g h hR (Or.inl rfl) d_Mo_formed_194

theorem j_Mo_formed_j140 {X : Cx} {q : PL} (g : Gd X y_Mo_formed b_Mo_formed 8 (some .boolean) 4 89 R_Mo) {o : (Int32) × S1} (hR : Rt X q o.2 (some (.int o.1))) (l1 : Int32) (l2 : Int32) (l3 : Int32) (l4 : Int32) (l6 : Int32) (k0 : Int32) (s : S1) (ls : Array Slot) (hl : lv_has ls 8 [(0, .ref (q.1 0 0)), (1, .int l1), (2, .int l2), (3, .int l3), (4, .int l4), (6, .int l6)]) (h : M_Mo_formed_j140 l1 l2 l3 l4 l6 k0 s = some o) : WW X q s 140 ls [.int k0] := by
  unfold M_Mo_formed_j140 at h
  refine ww_istore (pc := 140) (i := 7) g.1 (lv' := [(7, .int k0), (0, .ref (q.1 0 0)), (1, .int l1), (2, .int l2), (3, .int l3), (4, .int l4), (6, .int l6)]) d_Mo_formed_140 hl (by decide) rfl fun ls hl => ?_
  refine ww_iload (pc := 142) g.1 d_Mo_formed_142 (lv_at hl 6 rfl) ?_
  obtain ⟨v144, s, hc144, h⟩ := oB_of h
  refine ww_callS (pc := 144) (rest := []) g cs_Mo_uses (Or.inl kw_60) (ct_Mo_uses hc144) ⟨by decide, by decide⟩ rfl hl.1 (Nat.le_of_ble_eq_true rfl) d_Mo_formed_144 rfl ?_
  refine ww_st (st' := [.int v144]) rfl ?_
  refine ww_if_eq (pc := 147) (tgt := 159) g.1 d_Mo_formed_147 (by decide) h (fun c h => ?_) (fun c h => ?_)
  · refine ww_iconst (pc := 159) g.1 (v := 0) d_Mo_formed_159 (by decide) ?_
    exact ww_zretH (pc := 160) g h hR (Or.inl rfl) d_Mo_formed_160
  · refine ww_iload (pc := 150) g.1 d_Mo_formed_150 (lv_at hl 0 rfl) ?_
    refine ww_iload_n (pc := 152) g.1 d_Mo_formed_152 rfl (lv_at hl 4 rfl) ?_
    obtain ⟨v153, s, hc153, h⟩ := oB_of h
    refine ww_callS (pc := 153) (rest := [.int k0]) g cs_Mo_a (Or.inl kw_280) (ct_Mo_a hc153) ⟨by decide, by decide⟩ rfl hl.1 (Nat.le_of_ble_eq_true rfl) d_Mo_formed_153 rfl ?_
    refine ww_st (st' := [.int v153, .int k0]) rfl ?_
    refine ww_icmp_le (pc := 156) (tgt := 161) g.1 d_Mo_formed_156 (by decide) h (fun c h => ?_) (fun c h => ?_)
    · exact j_Mo_formed_j161 g hR l1 l2 l3 l4 l6 s ls (lv_sub hl [1, 2, 3, 4, 5, 6] rfl) h
    · refine ww_iconst (pc := 159) g.1 (v := 0) d_Mo_formed_159 (by decide) ?_
      exact ww_zretH (pc := 160) g h hR (Or.inl rfl) d_Mo_formed_160

theorem j_Mo_formed_j106 {X : Cx} {q : PL} (g : Gd X y_Mo_formed b_Mo_formed 8 (some .boolean) 4 89 R_Mo) {o : (Int32) × S1} (hR : Rt X q o.2 (some (.int o.1))) (l1 : Int32) (l2 : Int32) (l3 : Int32) (l4 : Int32) (k0 : Int32) (s : S1) (ls : Array Slot) (hl : lv_has ls 8 [(0, .ref (q.1 0 0)), (1, .int l1), (2, .int l2), (3, .int l3), (4, .int l4)]) (h : M_Mo_formed_j106 l1 l2 l3 l4 k0 s = some o) : WW X q s 106 ls [.int k0] := by
  unfold M_Mo_formed_j106 at h
  refine ww_istore (pc := 106) (i := 6) g.1 (lv' := [(6, .int k0), (0, .ref (q.1 0 0)), (1, .int l1), (2, .int l2), (3, .int l3), (4, .int l4)]) d_Mo_formed_106 hl (by decide) rfl fun ls hl => ?_
  refine ww_iload_n (pc := 108) g.1 d_Mo_formed_108 rfl (lv_at hl 4 rfl) ?_
  obtain ⟨v109, s, hc109, h⟩ := oB_of h
  refine ww_callS (pc := 109) (rest := []) g cs_Mo_makes (Or.inl kw_389) (ct_Mo_makes hc109) ⟨by decide, by decide⟩ rfl hl.1 (Nat.le_of_ble_eq_true rfl) d_Mo_formed_109 rfl ?_
  refine ww_st (st' := [.int v109]) rfl ?_
  refine ww_if_eq (pc := 112) (tgt := 161) g.1 d_Mo_formed_112 (by decide) h (fun c h => ?_) (fun c h => ?_)
  · exact j_Mo_formed_j161 g hR l1 l2 l3 l4 k0 s ls (lv_sub hl [1, 2, 3, 4, 5, 0] rfl) h
  · refine ww_iload (pc := 115) g.1 d_Mo_formed_115 (lv_at hl 0 rfl) ?_
    obtain ⟨v117, s, hc117, h⟩ := oB_of h
    refine ww_callS (pc := 117) (rest := []) g cs_Mo_op (Or.inl kw_53) (ct_Mo_op hc117) ⟨by decide, by decide⟩ rfl hl.1 (Nat.le_of_ble_eq_true rfl) d_Mo_formed_117 rfl ?_
    refine ww_st (st' := [.int v117]) rfl ?_
    refine ww_bipush (pc := 120) g.1 (v := 38) d_Mo_formed_120 (by decide) ?_
    refine ww_icmp_ne (pc := 122) (tgt := 133) g.1 d_Mo_formed_122 (by decide) h (fun c h => ?_) (fun c h => ?_)
    · refine ww_iload (pc := 133) g.1 d_Mo_formed_133 (lv_at hl 0 rfl) ?_
      obtain ⟨v135, s, hc135, h⟩ := oB_of h
      refine ww_callS (pc := 135) (rest := []) g cs_Mo_a (Or.inl kw_280) (ct_Mo_a hc135) ⟨by decide, by decide⟩ rfl hl.1 (Nat.le_of_ble_eq_true rfl) d_Mo_formed_135 rfl ?_
      refine ww_st (st' := [.int v135]) rfl ?_
      refine ww_iconst (pc := 138) g.1 (v := 1) d_Mo_formed_138 (by decide) ?_
      refine ww_iadd (pc := 139) g.1 d_Mo_formed_139 ?_
      exact j_Mo_formed_j140 g hR l1 l2 l3 l4 k0 (v135 + 1) s ls (lv_sub hl [1, 2, 3, 4, 5, 0] rfl) h
    · refine ww_iload (pc := 125) g.1 d_Mo_formed_125 (lv_at hl 0 rfl) ?_
      obtain ⟨v127, s, hc127, h⟩ := oB_of h
      refine ww_callS (pc := 127) (rest := []) g cs_Mo_a (Or.inl kw_280) (ct_Mo_a hc127) ⟨by decide, by decide⟩ rfl hl.1 (Nat.le_of_ble_eq_true rfl) d_Mo_formed_127 rfl ?_
      refine ww_st (st' := [.int v127]) rfl ?_
      refine ww_goto (pc := 130) (tgt := 140) g.1 d_Mo_formed_130 (by decide) ?_
      exact j_Mo_formed_j140 g hR l1 l2 l3 l4 k0 v127 s ls (lv_sub hl [1, 2, 3, 4, 5, 0] rfl) h

theorem j_Mo_formed_j82 {X : Cx} {q : PL} (g : Gd X y_Mo_formed b_Mo_formed 8 (some .boolean) 4 89 R_Mo) {o : (Int32) × S1} (hR : Rt X q o.2 (some (.int o.1))) (l1 : Int32) (l2 : Int32) (l3 : Int32) (l4 : Int32) (l5 : Int32) (s : S1) (ls : Array Slot) (hl : lv_has ls 8 [(0, .ref (q.1 0 0)), (1, .int l1), (2, .int l2), (3, .int l3), (4, .int l4), (5, .int l5)]) (h : M_Mo_formed_j82 l1 l2 l3 l4 l5 s = some o) : WW X q s 82 ls [] := by
  unfold M_Mo_formed_j82 at h
  refine ww_iload (pc := 82) g.1 d_Mo_formed_82 (lv_at hl 5 rfl) ?_
  refine ww_if_eq (pc := 84) (tgt := 105) g.1 d_Mo_formed_84 (by decide) h (fun c h => ?_) (fun c h => ?_)
  · refine ww_iconst (pc := 105) g.1 (v := 0) d_Mo_formed_105 (by decide) ?_
    exact j_Mo_formed_j106 g hR l1 l2 l3 l4 0 s ls (lv_sub hl [0, 1, 2, 3, 4] rfl) h
  · refine ww_aload_n (pc := 87) g.1 d_Mo_formed_87 rfl (lv_at hl 0 rfl) ?_
    refine ww_gR (pc := 88) g (k := 19) cl_Mo (pz rfl (by decide)) (by decide) (Or.inl kw_58) (f := 19) (t := 55) rfl rfl rfl d_Mo_formed_88 ?_
    refine ww_aload_n (pc := 91) g.1 d_Mo_formed_91 rfl (lv_at hl 0 rfl) ?_
    refine ww_gR (pc := 92) g (k := 13) cl_Mo (pz rfl (by decide)) (by decide) (Or.inl kw_59) (f := 13) (t := 49) rfl rfl rfl d_Mo_formed_92 ?_
    refine ww_iload_n (pc := 95) g.1 d_Mo_formed_95 rfl (lv_at hl 1 rfl) ?_
    refine ww_ai (pc := 96) g (pz rfl (by decide)) rfl rfl d_Mo_formed_96 h fun v96 h => ?_
    refine ww_iload_n (pc := 97) g.1 d_Mo_formed_97 rfl (lv_at hl 2 rfl) ?_
    refine ww_iadd (pc := 98) g.1 d_Mo_formed_98 ?_
    refine ww_iconst (pc := 99) g.1 (v := 1) d_Mo_formed_99 (by decide) ?_
    refine ww_iadd (pc := 100) g.1 d_Mo_formed_100 ?_
    refine ww_ai (pc := 101) g (pz rfl (by decide)) rfl rfl d_Mo_formed_101 h fun v101 h => ?_
    refine ww_goto (pc := 102) (tgt := 106) g.1 d_Mo_formed_102 (by decide) ?_
    exact j_Mo_formed_j106 g hR l1 l2 l3 l4 v101 s ls (lv_sub hl [0, 1, 2, 3, 4] rfl) h

theorem j_Mo_formed_j52 {X : Cx} {q : PL} (g : Gd X y_Mo_formed b_Mo_formed 8 (some .boolean) 4 89 R_Mo) {o : (Int32) × S1} (hR : Rt X q o.2 (some (.int o.1))) (l1 : Int32) (l2 : Int32) (l3 : Int32) (l4 : Int32) (k0 : Int32) (s : S1) (ls : Array Slot) (hl : lv_has ls 8 [(0, .ref (q.1 0 0)), (1, .int l1), (2, .int l2), (3, .int l3), (4, .int l4)]) (h : M_Mo_formed_j52 l1 l2 l3 l4 k0 s = some o) : WW X q s 52 ls [.int k0] := by
  unfold M_Mo_formed_j52 at h
  refine ww_istore (pc := 52) (i := 5) g.1 (lv' := [(5, .int k0), (0, .ref (q.1 0 0)), (1, .int l1), (2, .int l2), (3, .int l3), (4, .int l4)]) d_Mo_formed_52 hl (by decide) rfl fun ls hl => ?_
  refine ww_iload (pc := 54) g.1 d_Mo_formed_54 (lv_at hl 0 rfl) ?_
  refine ww_if_ne (pc := 56) (tgt := 82) g.1 d_Mo_formed_56 (by decide) h (fun c h => ?_) (fun c h => ?_)
  · exact j_Mo_formed_j82 g hR l1 l2 l3 l4 k0 s ls (lv_sub hl [1, 2, 3, 4, 5, 0] rfl) h
  · refine ww_iload (pc := 59) g.1 d_Mo_formed_59 (lv_at hl 5 rfl) ?_
    refine ww_bipush (pc := 61) g.1 (v := 30) d_Mo_formed_61 (by decide) ?_
    refine ww_icmp_eq (pc := 63) (tgt := 82) g.1 d_Mo_formed_63 (by decide) h (fun c h => ?_) (fun c h => ?_)
    · exact j_Mo_formed_j82 g hR l1 l2 l3 l4 k0 s ls (lv_sub hl [1, 2, 3, 4, 5, 0] rfl) h
    · refine ww_iload (pc := 66) g.1 d_Mo_formed_66 (lv_at hl 5 rfl) ?_
      refine ww_bipush (pc := 68) g.1 (v := 37) d_Mo_formed_68 (by decide) ?_
      refine ww_icmp_eq (pc := 70) (tgt := 82) g.1 d_Mo_formed_70 (by decide) h (fun c h => ?_) (fun c h => ?_)
      · exact j_Mo_formed_j82 g hR l1 l2 l3 l4 k0 s ls (lv_sub hl [1, 2, 3, 4, 5, 0] rfl) h
      · refine ww_iload (pc := 73) g.1 d_Mo_formed_73 (lv_at hl 5 rfl) ?_
        refine ww_bipush (pc := 75) g.1 (v := 38) d_Mo_formed_75 (by decide) ?_
        refine ww_icmp_eq (pc := 77) (tgt := 82) g.1 d_Mo_formed_77 (by decide) h (fun c h => ?_) (fun c h => ?_)
        · exact j_Mo_formed_j82 g hR l1 l2 l3 l4 k0 s ls (lv_sub hl [1, 2, 3, 4, 5, 0] rfl) h
        · refine ww_iconst (pc := 80) g.1 (v := 0) d_Mo_formed_80 (by decide) ?_
          exact ww_zretH (pc := 81) g h hR (Or.inl rfl) d_Mo_formed_81

theorem ct_Mo_formed {l : Launch} {P : PP} {q : PL} {s s' : S1} {l1 : Int32} {l2 : Int32} {r : Int32} (h : M_Mo_formed l1 l2 s = some (r, s')) : Ct l y_Mo_formed b_Mo_formed 8 (some .boolean) 4 89 P q s [.ref (q.1 0 0), .int l1, .int l2] (some (.int r)) q s' := by
  refine ct_of (by decide) (Nat.le_of_ble_eq_true rfl) fun X ls eP el g hR hl => ?_
  subst eP
  have hR : Rt X q ((r, s') : Int32 × S1).2 (some (.int ((r, s') : Int32 × S1).1)) := hR
  have hl : lv_has ls 8 [(0, .ref (q.1 0 0)), (1, .int l1), (2, .int l2)] := hl
  generalize (r, s') = o at h hR
  unfold M_Mo_formed at h
  refine ww_aload_n (pc := 0) g.1 d_Mo_formed_0 rfl (lv_at hl 0 rfl) ?_
  refine ww_iload_n (pc := 1) g.1 d_Mo_formed_1 rfl (lv_at hl 1 rfl) ?_
  refine ww_pI (pc := 2) g (k := 31) cl_Mo (pz rfl (by decide)) (by decide) (Or.inl kw_57) rfl (f := 31) rfl rfl rfl rfl d_Mo_formed_2 h fun s hs h => ?_
  refine ww_aload_n (pc := 5) g.1 d_Mo_formed_5 rfl (lv_at hl 0 rfl) ?_
  refine ww_aload_n (pc := 6) g.1 d_Mo_formed_6 rfl (lv_at hl 0 rfl) ?_
  refine ww_gR (pc := 7) g (k := 8) cl_Mo (pz rfl (by decide)) (by decide) (Or.inl kw_41) (f := 8) (t := 44) rfl rfl rfl d_Mo_formed_7 ?_
  refine ww_iload_n (pc := 10) g.1 d_Mo_formed_10 rfl (lv_at hl 1 rfl) ?_
  refine ww_ai (pc := 11) g (pz rfl (by decide)) rfl rfl d_Mo_formed_11 h fun v11 h => ?_
  refine ww_pI (pc := 12) g (k := 30) cl_Mo (pz rfl (by decide)) (by decide) (Or.inl kw_63) rfl (f := 30) rfl rfl rfl rfl d_Mo_formed_12 h fun s hs h => ?_
  refine ww_aload_n (pc := 15) g.1 d_Mo_formed_15 rfl (lv_at hl 0 rfl) ?_
  refine ww_gR (pc := 16) g (k := 19) cl_Mo (pz rfl (by decide)) (by decide) (Or.inl kw_58) (f := 19) (t := 55) rfl rfl rfl d_Mo_formed_16 ?_
  refine ww_aload_n (pc := 19) g.1 d_Mo_formed_19 rfl (lv_at hl 0 rfl) ?_
  refine ww_gR (pc := 20) g (k := 13) cl_Mo (pz rfl (by decide)) (by decide) (Or.inl kw_59) (f := 13) (t := 49) rfl rfl rfl d_Mo_formed_20 ?_
  refine ww_iload_n (pc := 23) g.1 d_Mo_formed_23 rfl (lv_at hl 1 rfl) ?_
  refine ww_ai (pc := 24) g (pz rfl (by decide)) rfl rfl d_Mo_formed_24 h fun v24 h => ?_
  refine ww_iload_n (pc := 25) g.1 d_Mo_formed_25 rfl (lv_at hl 2 rfl) ?_
  refine ww_iadd (pc := 26) g.1 d_Mo_formed_26 ?_
  refine ww_ai (pc := 27) g (pz rfl (by decide)) rfl rfl d_Mo_formed_27 h fun v27 h => ?_
  refine ww_istore_n (pc := 28) (i := 3) g.1 (lv' := [(3, .int v27), (0, .ref (q.1 0 0)), (1, .int l1), (2, .int l2)]) d_Mo_formed_28 rfl hl (by decide) rfl fun ls hl => ?_
  refine ww_iload_n (pc := 29) g.1 d_Mo_formed_29 rfl (lv_at hl 0 rfl) ?_
  obtain ⟨v30, s, hc30, h⟩ := oB_of h
  refine ww_callS (pc := 30) (rest := []) g cs_Mo_op (Or.inl kw_53) (ct_Mo_op hc30) ⟨by decide, by decide⟩ rfl hl.1 (Nat.le_of_ble_eq_true rfl) d_Mo_formed_30 rfl ?_
  refine ww_st (st' := [.int v30]) rfl ?_
  refine ww_istore (pc := 33) (i := 4) g.1 (lv' := [(4, .int v30), (3, .int v27), (0, .ref (q.1 0 0)), (1, .int l1), (2, .int l2)]) d_Mo_formed_33 hl (by decide) rfl fun ls hl => ?_
  refine ww_iload_n (pc := 35) g.1 d_Mo_formed_35 rfl (lv_at hl 4 rfl) ?_
  refine ww_iconst (pc := 36) g.1 (v := 1) d_Mo_formed_36 (by decide) ?_
  refine ww_iadd (pc := 37) g.1 d_Mo_formed_37 ?_
  refine ww_aload_n (pc := 38) g.1 d_Mo_formed_38 rfl (lv_at hl 2 rfl) ?_
  refine ww_gR (pc := 39) g (k := 14) cl_Mo (pz rfl (by decide)) (by decide) (Or.inl kw_56) (f := 14) (t := 50) rfl rfl rfl d_Mo_formed_39 ?_
  refine ww_iload_n (pc := 42) g.1 d_Mo_formed_42 rfl (lv_at hl 3 rfl) ?_
  refine ww_ai (pc := 43) g (pz rfl (by decide)) rfl rfl d_Mo_formed_43 h fun v43 h => ?_
  refine ww_icmp_ge (pc := 44) (tgt := 51) g.1 d_Mo_formed_44 (by decide) h (fun c h => ?_) (fun c h => ?_)
  · refine ww_iconst (pc := 51) g.1 (v := 0) d_Mo_formed_51 (by decide) ?_
    exact j_Mo_formed_j52 g hR l1 l2 v27 v30 0 s ls (lv_sub hl [2, 3, 4, 1, 0] rfl) h
  · refine ww_iconst (pc := 47) g.1 (v := 1) d_Mo_formed_47 (by decide) ?_
    refine ww_goto (pc := 48) (tgt := 52) g.1 d_Mo_formed_48 (by decide) ?_
    exact j_Mo_formed_j52 g hR l1 l2 v27 v30 1 s ls (lv_sub hl [2, 3, 4, 1, 0] rfl) h


