abbrev b_Mo_characters : ByteArray := prog_14_method_98_code
def y_Mo_characters : MethodName := ⟨R_Mo, "characters", "()V"⟩
abbrev w_Mo_characters : List Cond := .code y_Mo_characters b_Mo_characters 2 none :: wA
theorem k_Mo_characters : Cond.code y_Mo_characters b_Mo_characters 2 none ∈ wA := kinm (show _ ∈ tables_1 from (List.mem_append_right _ (List.mem_append_right _ (List.mem_append_right _ (List.mem_append_right _ (List.mem_append_right _ (List.mem_append_right _ (List.mem_append_right _ (List.mem_append_right _ (List.mem_append_right _ (List.mem_append_right _ (List.mem_append_right _ (List.mem_append_right _ (List.mem_append_left _ (List.mem_of_getElem? (l := tables_1_13) (i := 50) (by decide +kernel)))))))))))))))) (by decide +kernel)
theorem d_Mo_characters_0 : decode b_Mo_characters 0 = .ok (.iconst 0, 1) := by decide +kernel
theorem d_Mo_characters_1 : decode b_Mo_characters 1 = .ok (.istore_n 1, 1) := by decide +kernel
theorem d_Mo_characters_2 : decode b_Mo_characters 2 = .ok (.iload_n 1, 1) := by decide +kernel
theorem d_Mo_characters_3 : decode b_Mo_characters 3 = .ok (.aload_n 0, 1) := by decide +kernel
theorem d_Mo_characters_4 : decode b_Mo_characters 4 = .ok (.getfield 259, 3) := by decide +kernel
theorem d_Mo_characters_7 : decode b_Mo_characters 7 = .ok (.getfield 569, 3) := by decide +kernel
theorem d_Mo_characters_10 : decode b_Mo_characters 10 = .ok (.if_icmp .ge 68, 3) := by decide +kernel
theorem d_Mo_characters_13 : decode b_Mo_characters 13 = .ok (.aload_n 0, 1) := by decide +kernel
theorem d_Mo_characters_14 : decode b_Mo_characters 14 = .ok (.iload_n 1, 1) := by decide +kernel
theorem d_Mo_characters_15 : decode b_Mo_characters 15 = .ok (.iconst 3, 1) := by decide +kernel
theorem d_Mo_characters_16 : decode b_Mo_characters 16 = .ok (.invokevirtual 833, 3) := by decide +kernel
theorem d_Mo_characters_19 : decode b_Mo_characters 19 = .ok (.ifCond .ne 10, 3) := by decide +kernel
theorem d_Mo_characters_22 : decode b_Mo_characters 22 = .ok (.aload_n 0, 1) := by decide +kernel
theorem d_Mo_characters_23 : decode b_Mo_characters 23 = .ok (.iconst 3, 1) := by decide +kernel
theorem d_Mo_characters_24 : decode b_Mo_characters 24 = .ok (.invokevirtual 517, 3) := by decide +kernel
theorem d_Mo_characters_27 : decode b_Mo_characters 27 = .ok (.pop, 1) := by decide +kernel
theorem d_Mo_characters_28 : decode b_Mo_characters 28 = .ok (.return_, 1) := by decide +kernel
theorem d_Mo_characters_29 : decode b_Mo_characters 29 = .ok (.aload_n 0, 1) := by decide +kernel
theorem d_Mo_characters_30 : decode b_Mo_characters 30 = .ok (.iload_n 1, 1) := by decide +kernel
theorem d_Mo_characters_31 : decode b_Mo_characters 31 = .ok (.invokevirtual 807, 3) := by decide +kernel
theorem d_Mo_characters_34 : decode b_Mo_characters 34 = .ok (.lconst 0, 1) := by decide +kernel
theorem d_Mo_characters_35 : decode b_Mo_characters 35 = .ok (.lcmp, 1) := by decide +kernel
theorem d_Mo_characters_36 : decode b_Mo_characters 36 = .ok (.ifCond .lt 15, 3) := by decide +kernel
theorem d_Mo_characters_39 : decode b_Mo_characters 39 = .ok (.aload_n 0, 1) := by decide +kernel
theorem d_Mo_characters_40 : decode b_Mo_characters 40 = .ok (.iload_n 1, 1) := by decide +kernel
theorem d_Mo_characters_41 : decode b_Mo_characters 41 = .ok (.invokevirtual 807, 3) := by decide +kernel
theorem d_Mo_characters_44 : decode b_Mo_characters 44 = .ok (.ldc2_w 868, 3) := by decide +kernel
theorem d_Mo_characters_47 : decode b_Mo_characters 47 = .ok (.lcmp, 1) := by decide +kernel
theorem d_Mo_characters_48 : decode b_Mo_characters 48 = .ok (.ifCond .le 11, 3) := by decide +kernel
theorem d_Mo_characters_51 : decode b_Mo_characters 51 = .ok (.aload_n 0, 1) := by decide +kernel
theorem d_Mo_characters_52 : decode b_Mo_characters 52 = .ok (.bipush 7, 2) := by decide +kernel
theorem d_Mo_characters_54 : decode b_Mo_characters 54 = .ok (.invokevirtual 517, 3) := by decide +kernel
theorem d_Mo_characters_57 : decode b_Mo_characters 57 = .ok (.pop, 1) := by decide +kernel
theorem d_Mo_characters_58 : decode b_Mo_characters 58 = .ok (.return_, 1) := by decide +kernel
theorem d_Mo_characters_59 : decode b_Mo_characters 59 = .ok (.aload_n 0, 1) := by decide +kernel
theorem d_Mo_characters_60 : decode b_Mo_characters 60 = .ok (.getfield 422, 3) := by decide +kernel
theorem d_Mo_characters_63 : decode b_Mo_characters 63 = .ok (.iload_n 1, 1) := by decide +kernel
theorem d_Mo_characters_64 : decode b_Mo_characters 64 = .ok (.aload_n 0, 1) := by decide +kernel
theorem d_Mo_characters_65 : decode b_Mo_characters 65 = .ok (.iload_n 1, 1) := by decide +kernel
theorem d_Mo_characters_66 : decode b_Mo_characters 66 = .ok (.invokevirtual 807, 3) := by decide +kernel
theorem d_Mo_characters_69 : decode b_Mo_characters 69 = .ok (.l2i, 1) := by decide +kernel
theorem d_Mo_characters_70 : decode b_Mo_characters 70 = .ok (.i2b, 1) := by decide +kernel
theorem d_Mo_characters_71 : decode b_Mo_characters 71 = .ok (.bastore, 1) := by decide +kernel
theorem d_Mo_characters_72 : decode b_Mo_characters 72 = .ok (.iinc 1 1, 3) := by decide +kernel
theorem d_Mo_characters_75 : decode b_Mo_characters 75 = .ok (.goto (-73), 3) := by decide +kernel
theorem d_Mo_characters_78 : decode b_Mo_characters 78 = .ok (.aload_n 0, 1) := by decide +kernel
theorem d_Mo_characters_79 : decode b_Mo_characters 79 = .ok (.aload_n 0, 1) := by decide +kernel
theorem d_Mo_characters_80 : decode b_Mo_characters 80 = .ok (.getfield 422, 3) := by decide +kernel
theorem d_Mo_characters_83 : decode b_Mo_characters 83 = .ok (.iconst 0, 1) := by decide +kernel
theorem d_Mo_characters_84 : decode b_Mo_characters 84 = .ok (.aload_n 0, 1) := by decide +kernel
theorem d_Mo_characters_85 : decode b_Mo_characters 85 = .ok (.getfield 259, 3) := by decide +kernel
theorem d_Mo_characters_88 : decode b_Mo_characters 88 = .ok (.getfield 569, 3) := by decide +kernel
theorem d_Mo_characters_91 : decode b_Mo_characters 91 = .ok (.invokevirtual 655, 3) := by decide +kernel
theorem d_Mo_characters_94 : decode b_Mo_characters 94 = .ok (.istore_n 1, 1) := by decide +kernel
theorem d_Mo_characters_95 : decode b_Mo_characters 95 = .ok (.iload_n 1, 1) := by decide +kernel
theorem d_Mo_characters_96 : decode b_Mo_characters 96 = .ok (.ifCond .lt 10, 3) := by decide +kernel
theorem d_Mo_characters_99 : decode b_Mo_characters 99 = .ok (.aload_n 0, 1) := by decide +kernel
theorem d_Mo_characters_100 : decode b_Mo_characters 100 = .ok (.iconst 4, 1) := by decide +kernel
theorem d_Mo_characters_101 : decode b_Mo_characters 101 = .ok (.iload_n 1, 1) := by decide +kernel
theorem d_Mo_characters_102 : decode b_Mo_characters 102 = .ok (.i2l, 1) := by decide +kernel
theorem d_Mo_characters_103 : decode b_Mo_characters 103 = .ok (.invokevirtual 804, 3) := by decide +kernel
theorem d_Mo_characters_106 : decode b_Mo_characters 106 = .ok (.return_, 1) := by decide +kernel
theorem kw_524 : Cond.constantLong R_Mo 868 255 ∈ wA := kinm (show _ ∈ tables_1 from (List.mem_append_right _ (List.mem_append_right _ (List.mem_append_right _ (List.mem_append_right _ (List.mem_append_right _ (List.mem_append_right _ (List.mem_append_right _ (List.mem_append_right _ (List.mem_append_right _ (List.mem_append_right _ (List.mem_append_right _ (List.mem_append_right _ (List.mem_append_left _ (List.mem_of_getElem? (l := tables_1_13) (i := 51) (by decide +kernel)))))))))))))))) (by decide +kernel)
theorem kw_525 : Cond.instanceMethod y_Mo_characters ∈ wA := kinm (show _ ∈ tables_1 from (List.mem_append_right _ (List.mem_append_right _ (List.mem_append_right _ (List.mem_append_right _ (List.mem_append_right _ (List.mem_append_right _ (List.mem_append_right _ (List.mem_append_right _ (List.mem_append_right _ (List.mem_append_right _ (List.mem_append_right _ (List.mem_append_right _ (List.mem_append_left _ (List.mem_of_getElem? (l := tables_1_13) (i := 49) (by decide +kernel)))))))))))))))) (by decide +kernel)
theorem kw_526 : Cond.selects R_Mo y_Mo_characters y_Mo_characters ∈ wA := kinp 184 (by decide +kernel) (by decide +kernel)
theorem cv_Mo_characters : CV y_Mo_characters b_Mo_characters 2 none 0 := ⟨kw_525, kw_526, kw_17, k_Mo_characters, by decide +kernel⟩
theorem lp_Mo_characters_L2 {X : Cx} {q : PL} (g : Gd X y_Mo_characters b_Mo_characters 2 none 8 181 R_Mo) (x : Int32) (s : S1) (o : ((Int32) ⊕ ((Unit) ⊕ (Unit) ⊕ (Unit))) × S1) (h : M_Mo_characters_L2 x s = some o) (hR : (Sum.elim (fun y : Int32 => ∀ ls : Array Slot, lv_has ls 2 [(0, .ref (q.1 0 0)), (1, .int y)] → WW X q o.2 2 ls []) (Sum.elim (fun y : Unit => ∀ ls : Array Slot, lv_has ls 2 [(0, .ref (q.1 0 0))] → WW X q o.2 22 ls []) (Sum.elim (fun y : Unit => ∀ ls : Array Slot, lv_has ls 2 [(0, .ref (q.1 0 0))] → WW X q o.2 51 ls []) (fun y : Unit => ∀ ls : Array Slot, lv_has ls 2 [(0, .ref (q.1 0 0))] → WW X q o.2 78 ls []))) o.1)) : ∀ ls : Array Slot, lv_has ls 2 [(0, .ref (q.1 0 0)), (1, .int x)] → WW X q s 2 ls [] := by
  intro ls hl
  unfold M_Mo_characters_L2 at h
  refine ww_iload_n (pc := 2) g.1 d_Mo_characters_2 rfl (lv_at hl 1 rfl) ?_
  refine ww_aload_n (pc := 3) g.1 d_Mo_characters_3 rfl (lv_at hl 0 rfl) ?_
  refine ww_gR (pc := 4) g (k := 77) cl_Mo (pz rfl (by decide)) (by decide) (Or.inl kw_182) (f := 77) (t := 7) rfl rfl rfl d_Mo_characters_4 ?_
  refine ww_gI (pc := 7) g (k := 2) (cl_Va (Or.inl ⟨by decide, rfl⟩)) (pz rfl (by decide)) (by decide) (Or.inl kw_179) (f := 898) rfl rfl d_Mo_characters_7 h fun v7 h => ?_
  refine ww_icmp_ge (pc := 10) (tgt := 78) g.1 d_Mo_characters_10 (by decide) h (fun c h => ?_) (fun c h => ?_)
  · rw [oR_eq h] at hR
    exact hR ls (lv_sub hl [0] rfl)
  · refine ww_aload_n (pc := 13) g.1 d_Mo_characters_13 rfl (lv_at hl 0 rfl) ?_
    refine ww_iload_n (pc := 14) g.1 d_Mo_characters_14 rfl (lv_at hl 1 rfl) ?_
    refine ww_iconst (pc := 15) g.1 (v := 3) d_Mo_characters_15 (by decide) ?_
    obtain ⟨v16, s, hc16, h⟩ := oB_of h
    refine ww_callV (pc := 16) (rest := []) g cv_Mo_is (Or.inl kw_206) cl_Mo (pz rfl (by decide)) (ct_Mo_is hc16) ⟨by decide, by decide⟩ rfl hl.1 (Nat.le_of_ble_eq_true rfl) d_Mo_characters_16 rfl ?_
    refine ww_st (st' := [.int v16]) rfl ?_
    refine ww_if_ne (pc := 19) (tgt := 29) g.1 d_Mo_characters_19 (by decide) h (fun c h => ?_) (fun c h => ?_)
    · refine ww_aload_n (pc := 29) g.1 d_Mo_characters_29 rfl (lv_at hl 0 rfl) ?_
      refine ww_iload_n (pc := 30) g.1 d_Mo_characters_30 rfl (lv_at hl 1 rfl) ?_
      obtain ⟨v31, s, hc31, h⟩ := oB_of h
      refine ww_callV (pc := 31) (rest := []) g cv_Mo_av (Or.inl kw_193) cl_Mo (pz rfl (by decide)) (ct_Mo_av hc31) ⟨by decide, by decide⟩ rfl hl.1 (Nat.le_of_ble_eq_true rfl) d_Mo_characters_31 rfl ?_
      refine ww_st (st' := [.long v31]) rfl ?_
      refine ww_lconst (pc := 34) g.1 (v := 0) d_Mo_characters_34 (by decide) ?_
      refine ww_lcmp (pc := 35) g.1 d_Mo_characters_35 ?_
      refine ww_if_lt (pc := 36) (tgt := 51) g.1 d_Mo_characters_36 (by decide) h (fun c h => ?_) (fun c h => ?_)
      · rw [oR_eq h] at hR
        exact hR ls (lv_sub hl [0] rfl)
      · refine ww_aload_n (pc := 39) g.1 d_Mo_characters_39 rfl (lv_at hl 0 rfl) ?_
        refine ww_iload_n (pc := 40) g.1 d_Mo_characters_40 rfl (lv_at hl 1 rfl) ?_
        obtain ⟨v41, s, hc41, h⟩ := oB_of h
        refine ww_callV (pc := 41) (rest := []) g cv_Mo_av (Or.inl kw_193) cl_Mo (pz rfl (by decide)) (ct_Mo_av hc41) ⟨by decide, by decide⟩ rfl hl.1 (Nat.le_of_ble_eq_true rfl) d_Mo_characters_41 rfl ?_
        refine ww_st (st' := [.long v41]) rfl ?_
        refine ww_ldc2 (pc := 44) g (v := 255) kw_524 d_Mo_characters_44 ?_
        refine ww_lcmp (pc := 47) g.1 d_Mo_characters_47 ?_
        refine ww_if_le (pc := 48) (tgt := 59) g.1 d_Mo_characters_48 (by decide) h (fun c h => ?_) (fun c h => ?_)
        · refine ww_aload_n (pc := 59) g.1 d_Mo_characters_59 rfl (lv_at hl 0 rfl) ?_
          refine ww_gR (pc := 60) g (k := 93) cl_Mo (pz rfl (by decide)) (by decide) (Or.inl kw_167) (f := 93) (t := 87) rfl rfl rfl d_Mo_characters_60 ?_
          refine ww_iload_n (pc := 63) g.1 d_Mo_characters_63 rfl (lv_at hl 1 rfl) ?_
          refine ww_aload_n (pc := 64) g.1 d_Mo_characters_64 rfl (lv_at hl 0 rfl) ?_
          refine ww_iload_n (pc := 65) g.1 d_Mo_characters_65 rfl (lv_at hl 1 rfl) ?_
          obtain ⟨v66, s, hc66, h⟩ := oB_of h
          refine ww_callV (pc := 66) (rest := [.int x, .ref (q.1 87 0)]) g cv_Mo_av (Or.inl kw_193) cl_Mo (pz rfl (by decide)) (ct_Mo_av hc66) ⟨by decide, by decide⟩ rfl hl.1 (Nat.le_of_ble_eq_true rfl) d_Mo_characters_66 rfl ?_
          refine ww_st (st' := [.long v66, .int x, .ref (q.1 87 0)]) rfl ?_
          refine ww_l2i (pc := 69) g.1 (v := v66.toInt32) d_Mo_characters_69 rfl ?_
          refine ww_i2b (pc := 70) g.1 (v := v66.toInt32.toInt8.toInt32) d_Mo_characters_70 rfl ?_
          refine ww_sb (pc := 71) g (pz rfl (by decide)) rfl rfl d_Mo_characters_71 h fun s hs h => ?_
          refine ww_iinc (pc := 72) g.1 (v := x + 1) (lv' := [(1, .int (x + 1)), (0, .ref (q.1 0 0))]) d_Mo_characters_72 hl (k := 1) rfl (by rfl) (by decide) rfl fun ls hl => ?_
          refine ww_goto (pc := 75) (tgt := 2) g.1 d_Mo_characters_75 (by decide) ?_
          rw [oR_eq h] at hR
          exact hR ls (lv_sub hl [1, 0] rfl)
        · rw [oR_eq h] at hR
          exact hR ls (lv_sub hl [0] rfl)
    · rw [oR_eq h] at hR
      exact hR ls (lv_sub hl [0] rfl)

theorem j_Mo_characters_j51 {X : Cx} {q : PL} (g : Gd X y_Mo_characters b_Mo_characters 2 none 8 181 R_Mo) {o : (Unit) × S1} (hR : Rt X q o.2 none)  (s : S1) (ls : Array Slot) (hl : lv_has ls 2 [(0, .ref (q.1 0 0))]) (h : M_Mo_characters_j51 s = some o) : WW X q s 51 ls [] := by
  unfold M_Mo_characters_j51 at h
  refine ww_aload_n (pc := 51) g.1 d_Mo_characters_51 rfl (lv_at hl 0 rfl) ?_
  refine ww_bipush (pc := 52) g.1 (v := 7) d_Mo_characters_52 (by decide) ?_
  obtain ⟨v54, s, hc54, h⟩ := oB_of h
  refine ww_callV (pc := 54) (rest := []) g cv_Mo_raise (Or.inl kw_157) cl_Mo (pz rfl (by decide)) (ct_Mo_raise hc54) ⟨by decide, by decide⟩ rfl hl.1 (Nat.le_of_ble_eq_true rfl) d_Mo_characters_54 rfl ?_
  refine ww_st (st' := [.int v54]) rfl ?_
  refine ww_pop (pc := 57) g.1 d_Mo_characters_57 rfl ?_
  exact ww_vretH (pc := 58) g h hR d_Mo_characters_58

theorem ct_Mo_characters {l : Launch} {P : PP} {q : PL} {s s' : S1}  {r : Unit} (h : M_Mo_characters s = some (r, s')) : Ct l y_Mo_characters b_Mo_characters 2 none 8 181 P q s [.ref (q.1 0 0)] none q s' := by
  refine ct_of (by decide) (Nat.le_of_ble_eq_true rfl) fun X ls eP el g hR hl => ?_
  subst eP
  have hR : Rt X q ((r, s') : Unit × S1).2 none := hR
  have hl : lv_has ls 2 [(0, .ref (q.1 0 0))] := hl
  generalize (r, s') = o at h hR
  unfold M_Mo_characters at h
  refine ww_iconst (pc := 0) g.1 (v := 0) d_Mo_characters_0 (by decide) ?_
  refine ww_istore_n (pc := 1) (i := 1) g.1 (lv' := [(1, .int 0), (0, .ref (q.1 0 0))]) d_Mo_characters_1 rfl hl (by decide) rfl fun ls hl => ?_
  obtain ⟨e2, s1, hw, h⟩ := oB_of h
  refine oW_rule (Wh := fun (x : Int32) (s : S1) => ∀ ls : Array Slot, lv_has ls 2 [(0, .ref (q.1 0 0)), (1, .int x)] → WW X q s 2 ls []) (We := fun (e : (Unit) ⊕ (Unit) ⊕ (Unit)) (s : S1) => (Sum.elim (fun y : Unit => ∀ ls : Array Slot, lv_has ls 2 [(0, .ref (q.1 0 0))] → WW X q s 22 ls []) (Sum.elim (fun y : Unit => ∀ ls : Array Slot, lv_has ls 2 [(0, .ref (q.1 0 0))] → WW X q s 51 ls []) (fun y : Unit => ∀ ls : Array Slot, lv_has ls 2 [(0, .ref (q.1 0 0))] → WW X q s 78 ls []))) e) (fun x s o hb hc => lp_Mo_characters_L2 (q := q) g x s o hb hc) hw ?_ ls (lv_sub hl [1, 0] rfl)
  clear hw hl
  clear ls
  generalize s1 = s at h ⊢
  rcases e2 with y2_22 | y2_51 | y2_78
  · intro ls hl
    dsimp only [Sum.elim_inl, Sum.elim_inr] at h
    refine ww_aload_n (pc := 22) g.1 d_Mo_characters_22 rfl (lv_at hl 0 rfl) ?_
    refine ww_iconst (pc := 23) g.1 (v := 3) d_Mo_characters_23 (by decide) ?_
    obtain ⟨v24, s, hc24, h⟩ := oB_of h
    refine ww_callV (pc := 24) (rest := []) g cv_Mo_raise (Or.inl kw_157) cl_Mo (pz rfl (by decide)) (ct_Mo_raise hc24) ⟨by decide, by decide⟩ rfl hl.1 (Nat.le_of_ble_eq_true rfl) d_Mo_characters_24 rfl ?_
    refine ww_st (st' := [.int v24]) rfl ?_
    refine ww_pop (pc := 27) g.1 d_Mo_characters_27 rfl ?_
    exact ww_vretH (pc := 28) g h hR d_Mo_characters_28
  · intro ls hl
    dsimp only [Sum.elim_inl, Sum.elim_inr] at h
    exact j_Mo_characters_j51 g hR s ls (lv_sub hl [0] rfl) h
  · intro ls hl
    dsimp only [Sum.elim_inl, Sum.elim_inr] at h
    refine ww_aload_n (pc := 78) g.1 d_Mo_characters_78 rfl (lv_at hl 0 rfl) ?_
    refine ww_aload_n (pc := 79) g.1 d_Mo_characters_79 rfl (lv_at hl 0 rfl) ?_
    refine ww_gR (pc := 80) g (k := 93) cl_Mo (pz rfl (by decide)) (by decide) (Or.inl kw_167) (f := 93) (t := 87) rfl rfl rfl d_Mo_characters_80 ?_
    refine ww_iconst (pc := 83) g.1 (v := 0) d_Mo_characters_83 (by decide) ?_
    refine ww_aload_n (pc := 84) g.1 d_Mo_characters_84 rfl (lv_at hl 0 rfl) ?_
    refine ww_gR (pc := 85) g (k := 77) cl_Mo (pz rfl (by decide)) (by decide) (Or.inl kw_182) (f := 77) (t := 7) rfl rfl rfl d_Mo_characters_85 ?_
    refine ww_gI (pc := 88) g (k := 2) (cl_Va (Or.inl ⟨by decide, rfl⟩)) (pz rfl (by decide)) (by decide) (Or.inl kw_179) (f := 898) rfl rfl d_Mo_characters_88 h fun v88 h => ?_
    obtain ⟨v91, s, hc91, h⟩ := oB_of h
    refine ww_callV (pc := 91) (rest := []) g cv_Mo_string (Or.inl kw_521) cl_Mo (pz rfl (by decide)) (ct_Mo_string ⟨rfl, by decide, by decide⟩ (pz rfl (by decide)) hc91) ⟨by decide, by decide⟩ rfl hl.1 (Nat.le_of_ble_eq_true rfl) d_Mo_characters_91 rfl ?_
    refine ww_st (st' := [.int v91]) rfl ?_
    refine ww_istore_n (pc := 94) (i := 1) g.1 (lv' := [(1, .int v91), (0, .ref (q.1 0 0))]) d_Mo_characters_94 rfl hl (by decide) rfl fun ls hl => ?_
    refine ww_iload_n (pc := 95) g.1 d_Mo_characters_95 rfl (lv_at hl 0 rfl) ?_
    refine ww_if_lt (pc := 96) (tgt := 106) g.1 d_Mo_characters_96 (by decide) h (fun c h => ?_) (fun c h => ?_)
    · exact ww_vretH (pc := 106) g h hR d_Mo_characters_106
    · refine ww_aload_n (pc := 99) g.1 d_Mo_characters_99 rfl (lv_at hl 1 rfl) ?_
      refine ww_iconst (pc := 100) g.1 (v := 4) d_Mo_characters_100 (by decide) ?_
      refine ww_iload_n (pc := 101) g.1 d_Mo_characters_101 rfl (lv_at hl 0 rfl) ?_
      refine ww_i2l (pc := 102) g.1 (v := v91.toInt64) d_Mo_characters_102 rfl ?_
      obtain ⟨v103, s, hc103, h⟩ := oB_of h
      refine ww_callV (pc := 103) (rest := []) g cv_Mo_give (Or.inl kw_212) cl_Mo (pz rfl (by decide)) (ct_Mo_give hc103) ⟨by decide, by decide⟩ rfl hl.1 (Nat.le_of_ble_eq_true rfl) d_Mo_characters_103 rfl ?_
      refine ww_st (st' := []) rfl ?_
      exact ww_vretH (pc := 106) g h hR d_Mo_characters_106

abbrev b_Mo_word : ByteArray := prog_14_method_56_code
def y_Mo_word : MethodName := ⟨R_Mo, "word", "(Ljava/lang/String;)I"⟩
abbrev w_Mo_word : List Cond := .code y_Mo_word b_Mo_word 3 (some .int) :: wA
theorem k_Mo_word : Cond.code y_Mo_word b_Mo_word 3 (some .int) ∈ wA := kinm (show _ ∈ tables_1 from (List.mem_append_right _ (List.mem_append_right _ (List.mem_append_right _ (List.mem_append_right _ (List.mem_append_right _ (List.mem_append_right _ (List.mem_append_right _ (List.mem_append_right _ (List.mem_append_right _ (List.mem_append_right _ (List.mem_append_right _ (List.mem_append_left _ (List.mem_of_getElem? (l := tables_1_12) (i := 69) (by decide +kernel))))))))))))))) (by decide +kernel)
theorem d_Mo_word_0 : decode b_Mo_word 0 = .ok (.iconst 0, 1) := by decide +kernel
theorem d_Mo_word_1 : decode b_Mo_word 1 = .ok (.istore_n 2, 1) := by decide +kernel
theorem d_Mo_word_2 : decode b_Mo_word 2 = .ok (.iload_n 2, 1) := by decide +kernel
theorem d_Mo_word_3 : decode b_Mo_word 3 = .ok (.aload_n 1, 1) := by decide +kernel
theorem d_Mo_word_4 : decode b_Mo_word 4 = .ok (.invokevirtual 647, 3) := by decide +kernel
theorem d_Mo_word_7 : decode b_Mo_word 7 = .ok (.if_icmp .ge 21, 3) := by decide +kernel
theorem d_Mo_word_10 : decode b_Mo_word 10 = .ok (.aload_n 0, 1) := by decide +kernel
theorem d_Mo_word_11 : decode b_Mo_word 11 = .ok (.getfield 415, 3) := by decide +kernel
theorem d_Mo_word_14 : decode b_Mo_word 14 = .ok (.iload_n 2, 1) := by decide +kernel
theorem d_Mo_word_15 : decode b_Mo_word 15 = .ok (.aload_n 1, 1) := by decide +kernel
theorem d_Mo_word_16 : decode b_Mo_word 16 = .ok (.iload_n 2, 1) := by decide +kernel
theorem d_Mo_word_17 : decode b_Mo_word 17 = .ok (.invokevirtual 651, 3) := by decide +kernel
theorem d_Mo_word_20 : decode b_Mo_word 20 = .ok (.i2b, 1) := by decide +kernel
theorem d_Mo_word_21 : decode b_Mo_word 21 = .ok (.bastore, 1) := by decide +kernel
theorem d_Mo_word_22 : decode b_Mo_word 22 = .ok (.iinc 2 1, 3) := by decide +kernel
theorem d_Mo_word_25 : decode b_Mo_word 25 = .ok (.goto (-23), 3) := by decide +kernel
theorem d_Mo_word_28 : decode b_Mo_word 28 = .ok (.aload_n 0, 1) := by decide +kernel
theorem d_Mo_word_29 : decode b_Mo_word 29 = .ok (.aload_n 0, 1) := by decide +kernel
theorem d_Mo_word_30 : decode b_Mo_word 30 = .ok (.getfield 415, 3) := by decide +kernel
theorem d_Mo_word_33 : decode b_Mo_word 33 = .ok (.iconst 0, 1) := by decide +kernel
theorem d_Mo_word_34 : decode b_Mo_word 34 = .ok (.aload_n 1, 1) := by decide +kernel
theorem d_Mo_word_35 : decode b_Mo_word 35 = .ok (.invokevirtual 647, 3) := by decide +kernel
theorem d_Mo_word_38 : decode b_Mo_word 38 = .ok (.invokevirtual 655, 3) := by decide +kernel
theorem d_Mo_word_41 : decode b_Mo_word 41 = .ok (.istore_n 2, 1) := by decide +kernel
theorem d_Mo_word_42 : decode b_Mo_word 42 = .ok (.iload_n 2, 1) := by decide +kernel
theorem d_Mo_word_43 : decode b_Mo_word 43 = .ok (.ifCond .lt 10, 3) := by decide +kernel
theorem d_Mo_word_46 : decode b_Mo_word 46 = .ok (.aload_n 0, 1) := by decide +kernel
theorem d_Mo_word_47 : decode b_Mo_word 47 = .ok (.getfield 162, 3) := by decide +kernel
theorem d_Mo_word_50 : decode b_Mo_word 50 = .ok (.iload_n 2, 1) := by decide +kernel
theorem d_Mo_word_51 : decode b_Mo_word 51 = .ok (.iconst 1, 1) := by decide +kernel
theorem d_Mo_word_52 : decode b_Mo_word 52 = .ok (.bastore, 1) := by decide +kernel
theorem d_Mo_word_53 : decode b_Mo_word 53 = .ok (.iload_n 2, 1) := by decide +kernel
theorem d_Mo_word_54 : decode b_Mo_word 54 = .ok (.ireturn, 1) := by decide +kernel
theorem kw_527 : Cond.methodLink R_Mo 647 y_Str_length ∈ wA := kinm (show _ ∈ tables_1 from (List.mem_append_right _ (List.mem_append_right _ (List.mem_append_right _ (List.mem_append_right _ (List.mem_append_right _ (List.mem_append_right _ (List.mem_append_right _ (List.mem_append_right _ (List.mem_append_right _ (List.mem_append_right _ (List.mem_append_right _ (List.mem_append_left _ (List.mem_of_getElem? (l := tables_1_12) (i := 70) (by decide +kernel))))))))))))))) (by decide +kernel)
theorem kw_528 : Cond.fieldLink R_Mo 415 "LuaMachineModel" "word" "[B" ∈ wA := kinm (show _ ∈ tables_1 from (List.mem_append_right _ (List.mem_append_right _ (List.mem_append_right _ (List.mem_append_right _ (List.mem_append_right _ (List.mem_append_right _ (List.mem_append_right _ (List.mem_append_right _ (List.mem_append_right _ (List.mem_append_left _ (List.mem_of_getElem? (l := tables_1_10) (i := 147) (by decide +kernel))))))))))))) (by decide +kernel)
theorem kw_529 : Cond.methodLink R_Mo 651 y_Str_charAt ∈ wA := kinm (show _ ∈ tables_1 from (List.mem_append_right _ (List.mem_append_right _ (List.mem_append_right _ (List.mem_append_right _ (List.mem_append_right _ (List.mem_append_right _ (List.mem_append_right _ (List.mem_append_right _ (List.mem_append_right _ (List.mem_append_right _ (List.mem_append_right _ (List.mem_append_left _ (List.mem_of_getElem? (l := tables_1_12) (i := 71) (by decide +kernel))))))))))))))) (by decide +kernel)
theorem kw_530 : Cond.instanceMethod y_Mo_word ∈ wA := kinm (show _ ∈ tables_1 from (List.mem_append_right _ (List.mem_append_right _ (List.mem_append_right _ (List.mem_append_right _ (List.mem_append_right _ (List.mem_append_right _ (List.mem_append_right _ (List.mem_append_right _ (List.mem_append_right _ (List.mem_append_right _ (List.mem_append_right _ (List.mem_append_left _ (List.mem_of_getElem? (l := tables_1_12) (i := 68) (by decide +kernel))))))))))))))) (by decide +kernel)
theorem kw_531 : Cond.selects R_Mo y_Mo_word y_Mo_word ∈ wA := kinp 143 (by decide +kernel) (by decide +kernel)
theorem cv_Mo_word : CV y_Mo_word b_Mo_word 3 (some .int) 1 := ⟨kw_530, kw_531, kw_17, k_Mo_word, by decide +kernel⟩
theorem lp_Mo_word_L2 {X : Cx} {q : PL} (g : Gd X y_Mo_word b_Mo_word 3 (some .int) 8 181 R_Mo) (x : Nat × Int32) (s : S1) (o : ((Nat × Int32) ⊕ ((Nat))) × S1) (h : M_Mo_word_L2 x s = some o) (hR : (Sum.elim (fun y : Nat × Int32 => ∀ ls : Array Slot, (y.1 < nSt) → lv_has ls 3 [(0, .ref (q.1 0 0)), (1, .ref (aK (xP X) y.1)), (2, .int y.2)] → WW X q o.2 2 ls []) (fun y : Nat => ∀ ls : Array Slot, (y < nSt) → lv_has ls 3 [(0, .ref (q.1 0 0)), (1, .ref (aK (xP X) y))] → WW X q o.2 28 ls []) o.1)) : ∀ ls : Array Slot, (x.1 < nSt) → lv_has ls 3 [(0, .ref (q.1 0 0)), (1, .ref (aK (xP X) x.1)), (2, .int x.2)] → WW X q s 2 ls [] := by
  intro ls hp0 hl
  unfold M_Mo_word_L2 at h
  refine ww_iload_n (pc := 2) g.1 d_Mo_word_2 rfl (lv_at hl 2 rfl) ?_
  refine ww_aload_n (pc := 3) g.1 d_Mo_word_3 rfl (lv_at hl 1 rfl) ?_
  refine ww_slen (pc := 4) g (n := x.1) hp0 kw_527 ⟨by decide, by decide⟩ hl.1 (Nat.le_of_ble_eq_true rfl) d_Mo_word_4 ?_
  refine ww_icmp_ge (pc := 7) (tgt := 28) g.1 d_Mo_word_7 (by decide) h (fun c h => ?_) (fun c h => ?_)
  · rw [oR_eq h] at hR
    exact hR ls hp0 (lv_sub hl [0, 1] rfl)
  · refine ww_aload_n (pc := 10) g.1 d_Mo_word_10 rfl (lv_at hl 0 rfl) ?_
    refine ww_gR (pc := 11) g (k := 91) cl_Mo (pz rfl (by decide)) (by decide) (Or.inl kw_528) (f := 91) (t := 86) rfl rfl rfl d_Mo_word_11 ?_
    refine ww_iload_n (pc := 14) g.1 d_Mo_word_14 rfl (lv_at hl 2 rfl) ?_
    refine ww_aload_n (pc := 15) g.1 d_Mo_word_15 rfl (lv_at hl 1 rfl) ?_
    refine ww_iload_n (pc := 16) g.1 d_Mo_word_16 rfl (lv_at hl 2 rfl) ?_
    refine ww_ok h fun cs17 h => ?_
    refine ww_schar (pc := 17) g (n := x.1) hp0 cs17 kw_529 ⟨by decide, by decide⟩ hl.1 (Nat.le_of_ble_eq_true rfl) d_Mo_word_17 ?_
    refine ww_i2b (pc := 20) g.1 (v := (stC x.1 x.2).toInt8.toInt32) d_Mo_word_20 rfl ?_
    refine ww_sb (pc := 21) g (pz rfl (by decide)) rfl rfl d_Mo_word_21 h fun s hs h => ?_
    refine ww_iinc (pc := 22) g.1 (v := x.2 + 1) (lv' := [(2, .int (x.2 + 1)), (0, .ref (q.1 0 0)), (1, .ref (aK (xP X) x.1))]) d_Mo_word_22 hl (k := 2) rfl (by rfl) (by decide) rfl fun ls hl => ?_
    refine ww_goto (pc := 25) (tgt := 2) g.1 d_Mo_word_25 (by decide) ?_
    rw [oR_eq h] at hR
    exact hR ls hp0 (lv_sub hl [1, 2, 0] rfl)

theorem ct_Mo_word {l : Launch} {P : PP} {q : PL} {s s' : S1} {l1 : Nat} (hp0 : l1 < nSt) {r : Int32} (h : M_Mo_word l1 s = some (r, s')) : Ct l y_Mo_word b_Mo_word 3 (some .int) 8 181 P q s [.ref (q.1 0 0), .ref (aK P l1)] (some (.int r)) q s' := by
  refine ct_of (by decide) (Nat.le_of_ble_eq_true rfl) fun X ls eP el g hR hl => ?_
  subst eP
  have hR : Rt X q ((r, s') : Int32 × S1).2 (some (.int ((r, s') : Int32 × S1).1)) := hR
  have hl : lv_has ls 3 [(0, .ref (q.1 0 0)), (1, .ref (aK (xP X) l1))] := hl
  generalize (r, s') = o at h hR
  unfold M_Mo_word at h
  refine ww_iconst (pc := 0) g.1 (v := 0) d_Mo_word_0 (by decide) ?_
  refine ww_istore_n (pc := 1) (i := 2) g.1 (lv' := [(2, .int 0), (0, .ref (q.1 0 0)), (1, .ref (aK (xP X) l1))]) d_Mo_word_1 rfl hl (by decide) rfl fun ls hl => ?_
  obtain ⟨e2, s1, hw, h⟩ := oB_of h
  refine oW_rule (Wh := fun (x : Nat × Int32) (s : S1) => ∀ ls : Array Slot, (x.1 < nSt) → lv_has ls 3 [(0, .ref (q.1 0 0)), (1, .ref (aK (xP X) x.1)), (2, .int x.2)] → WW X q s 2 ls []) (We := fun (e : (Nat)) (s : S1) => ∀ ls : Array Slot, (e < nSt) → lv_has ls 3 [(0, .ref (q.1 0 0)), (1, .ref (aK (xP X) e))] → WW X q s 28 ls []) (fun x s o hb hc => lp_Mo_word_L2 (q := q) g x s o hb hc) hw ?_ ls hp0 (lv_sub hl [1, 2, 0] rfl)
  clear hw hl
  clear ls
  intro ls hq2_0 hl
  generalize s1 = s at h ⊢
  refine ww_aload_n (pc := 28) g.1 d_Mo_word_28 rfl (lv_at hl 0 rfl) ?_
  refine ww_aload_n (pc := 29) g.1 d_Mo_word_29 rfl (lv_at hl 0 rfl) ?_
  refine ww_gR (pc := 30) g (k := 91) cl_Mo (pz rfl (by decide)) (by decide) (Or.inl kw_528) (f := 91) (t := 86) rfl rfl rfl d_Mo_word_30 ?_
  refine ww_iconst (pc := 33) g.1 (v := 0) d_Mo_word_33 (by decide) ?_
  refine ww_aload_n (pc := 34) g.1 d_Mo_word_34 rfl (lv_at hl 1 rfl) ?_
  refine ww_slen (pc := 35) g (n := e2) hq2_0 kw_527 ⟨by decide, by decide⟩ hl.1 (Nat.le_of_ble_eq_true rfl) d_Mo_word_35 ?_
  obtain ⟨v38, s, hc38, h⟩ := oB_of h
  refine ww_callV (pc := 38) (rest := []) g cv_Mo_string (Or.inl kw_521) cl_Mo (pz rfl (by decide)) (ct_Mo_string ⟨rfl, by decide, by decide⟩ (pz rfl (by decide)) hc38) ⟨by decide, by decide⟩ rfl hl.1 (Nat.le_of_ble_eq_true rfl) d_Mo_word_38 rfl ?_
  refine ww_st (st' := [.int v38]) rfl ?_
  refine ww_istore_n (pc := 41) (i := 2) g.1 (lv' := [(2, .int v38), (0, .ref (q.1 0 0)), (1, .ref (aK (xP X) e2))]) d_Mo_word_41 rfl hl (by decide) rfl fun ls hl => ?_
  refine ww_iload_n (pc := 42) g.1 d_Mo_word_42 rfl (lv_at hl 0 rfl) ?_
  refine ww_if_lt (pc := 43) (tgt := 53) g.1 d_Mo_word_43 (by decide) h (fun c h => ?_) (fun c h => ?_)
  · refine ww_iload_n (pc := 53) g.1 d_Mo_word_53 rfl (lv_at hl 0 rfl) ?_
    exact ww_iretH (pc := 54) g h hR d_Mo_word_54
  · refine ww_aload_n (pc := 46) g.1 d_Mo_word_46 rfl (lv_at hl 1 rfl) ?_
    refine ww_gR (pc := 47) g (k := 47) cl_Mo (pz rfl (by decide)) (by decide) (Or.inl kw_111) (f := 47) (t := 60) rfl rfl rfl d_Mo_word_47 ?_
    refine ww_iload_n (pc := 50) g.1 d_Mo_word_50 rfl (lv_at hl 0 rfl) ?_
    refine ww_iconst (pc := 51) g.1 (v := 1) d_Mo_word_51 (by decide) ?_
    refine ww_sz (pc := 52) g (pz rfl (by decide)) rfl rfl d_Mo_word_52 h fun s hs h => ?_
    refine ww_iload_n (pc := 53) g.1 d_Mo_word_53 rfl (lv_at hl 0 rfl) ?_
    exact ww_iretH (pc := 54) g h hR d_Mo_word_54

abbrev b_Mo_say__ : ByteArray := prog_14_method_103_code
def y_Mo_say__ : MethodName := ⟨R_Mo, "say", "(Ljava/lang/String;)V"⟩
abbrev w_Mo_say__ : List Cond := .code y_Mo_say__ b_Mo_say__ 3 none :: wA
theorem k_Mo_say__ : Cond.code y_Mo_say__ b_Mo_say__ 3 none ∈ wA := kinm (show _ ∈ tables_1 from (List.mem_append_right _ (List.mem_append_right _ (List.mem_append_right _ (List.mem_append_right _ (List.mem_append_right _ (List.mem_append_right _ (List.mem_append_right _ (List.mem_append_right _ (List.mem_append_right _ (List.mem_append_right _ (List.mem_append_right _ (List.mem_append_left _ (List.mem_of_getElem? (l := tables_1_12) (i := 191) (by decide +kernel))))))))))))))) (by decide +kernel)
theorem d_Mo_say___0 : decode b_Mo_say__ 0 = .ok (.iconst 0, 1) := by decide +kernel
theorem d_Mo_say___1 : decode b_Mo_say__ 1 = .ok (.istore_n 2, 1) := by decide +kernel
theorem d_Mo_say___2 : decode b_Mo_say__ 2 = .ok (.iload_n 2, 1) := by decide +kernel
theorem d_Mo_say___3 : decode b_Mo_say__ 3 = .ok (.aload_n 1, 1) := by decide +kernel
theorem d_Mo_say___4 : decode b_Mo_say__ 4 = .ok (.invokevirtual 647, 3) := by decide +kernel
theorem d_Mo_say___7 : decode b_Mo_say__ 7 = .ok (.if_icmp .ge 18, 3) := by decide +kernel
theorem d_Mo_say___10 : decode b_Mo_say__ 10 = .ok (.aload_n 0, 1) := by decide +kernel
theorem d_Mo_say___11 : decode b_Mo_say__ 11 = .ok (.aload_n 1, 1) := by decide +kernel
theorem d_Mo_say___12 : decode b_Mo_say__ 12 = .ok (.iload_n 2, 1) := by decide +kernel
theorem d_Mo_say___13 : decode b_Mo_say__ 13 = .ok (.invokevirtual 651, 3) := by decide +kernel
theorem d_Mo_say___16 : decode b_Mo_say__ 16 = .ok (.invokevirtual 870, 3) := by decide +kernel
theorem d_Mo_say___19 : decode b_Mo_say__ 19 = .ok (.iinc 2 1, 3) := by decide +kernel
theorem d_Mo_say___22 : decode b_Mo_say__ 22 = .ok (.goto (-20), 3) := by decide +kernel
theorem d_Mo_say___25 : decode b_Mo_say__ 25 = .ok (.return_, 1) := by decide +kernel
theorem kw_532 : Cond.instanceMethod y_Mo_say__ ∈ wA := kinm (show _ ∈ tables_1 from (List.mem_append_right _ (List.mem_append_right _ (List.mem_append_right _ (List.mem_append_right _ (List.mem_append_right _ (List.mem_append_right _ (List.mem_append_right _ (List.mem_append_right _ (List.mem_append_right _ (List.mem_append_right _ (List.mem_append_right _ (List.mem_append_left _ (List.mem_of_getElem? (l := tables_1_12) (i := 190) (by decide +kernel))))))))))))))) (by decide +kernel)
theorem kw_533 : Cond.selects R_Mo y_Mo_say__ y_Mo_say__ ∈ wA := kinp 164 (by decide +kernel) (by decide +kernel)
theorem cv_Mo_say__ : CV y_Mo_say__ b_Mo_say__ 3 none 1 := ⟨kw_532, kw_533, kw_17, k_Mo_say__, by decide +kernel⟩
theorem lp_Mo_say___L2 {X : Cx} {q : PL} (g : Gd X y_Mo_say__ b_Mo_say__ 3 none 5 150 R_Mo) (x : Nat × Int32) (s : S1) (o : ((Nat × Int32) ⊕ ((Unit))) × S1) (h : M_Mo_say___L2 x s = some o) (hR : (Sum.elim (fun y : Nat × Int32 => ∀ ls : Array Slot, (y.1 < nSt) → lv_has ls 3 [(0, .ref (q.1 0 0)), (1, .ref (aK (xP X) y.1)), (2, .int y.2)] → WW X q o.2 2 ls []) (fun y : Unit => ∀ ls : Array Slot, lv_has ls 3 [] → WW X q o.2 25 ls []) o.1)) : ∀ ls : Array Slot, (x.1 < nSt) → lv_has ls 3 [(0, .ref (q.1 0 0)), (1, .ref (aK (xP X) x.1)), (2, .int x.2)] → WW X q s 2 ls [] := by
  intro ls hp0 hl
  unfold M_Mo_say___L2 at h
  refine ww_iload_n (pc := 2) g.1 d_Mo_say___2 rfl (lv_at hl 2 rfl) ?_
  refine ww_aload_n (pc := 3) g.1 d_Mo_say___3 rfl (lv_at hl 1 rfl) ?_
  refine ww_slen (pc := 4) g (n := x.1) hp0 kw_527 ⟨by decide, by decide⟩ hl.1 (Nat.le_of_ble_eq_true rfl) d_Mo_say___4 ?_
  refine ww_icmp_ge (pc := 7) (tgt := 25) g.1 d_Mo_say___7 (by decide) h (fun c h => ?_) (fun c h => ?_)
  · rw [oR_eq h] at hR
    exact hR ls (lv_sub hl [] rfl)
  · refine ww_aload_n (pc := 10) g.1 d_Mo_say___10 rfl (lv_at hl 0 rfl) ?_
    refine ww_aload_n (pc := 11) g.1 d_Mo_say___11 rfl (lv_at hl 1 rfl) ?_
    refine ww_iload_n (pc := 12) g.1 d_Mo_say___12 rfl (lv_at hl 2 rfl) ?_
    refine ww_ok h fun cs13 h => ?_
    refine ww_schar (pc := 13) g (n := x.1) hp0 cs13 kw_529 ⟨by decide, by decide⟩ hl.1 (Nat.le_of_ble_eq_true rfl) d_Mo_say___13 ?_
    obtain ⟨v16, s, hc16, h⟩ := oB_of h
    refine ww_callV (pc := 16) (rest := []) g cv_Mo_say (Or.inl kw_175) cl_Mo (pz rfl (by decide)) (ct_Mo_say hc16) ⟨by decide, by decide⟩ rfl hl.1 (Nat.le_of_ble_eq_true rfl) d_Mo_say___16 rfl ?_
    refine ww_st (st' := []) rfl ?_
    refine ww_iinc (pc := 19) g.1 (v := x.2 + 1) (lv' := [(2, .int (x.2 + 1)), (0, .ref (q.1 0 0)), (1, .ref (aK (xP X) x.1))]) d_Mo_say___19 hl (k := 2) rfl (by rfl) (by decide) rfl fun ls hl => ?_
    refine ww_goto (pc := 22) (tgt := 2) g.1 d_Mo_say___22 (by decide) ?_
    rw [oR_eq h] at hR
    exact hR ls hp0 (lv_sub hl [1, 2, 0] rfl)

theorem ct_Mo_say__ {l : Launch} {P : PP} {q : PL} {s s' : S1} {l1 : Nat} (hp0 : l1 < nSt) {r : Unit} (h : M_Mo_say__ l1 s = some (r, s')) : Ct l y_Mo_say__ b_Mo_say__ 3 none 5 150 P q s [.ref (q.1 0 0), .ref (aK P l1)] none q s' := by
  refine ct_of (by decide) (Nat.le_of_ble_eq_true rfl) fun X ls eP el g hR hl => ?_
  subst eP
  have hR : Rt X q ((r, s') : Unit × S1).2 none := hR
  have hl : lv_has ls 3 [(0, .ref (q.1 0 0)), (1, .ref (aK (xP X) l1))] := hl
  generalize (r, s') = o at h hR
  unfold M_Mo_say__ at h
  refine ww_iconst (pc := 0) g.1 (v := 0) d_Mo_say___0 (by decide) ?_
  refine ww_istore_n (pc := 1) (i := 2) g.1 (lv' := [(2, .int 0), (0, .ref (q.1 0 0)), (1, .ref (aK (xP X) l1))]) d_Mo_say___1 rfl hl (by decide) rfl fun ls hl => ?_
  obtain ⟨e2, s1, hw, h⟩ := oB_of h
  refine oW_rule (Wh := fun (x : Nat × Int32) (s : S1) => ∀ ls : Array Slot, (x.1 < nSt) → lv_has ls 3 [(0, .ref (q.1 0 0)), (1, .ref (aK (xP X) x.1)), (2, .int x.2)] → WW X q s 2 ls []) (We := fun (e : (Unit)) (s : S1) => ∀ ls : Array Slot, lv_has ls 3 [] → WW X q s 25 ls []) (fun x s o hb hc => lp_Mo_say___L2 (q := q) g x s o hb hc) hw ?_ ls hp0 (lv_sub hl [1, 2, 0] rfl)
  clear hw hl
  clear ls
  intro ls hl
  generalize s1 = s at h ⊢
  exact ww_vretH (pc := 25) g h hR d_Mo_say___25

abbrev b_Mo_words : ByteArray := prog_14_method_57_code
def y_Mo_words : MethodName := ⟨R_Mo, "words", "([Ljava/lang/String;[I)Z"⟩
abbrev w_Mo_words : List Cond := .code y_Mo_words b_Mo_words 4 (some .boolean) :: wA
theorem k_Mo_words : Cond.code y_Mo_words b_Mo_words 4 (some .boolean) ∈ wA := kinm (show _ ∈ tables_1 from (List.mem_append_right _ (List.mem_append_right _ (List.mem_append_right _ (List.mem_append_right _ (List.mem_append_right _ (List.mem_append_right _ (List.mem_append_right _ (List.mem_append_right _ (List.mem_append_right _ (List.mem_append_right _ (List.mem_append_right _ (List.mem_append_left _ (List.mem_of_getElem? (l := tables_1_12) (i := 65) (by decide +kernel))))))))))))))) (by decide +kernel)
theorem d_Mo_words_0 : decode b_Mo_words 0 = .ok (.iconst 0, 1) := by decide +kernel
theorem d_Mo_words_1 : decode b_Mo_words 1 = .ok (.istore_n 3, 1) := by decide +kernel
theorem d_Mo_words_2 : decode b_Mo_words 2 = .ok (.iload_n 3, 1) := by decide +kernel
theorem d_Mo_words_3 : decode b_Mo_words 3 = .ok (.aload_n 1, 1) := by decide +kernel
theorem d_Mo_words_4 : decode b_Mo_words 4 = .ok (.arraylength, 1) := by decide +kernel
theorem d_Mo_words_5 : decode b_Mo_words 5 = .ok (.if_icmp .ge 27, 3) := by decide +kernel
theorem d_Mo_words_8 : decode b_Mo_words 8 = .ok (.aload_n 2, 1) := by decide +kernel
theorem d_Mo_words_9 : decode b_Mo_words 9 = .ok (.iload_n 3, 1) := by decide +kernel
theorem d_Mo_words_10 : decode b_Mo_words 10 = .ok (.aload_n 0, 1) := by decide +kernel
theorem d_Mo_words_11 : decode b_Mo_words 11 = .ok (.aload_n 1, 1) := by decide +kernel
theorem d_Mo_words_12 : decode b_Mo_words 12 = .ok (.iload_n 3, 1) := by decide +kernel
theorem d_Mo_words_13 : decode b_Mo_words 13 = .ok (.aaload, 1) := by decide +kernel
theorem d_Mo_words_14 : decode b_Mo_words 14 = .ok (.invokevirtual 657, 3) := by decide +kernel
theorem d_Mo_words_17 : decode b_Mo_words 17 = .ok (.iastore, 1) := by decide +kernel
theorem d_Mo_words_18 : decode b_Mo_words 18 = .ok (.aload_n 2, 1) := by decide +kernel
theorem d_Mo_words_19 : decode b_Mo_words 19 = .ok (.iload_n 3, 1) := by decide +kernel
theorem d_Mo_words_20 : decode b_Mo_words 20 = .ok (.iaload, 1) := by decide +kernel
theorem d_Mo_words_21 : decode b_Mo_words 21 = .ok (.ifCond .ge 5, 3) := by decide +kernel
theorem d_Mo_words_24 : decode b_Mo_words 24 = .ok (.iconst 0, 1) := by decide +kernel
theorem d_Mo_words_25 : decode b_Mo_words 25 = .ok (.ireturn, 1) := by decide +kernel
theorem d_Mo_words_26 : decode b_Mo_words 26 = .ok (.iinc 3 1, 3) := by decide +kernel
theorem d_Mo_words_29 : decode b_Mo_words 29 = .ok (.goto (-27), 3) := by decide +kernel
theorem d_Mo_words_32 : decode b_Mo_words 32 = .ok (.iconst 1, 1) := by decide +kernel
theorem d_Mo_words_33 : decode b_Mo_words 33 = .ok (.ireturn, 1) := by decide +kernel
theorem kw_534 : Cond.methodLink R_Mo 657 y_Mo_word ∈ wA := kinm (show _ ∈ tables_1 from (List.mem_append_right _ (List.mem_append_right _ (List.mem_append_right _ (List.mem_append_right _ (List.mem_append_right _ (List.mem_append_right _ (List.mem_append_right _ (List.mem_append_right _ (List.mem_append_right _ (List.mem_append_right _ (List.mem_append_right _ (List.mem_append_left _ (List.mem_of_getElem? (l := tables_1_12) (i := 66) (by decide +kernel))))))))))))))) (by decide +kernel)
theorem kw_535 : Cond.instanceMethod y_Mo_words ∈ wA := kinm (show _ ∈ tables_1 from (List.mem_append_right _ (List.mem_append_right _ (List.mem_append_right _ (List.mem_append_right _ (List.mem_append_right _ (List.mem_append_right _ (List.mem_append_right _ (List.mem_append_right _ (List.mem_append_right _ (List.mem_append_right _ (List.mem_append_right _ (List.mem_append_left _ (List.mem_of_getElem? (l := tables_1_12) (i := 64) (by decide +kernel))))))))))))))) (by decide +kernel)
theorem kw_536 : Cond.selects R_Mo y_Mo_words y_Mo_words ∈ wA := kinp 142 (by decide +kernel) (by decide +kernel)
theorem cv_Mo_words : CV y_Mo_words b_Mo_words 4 (some .boolean) 2 := ⟨kw_535, kw_536, kw_17, k_Mo_words, by decide +kernel⟩
theorem lp_Mo_words_L2 {X : Cx} {q : PL} (g : Gd X y_Mo_words b_Mo_words 4 (some .boolean) 9 203 R_Mo) (x : Nat × Int32 × Nat × Int32 × Int32) (s : S1) (o : ((Nat × Int32 × Nat × Int32 × Int32) ⊕ ((Unit) ⊕ (Unit))) × S1) (h : M_Mo_words_L2 x s = some o) (hR : (Sum.elim (fun y : Nat × Int32 × Nat × Int32 × Int32 => ∀ ls : Array Slot, (AS y.1) → (prs o.2 y.1 y.2.1) → (AK 1 y.2.2.1) → (prs o.2 y.2.2.1 y.2.2.2.1) → lv_has ls 4 [(0, .ref (q.1 0 0)), (1, .ref (q.1 y.1 y.2.1)), (2, .ref (q.1 y.2.2.1 y.2.2.2.1)), (3, .int y.2.2.2.2)] → WW X q o.2 2 ls []) (Sum.elim (fun y : Unit => ∀ ls : Array Slot, lv_has ls 4 [] → WW X q o.2 24 ls []) (fun y : Unit => ∀ ls : Array Slot, lv_has ls 4 [] → WW X q o.2 32 ls [])) o.1)) : ∀ ls : Array Slot, (AS x.1) → (prs s x.1 x.2.1) → (AK 1 x.2.2.1) → (prs s x.2.2.1 x.2.2.2.1) → lv_has ls 4 [(0, .ref (q.1 0 0)), (1, .ref (q.1 x.1 x.2.1)), (2, .ref (q.1 x.2.2.1 x.2.2.2.1)), (3, .int x.2.2.2.2)] → WW X q s 2 ls [] := by
  intro ls hp0 hp1 hp2 hp3 hl
  unfold M_Mo_words_L2 at h
  refine ww_iload_n (pc := 2) g.1 d_Mo_words_2 rfl (lv_at hl 3 rfl) ?_
  refine ww_aload_n (pc := 3) g.1 d_Mo_words_3 rfl (lv_at hl 1 rfl) ?_
  refine ww_alenS (pc := 4) g (n := lnI x.1) hp1 hp0.1 (as_m hp0) d_Mo_words_4 ?_
  refine ww_icmp_ge (pc := 5) (tgt := 32) g.1 d_Mo_words_5 (by decide) h (fun c h => ?_) (fun c h => ?_)
  · rw [oR_eq h] at hR
    exact hR ls (lv_sub hl [] rfl)
  · refine ww_aload_n (pc := 8) g.1 d_Mo_words_8 rfl (lv_at hl 2 rfl) ?_
    refine ww_iload_n (pc := 9) g.1 d_Mo_words_9 rfl (lv_at hl 3 rfl) ?_
    refine ww_aload_n (pc := 10) g.1 d_Mo_words_10 rfl (lv_at hl 0 rfl) ?_
    refine ww_aload_n (pc := 11) g.1 d_Mo_words_11 rfl (lv_at hl 1 rfl) ?_
    refine ww_iload_n (pc := 12) g.1 d_Mo_words_12 rfl (lv_at hl 3 rfl) ?_
    refine ww_as (pc := 13) g hp1 hp0.1 (as_n hp0) d_Mo_words_13 h fun ca13 h => ?_
    obtain ⟨v14, s, hc14, h⟩ := oB_of h
    refine ww_callV (pc := 14) (rest := [.int x.2.2.2.2, .ref (q.1 x.2.2.1 x.2.2.2.1)]) g cv_Mo_word (Or.inl kw_534) cl_Mo (pz rfl (by decide)) (ct_Mo_word ca13.2 hc14) ⟨by decide, by decide⟩ rfl hl.1 (Nat.le_of_ble_eq_true rfl) d_Mo_words_14 rfl ?_
    refine ww_st (st' := [.int v14, .int x.2.2.2.2, .ref (q.1 x.2.2.1 x.2.2.2.1)]) rfl ?_
    refine ww_pr h fun hp3 h => ?_
    refine ww_pr h fun hp1 h => ?_
    refine ww_si (pc := 17) g hp3 hp2.1 (ak_n hp2) d_Mo_words_17 h fun s hs h => ?_
    have hp1 : prs s x.1 x.2.1 := hs ▸ hp1
    have hp3 : prs s x.2.2.1 x.2.2.2.1 := hs ▸ hp3
    refine ww_aload_n (pc := 18) g.1 d_Mo_words_18 rfl (lv_at hl 2 rfl) ?_
    refine ww_iload_n (pc := 19) g.1 d_Mo_words_19 rfl (lv_at hl 3 rfl) ?_
    refine ww_ai (pc := 20) g hp3 hp2.1 (ak_n hp2) d_Mo_words_20 h fun v20 h => ?_
    refine ww_if_ge (pc := 21) (tgt := 26) g.1 d_Mo_words_21 (by decide) h (fun c h => ?_) (fun c h => ?_)
    · refine ww_iinc (pc := 26) g.1 (v := x.2.2.2.2 + 1) (lv' := [(3, .int (x.2.2.2.2 + 1)), (0, .ref (q.1 0 0)), (1, .ref (q.1 x.1 x.2.1)), (2, .ref (q.1 x.2.2.1 x.2.2.2.1))]) d_Mo_words_26 hl (k := 3) rfl (by rfl) (by decide) rfl fun ls hl => ?_
      refine ww_goto (pc := 29) (tgt := 2) g.1 d_Mo_words_29 (by decide) ?_
      rw [oR_eq h] at hR
      exact hR ls hp0 hp1 hp2 hp3 (lv_sub hl [1, 2, 3, 0] rfl)
    · rw [oR_eq h] at hR
      exact hR ls (lv_sub hl [] rfl)

theorem ct_Mo_words {l : Launch} {P : PP} {q : PL} {s s' : S1} {l1r : Nat} {l1 : Int32} {l2r : Nat} {l2 : Int32} (hp0 : AS l1r) (hp1 : prs s l1r l1) (hp2 : AK 1 l2r) (hp3 : prs s l2r l2) {r : Int32} (h : M_Mo_words l1r l1 l2r l2 s = some (r, s')) : Ct l y_Mo_words b_Mo_words 4 (some .boolean) 9 203 P q s [.ref (q.1 0 0), .ref (q.1 l1r l1), .ref (q.1 l2r l2)] (some (.int r)) q s' := by
  refine ct_of (by decide) (Nat.le_of_ble_eq_true rfl) fun X ls eP el g hR hl => ?_
  subst eP
  have hR : Rt X q ((r, s') : Int32 × S1).2 (some (.int ((r, s') : Int32 × S1).1)) := hR
  have hl : lv_has ls 4 [(0, .ref (q.1 0 0)), (1, .ref (q.1 l1r l1)), (2, .ref (q.1 l2r l2))] := hl
  generalize (r, s') = o at h hR
  unfold M_Mo_words at h
  refine ww_iconst (pc := 0) g.1 (v := 0) d_Mo_words_0 (by decide) ?_
  refine ww_istore_n (pc := 1) (i := 3) g.1 (lv' := [(3, .int 0), (0, .ref (q.1 0 0)), (1, .ref (q.1 l1r l1)), (2, .ref (q.1 l2r l2))]) d_Mo_words_1 rfl hl (by decide) rfl fun ls hl => ?_
  obtain ⟨e2, s1, hw, h⟩ := oB_of h
  refine oW_rule (Wh := fun (x : Nat × Int32 × Nat × Int32 × Int32) (s : S1) => ∀ ls : Array Slot, (AS x.1) → (prs s x.1 x.2.1) → (AK 1 x.2.2.1) → (prs s x.2.2.1 x.2.2.2.1) → lv_has ls 4 [(0, .ref (q.1 0 0)), (1, .ref (q.1 x.1 x.2.1)), (2, .ref (q.1 x.2.2.1 x.2.2.2.1)), (3, .int x.2.2.2.2)] → WW X q s 2 ls []) (We := fun (e : (Unit) ⊕ (Unit)) (s : S1) => (Sum.elim (fun y : Unit => ∀ ls : Array Slot, lv_has ls 4 [] → WW X q s 24 ls []) (fun y : Unit => ∀ ls : Array Slot, lv_has ls 4 [] → WW X q s 32 ls [])) e) (fun x s o hb hc => lp_Mo_words_L2 (q := q) g x s o hb hc) hw ?_ ls hp0 hp1 hp2 hp3 (lv_sub hl [1, 2, 3, 0] rfl)
  clear hw hl
  clear ls
  generalize s1 = s at h ⊢
  rcases e2 with y2_24 | y2_32
  · intro ls hl
    dsimp only [Sum.elim_inl, Sum.elim_inr] at h
    refine ww_iconst (pc := 24) g.1 (v := 0) d_Mo_words_24 (by decide) ?_
    exact ww_zretH (pc := 25) g h hR (Or.inl rfl) d_Mo_words_25
  · intro ls hl
    dsimp only [Sum.elim_inl, Sum.elim_inr] at h
    refine ww_iconst (pc := 32) g.1 (v := 1) d_Mo_words_32 (by decide) ?_
    exact ww_zretH (pc := 33) g h hR (Or.inr rfl) d_Mo_words_33

abbrev b_Mo_sayValue : ByteArray := prog_14_method_106_code
def y_Mo_sayValue : MethodName := ⟨R_Mo, "sayValue", "(IJ)V"⟩
abbrev w_Mo_sayValue : List Cond := .code y_Mo_sayValue b_Mo_sayValue 4 none :: wA
set_option maxRecDepth 20000 in
theorem k_Mo_sayValue : Cond.code y_Mo_sayValue b_Mo_sayValue 4 none ∈ wA := kinm (show _ ∈ tables_1 from (List.mem_append_right _ (List.mem_append_right _ (List.mem_append_right _ (List.mem_append_right _ (List.mem_append_right _ (List.mem_append_right _ (List.mem_append_right _ (List.mem_append_right _ (List.mem_append_right _ (List.mem_append_right _ (List.mem_append_right _ (List.mem_append_left _ (List.mem_of_getElem? (l := tables_1_12) (i := 187) rfl)))))))))))))) rfl
theorem d_Mo_sayValue_0 : decode b_Mo_sayValue 0 = .ok (.iload_n 1, 1) := by decide +kernel
theorem d_Mo_sayValue_1 : decode b_Mo_sayValue 1 = .ok (.tableswitch 150 0 6 #[43, 53, 63, 73, 81, 150, 102], 43) := by decide +kernel
theorem d_Mo_sayValue_44 : decode b_Mo_sayValue 44 = .ok (.aload_n 0, 1) := by decide +kernel
theorem d_Mo_sayValue_45 : decode b_Mo_sayValue 45 = .ok (.ldc_w 377, 3) := by decide +kernel
theorem d_Mo_sayValue_48 : decode b_Mo_sayValue 48 = .ok (.invokevirtual 881, 3) := by decide +kernel
theorem d_Mo_sayValue_51 : decode b_Mo_sayValue 51 = .ok (.goto 130, 3) := by decide +kernel
theorem d_Mo_sayValue_54 : decode b_Mo_sayValue 54 = .ok (.aload_n 0, 1) := by decide +kernel
theorem d_Mo_sayValue_55 : decode b_Mo_sayValue 55 = .ok (.ldc_w 884, 3) := by decide +kernel
theorem d_Mo_sayValue_58 : decode b_Mo_sayValue 58 = .ok (.invokevirtual 881, 3) := by decide +kernel
theorem d_Mo_sayValue_61 : decode b_Mo_sayValue 61 = .ok (.goto 120, 3) := by decide +kernel
theorem d_Mo_sayValue_64 : decode b_Mo_sayValue 64 = .ok (.aload_n 0, 1) := by decide +kernel
theorem d_Mo_sayValue_65 : decode b_Mo_sayValue 65 = .ok (.ldc_w 886, 3) := by decide +kernel
theorem d_Mo_sayValue_68 : decode b_Mo_sayValue 68 = .ok (.invokevirtual 881, 3) := by decide +kernel
theorem d_Mo_sayValue_71 : decode b_Mo_sayValue 71 = .ok (.goto 110, 3) := by decide +kernel
theorem d_Mo_sayValue_74 : decode b_Mo_sayValue 74 = .ok (.aload_n 0, 1) := by decide +kernel
theorem d_Mo_sayValue_75 : decode b_Mo_sayValue 75 = .ok (.lload_n 2, 1) := by decide +kernel
theorem d_Mo_sayValue_76 : decode b_Mo_sayValue 76 = .ok (.invokevirtual 888, 3) := by decide +kernel
theorem d_Mo_sayValue_79 : decode b_Mo_sayValue 79 = .ok (.goto 102, 3) := by decide +kernel
theorem d_Mo_sayValue_82 : decode b_Mo_sayValue 82 = .ok (.aload_n 0, 1) := by decide +kernel
theorem d_Mo_sayValue_83 : decode b_Mo_sayValue 83 = .ok (.aload_n 0, 1) := by decide +kernel
theorem d_Mo_sayValue_84 : decode b_Mo_sayValue 84 = .ok (.getfield 168, 3) := by decide +kernel
theorem d_Mo_sayValue_87 : decode b_Mo_sayValue 87 = .ok (.lload_n 2, 1) := by decide +kernel
theorem d_Mo_sayValue_88 : decode b_Mo_sayValue 88 = .ok (.l2i, 1) := by decide +kernel
theorem d_Mo_sayValue_89 : decode b_Mo_sayValue 89 = .ok (.iaload, 1) := by decide +kernel
theorem d_Mo_sayValue_90 : decode b_Mo_sayValue 90 = .ok (.aload_n 0, 1) := by decide +kernel
theorem d_Mo_sayValue_91 : decode b_Mo_sayValue 91 = .ok (.getfield 171, 3) := by decide +kernel
theorem d_Mo_sayValue_94 : decode b_Mo_sayValue 94 = .ok (.lload_n 2, 1) := by decide +kernel
theorem d_Mo_sayValue_95 : decode b_Mo_sayValue 95 = .ok (.l2i, 1) := by decide +kernel
theorem d_Mo_sayValue_96 : decode b_Mo_sayValue 96 = .ok (.iaload, 1) := by decide +kernel
theorem d_Mo_sayValue_97 : decode b_Mo_sayValue 97 = .ok (.invokevirtual 892, 3) := by decide +kernel
theorem d_Mo_sayValue_100 : decode b_Mo_sayValue 100 = .ok (.goto 81, 3) := by decide +kernel
theorem d_Mo_sayValue_103 : decode b_Mo_sayValue 103 = .ok (.aload_n 0, 1) := by decide +kernel
theorem d_Mo_sayValue_104 : decode b_Mo_sayValue 104 = .ok (.lload_n 2, 1) := by decide +kernel
theorem d_Mo_sayValue_105 : decode b_Mo_sayValue 105 = .ok (.lconst 0, 1) := by decide +kernel
theorem d_Mo_sayValue_106 : decode b_Mo_sayValue 106 = .ok (.lcmp, 1) := by decide +kernel
theorem d_Mo_sayValue_107 : decode b_Mo_sayValue 107 = .ok (.ifCond .ge 9, 3) := by decide +kernel
theorem d_Mo_sayValue_110 : decode b_Mo_sayValue 110 = .ok (.ldc_w 894, 3) := by decide +kernel
theorem d_Mo_sayValue_113 : decode b_Mo_sayValue 113 = .ok (.goto 6, 3) := by decide +kernel
theorem d_Mo_sayValue_116 : decode b_Mo_sayValue 116 = .ok (.ldc_w 896, 3) := by decide +kernel
theorem d_Mo_sayValue_119 : decode b_Mo_sayValue 119 = .ok (.invokevirtual 881, 3) := by decide +kernel
theorem d_Mo_sayValue_122 : decode b_Mo_sayValue 122 = .ok (.aload_n 0, 1) := by decide +kernel
theorem d_Mo_sayValue_123 : decode b_Mo_sayValue 123 = .ok (.lload_n 2, 1) := by decide +kernel
theorem d_Mo_sayValue_124 : decode b_Mo_sayValue 124 = .ok (.lconst 0, 1) := by decide +kernel
theorem d_Mo_sayValue_125 : decode b_Mo_sayValue 125 = .ok (.lcmp, 1) := by decide +kernel
theorem d_Mo_sayValue_126 : decode b_Mo_sayValue 126 = .ok (.ifCond .ge 11, 3) := by decide +kernel
theorem d_Mo_sayValue_129 : decode b_Mo_sayValue 129 = .ok (.ldc2_w 722, 3) := by decide +kernel
theorem d_Mo_sayValue_132 : decode b_Mo_sayValue 132 = .ok (.lload_n 2, 1) := by decide +kernel
theorem d_Mo_sayValue_133 : decode b_Mo_sayValue 133 = .ok (.lsub, 1) := by decide +kernel
theorem d_Mo_sayValue_134 : decode b_Mo_sayValue 134 = .ok (.goto 11, 3) := by decide +kernel
theorem d_Mo_sayValue_137 : decode b_Mo_sayValue 137 = .ok (.aload_n 0, 1) := by decide +kernel
theorem d_Mo_sayValue_138 : decode b_Mo_sayValue 138 = .ok (.getfield 165, 3) := by decide +kernel
theorem d_Mo_sayValue_141 : decode b_Mo_sayValue 141 = .ok (.lload_n 2, 1) := by decide +kernel
theorem d_Mo_sayValue_142 : decode b_Mo_sayValue 142 = .ok (.l2i, 1) := by decide +kernel
theorem d_Mo_sayValue_143 : decode b_Mo_sayValue 143 = .ok (.iaload, 1) := by decide +kernel
theorem d_Mo_sayValue_144 : decode b_Mo_sayValue 144 = .ok (.i2l, 1) := by decide +kernel
theorem d_Mo_sayValue_145 : decode b_Mo_sayValue 145 = .ok (.invokevirtual 888, 3) := by decide +kernel
theorem d_Mo_sayValue_148 : decode b_Mo_sayValue 148 = .ok (.goto 33, 3) := by decide +kernel
theorem d_Mo_sayValue_151 : decode b_Mo_sayValue 151 = .ok (.aload_n 0, 1) := by decide +kernel
theorem d_Mo_sayValue_152 : decode b_Mo_sayValue 152 = .ok (.iload_n 1, 1) := by decide +kernel
theorem d_Mo_sayValue_153 : decode b_Mo_sayValue 153 = .ok (.iconst 5, 1) := by decide +kernel
theorem d_Mo_sayValue_154 : decode b_Mo_sayValue 154 = .ok (.if_icmp .ne 9, 3) := by decide +kernel
theorem d_Mo_sayValue_157 : decode b_Mo_sayValue 157 = .ok (.ldc_w 898, 3) := by decide +kernel
theorem d_Mo_sayValue_160 : decode b_Mo_sayValue 160 = .ok (.goto 6, 3) := by decide +kernel
theorem d_Mo_sayValue_163 : decode b_Mo_sayValue 163 = .ok (.ldc_w 900, 3) := by decide +kernel
theorem d_Mo_sayValue_166 : decode b_Mo_sayValue 166 = .ok (.invokevirtual 881, 3) := by decide +kernel
theorem d_Mo_sayValue_169 : decode b_Mo_sayValue 169 = .ok (.aload_n 0, 1) := by decide +kernel
theorem d_Mo_sayValue_170 : decode b_Mo_sayValue 170 = .ok (.aload_n 0, 1) := by decide +kernel
theorem d_Mo_sayValue_171 : decode b_Mo_sayValue 171 = .ok (.getfield 165, 3) := by decide +kernel
theorem d_Mo_sayValue_174 : decode b_Mo_sayValue 174 = .ok (.lload_n 2, 1) := by decide +kernel
theorem d_Mo_sayValue_175 : decode b_Mo_sayValue 175 = .ok (.l2i, 1) := by decide +kernel
theorem d_Mo_sayValue_176 : decode b_Mo_sayValue 176 = .ok (.iaload, 1) := by decide +kernel
theorem d_Mo_sayValue_177 : decode b_Mo_sayValue 177 = .ok (.i2l, 1) := by decide +kernel
theorem d_Mo_sayValue_178 : decode b_Mo_sayValue 178 = .ok (.invokevirtual 888, 3) := by decide +kernel
theorem d_Mo_sayValue_181 : decode b_Mo_sayValue 181 = .ok (.return_, 1) := by decide +kernel
theorem kw_537 : Cond.methodLink R_Mo 881 y_Mo_say__ ∈ wA := kinm (show _ ∈ tables_1 from (List.mem_append_right _ (List.mem_append_right _ (List.mem_append_right _ (List.mem_append_right _ (List.mem_append_right _ (List.mem_append_right _ (List.mem_append_right _ (List.mem_append_right _ (List.mem_append_right _ (List.mem_append_right _ (List.mem_append_right _ (List.mem_append_left _ (List.mem_of_getElem? (l := tables_1_12) (i := 188) (by decide +kernel))))))))))))))) (by decide +kernel)
theorem kw_538 : Cond.methodLink R_Mo 888 y_Mo_sayNumber ∈ wA := kinm (show _ ∈ tables_1 from (List.mem_append_right _ (List.mem_append_right _ (List.mem_append_right _ (List.mem_append_right _ (List.mem_append_right _ (List.mem_append_right _ (List.mem_append_right _ (List.mem_append_right _ (List.mem_append_right _ (List.mem_append_right _ (List.mem_append_right _ (List.mem_append_left _ (List.mem_of_getElem? (l := tables_1_12) (i := 194) (by decide +kernel))))))))))))))) (by decide +kernel)
theorem kw_539 : Cond.methodLink R_Mo 892 y_Mo_say_ ∈ wA := kinm (show _ ∈ tables_1 from (List.mem_append_right _ (List.mem_append_right _ (List.mem_append_right _ (List.mem_append_right _ (List.mem_append_right _ (List.mem_append_right _ (List.mem_append_right _ (List.mem_append_right _ (List.mem_append_right _ (List.mem_append_right _ (List.mem_append_right _ (List.mem_append_left _ (List.mem_of_getElem? (l := tables_1_12) (i := 201) (by decide +kernel))))))))))))))) (by decide +kernel)
theorem kw_540 : Cond.instanceMethod y_Mo_sayValue ∈ wA := kinm (show _ ∈ tables_1 from (List.mem_append_right _ (List.mem_append_right _ (List.mem_append_right _ (List.mem_append_right _ (List.mem_append_right _ (List.mem_append_right _ (List.mem_append_right _ (List.mem_append_right _ (List.mem_append_right _ (List.mem_append_right _ (List.mem_append_right _ (List.mem_append_left _ (List.mem_of_getElem? (l := tables_1_12) (i := 186) (by decide +kernel))))))))))))))) (by decide +kernel)
theorem kw_541 : Cond.selects R_Mo y_Mo_sayValue y_Mo_sayValue ∈ wA := kinp 163 (by decide +kernel) (by decide +kernel)
theorem cv_Mo_sayValue : CV y_Mo_sayValue b_Mo_sayValue 4 none 2 := ⟨kw_540, kw_541, kw_17, k_Mo_sayValue, by decide +kernel⟩
theorem j_Mo_sayValue_j145 {X : Cx} {q : PL} (g : Gd X y_Mo_sayValue b_Mo_sayValue 4 none 6 172 R_Mo) {o : (Unit) × S1} (hR : Rt X q o.2 none) (k0 : Int64) (s : S1) (ls : Array Slot) (hl : lv_has ls 4 []) (h : M_Mo_sayValue_j145 k0 s = some o) : WW X q s 145 ls [.long k0, .ref (q.1 0 0)] := by
  unfold M_Mo_sayValue_j145 at h
  obtain ⟨v145, s, hc145, h⟩ := oB_of h
  refine ww_callV (pc := 145) (rest := []) g cv_Mo_sayNumber (Or.inl kw_538) cl_Mo (pz rfl (by decide)) (ct_Mo_sayNumber hc145) ⟨by decide, by decide⟩ rfl hl.1 (Nat.le_of_ble_eq_true rfl) d_Mo_sayValue_145 rfl ?_
  refine ww_st (st' := []) rfl ?_
  refine ww_goto (pc := 148) (tgt := 181) g.1 d_Mo_sayValue_148 (by decide) ?_
  exact ww_vretH (pc := 181) g h hR d_Mo_sayValue_181

theorem j_Mo_sayValue_j119 {X : Cx} {q : PL} (g : Gd X y_Mo_sayValue b_Mo_sayValue 4 none 6 172 R_Mo) {o : (Unit) × S1} (hR : Rt X q o.2 none) (l2 : Int64) (k0 : Nat) (s : S1) (hp0 : k0 < nSt) (ls : Array Slot) (hl : lv_has ls 4 [(0, .ref (q.1 0 0)), (2, .long l2)]) (h : M_Mo_sayValue_j119 l2 k0 s = some o) : WW X q s 119 ls [.ref (aK (xP X) k0), .ref (q.1 0 0)] := by
  unfold M_Mo_sayValue_j119 at h
  obtain ⟨v119, s, hc119, h⟩ := oB_of h
  refine ww_callV (pc := 119) (rest := []) g cv_Mo_say__ (Or.inl kw_537) cl_Mo (pz rfl (by decide)) (ct_Mo_say__ hp0 hc119) ⟨by decide, by decide⟩ rfl hl.1 (Nat.le_of_ble_eq_true rfl) d_Mo_sayValue_119 rfl ?_
  refine ww_st (st' := []) rfl ?_
  refine ww_aload_n (pc := 122) g.1 d_Mo_sayValue_122 rfl (lv_at hl 0 rfl) ?_
  refine ww_lload_n (pc := 123) g.1 d_Mo_sayValue_123 rfl (lv_at hl 1 rfl) ?_
  refine ww_lconst (pc := 124) g.1 (v := 0) d_Mo_sayValue_124 (by decide) ?_
  refine ww_lcmp (pc := 125) g.1 d_Mo_sayValue_125 ?_
  refine ww_if_ge (pc := 126) (tgt := 137) g.1 d_Mo_sayValue_126 (by decide) h (fun c h => ?_) (fun c h => ?_)
  · refine ww_aload_n (pc := 137) g.1 d_Mo_sayValue_137 rfl (lv_at hl 0 rfl) ?_
    refine ww_gR (pc := 138) g (k := 48) cl_Mo (pz rfl (by decide)) (by decide) (Or.inl kw_112) (f := 48) (t := 61) rfl rfl rfl d_Mo_sayValue_138 ?_
    refine ww_lload_n (pc := 141) g.1 d_Mo_sayValue_141 rfl (lv_at hl 1 rfl) ?_
    refine ww_l2i (pc := 142) g.1 (v := l2.toInt32) d_Mo_sayValue_142 rfl ?_
    refine ww_ai (pc := 143) g (pz rfl (by decide)) rfl rfl d_Mo_sayValue_143 h fun v143 h => ?_
    refine ww_i2l (pc := 144) g.1 (v := v143.toInt64) d_Mo_sayValue_144 rfl ?_
    exact j_Mo_sayValue_j145 g hR v143.toInt64 s ls (lv_sub hl [] rfl) h
  · refine ww_ldc2 (pc := 129) g (v := (-1)) kw_286 d_Mo_sayValue_129 ?_
    refine ww_lload_n (pc := 132) g.1 d_Mo_sayValue_132 rfl (lv_at hl 1 rfl) ?_
    refine ww_lsub (pc := 133) g.1 d_Mo_sayValue_133 ?_
    refine ww_goto (pc := 134) (tgt := 145) g.1 d_Mo_sayValue_134 (by decide) ?_
    exact j_Mo_sayValue_j145 g hR ((-1) - l2) s ls (lv_sub hl [] rfl) h

theorem j_Mo_sayValue_j166 {X : Cx} {q : PL} (g : Gd X y_Mo_sayValue b_Mo_sayValue 4 none 6 172 R_Mo) {o : (Unit) × S1} (hR : Rt X q o.2 none) (l2 : Int64) (k0 : Nat) (s : S1) (hp0 : k0 < nSt) (ls : Array Slot) (hl : lv_has ls 4 [(0, .ref (q.1 0 0)), (2, .long l2)]) (h : M_Mo_sayValue_j166 l2 k0 s = some o) : WW X q s 166 ls [.ref (aK (xP X) k0), .ref (q.1 0 0)] := by
  unfold M_Mo_sayValue_j166 at h
  obtain ⟨v166, s, hc166, h⟩ := oB_of h
  refine ww_callV (pc := 166) (rest := []) g cv_Mo_say__ (Or.inl kw_537) cl_Mo (pz rfl (by decide)) (ct_Mo_say__ hp0 hc166) ⟨by decide, by decide⟩ rfl hl.1 (Nat.le_of_ble_eq_true rfl) d_Mo_sayValue_166 rfl ?_
  refine ww_st (st' := []) rfl ?_
  refine ww_aload_n (pc := 169) g.1 d_Mo_sayValue_169 rfl (lv_at hl 0 rfl) ?_
  refine ww_aload_n (pc := 170) g.1 d_Mo_sayValue_170 rfl (lv_at hl 0 rfl) ?_
  refine ww_gR (pc := 171) g (k := 48) cl_Mo (pz rfl (by decide)) (by decide) (Or.inl kw_112) (f := 48) (t := 61) rfl rfl rfl d_Mo_sayValue_171 ?_
  refine ww_lload_n (pc := 174) g.1 d_Mo_sayValue_174 rfl (lv_at hl 1 rfl) ?_
  refine ww_l2i (pc := 175) g.1 (v := l2.toInt32) d_Mo_sayValue_175 rfl ?_
  refine ww_ai (pc := 176) g (pz rfl (by decide)) rfl rfl d_Mo_sayValue_176 h fun v176 h => ?_
  refine ww_i2l (pc := 177) g.1 (v := v176.toInt64) d_Mo_sayValue_177 rfl ?_
  obtain ⟨v178, s, hc178, h⟩ := oB_of h
  refine ww_callV (pc := 178) (rest := []) g cv_Mo_sayNumber (Or.inl kw_538) cl_Mo (pz rfl (by decide)) (ct_Mo_sayNumber hc178) ⟨by decide, by decide⟩ rfl hl.1 (Nat.le_of_ble_eq_true rfl) d_Mo_sayValue_178 rfl ?_
  refine ww_st (st' := []) rfl ?_
  exact ww_vretH (pc := 181) g h hR d_Mo_sayValue_181

theorem ct_Mo_sayValue {l : Launch} {P : PP} {q : PL} {s s' : S1} {l1 : Int32} {l2 : Int64} {r : Unit} (h : M_Mo_sayValue l1 l2 s = some (r, s')) : Ct l y_Mo_sayValue b_Mo_sayValue 4 none 6 172 P q s [.ref (q.1 0 0), .int l1, .long l2] none q s' := by
  refine ct_of (by decide) (Nat.le_of_ble_eq_true rfl) fun X ls eP el g hR hl => ?_
  subst eP
  have hR : Rt X q ((r, s') : Unit × S1).2 none := hR
  have hl : lv_has ls 4 [(0, .ref (q.1 0 0)), (1, .int l1), (2, .long l2)] := hl
  generalize (r, s') = o at h hR
  unfold M_Mo_sayValue at h
  refine ww_iload_n (pc := 0) g.1 d_Mo_sayValue_0 rfl (lv_at hl 1 rfl) ?_
  by_cases c1_44 : l1 = 0
  · have h := oC_pos c1_44 h
    have c := c1_44
    refine ww_tableIn (pc := 1) (tgt := 44) g.1 d_Mo_sayValue_1 (by rw [c]; decide) (by rw [c]; decide) (by rw [c]; rfl) (by decide) ?_
    refine ww_aload_n (pc := 44) g.1 d_Mo_sayValue_44 rfl (lv_at hl 0 rfl) ?_
    refine ww_ldcwS (pc := 45) g (n := 46) (by decide) rfl rfl d_Mo_sayValue_45 ?_
    obtain ⟨v48, s, hc48, h⟩ := oB_of h
    refine ww_callV (pc := 48) (rest := []) g cv_Mo_say__ (Or.inl kw_537) cl_Mo (pz rfl (by decide)) (ct_Mo_say__ (by decide) hc48) ⟨by decide, by decide⟩ rfl hl.1 (Nat.le_of_ble_eq_true rfl) d_Mo_sayValue_48 rfl ?_
    refine ww_st (st' := []) rfl ?_
    refine ww_goto (pc := 51) (tgt := 181) g.1 d_Mo_sayValue_51 (by decide) ?_
    exact ww_vretH (pc := 181) g h hR d_Mo_sayValue_181
  have h := oC_neg c1_44 h
  by_cases c1_54 : l1 = 1
  · have h := oC_pos c1_54 h
    have c := c1_54
    refine ww_tableIn (pc := 1) (tgt := 54) g.1 d_Mo_sayValue_1 (by rw [c]; decide) (by rw [c]; decide) (by rw [c]; rfl) (by decide) ?_
    refine ww_aload_n (pc := 54) g.1 d_Mo_sayValue_54 rfl (lv_at hl 0 rfl) ?_
    refine ww_ldcwS (pc := 55) g (n := 70) (by decide) rfl rfl d_Mo_sayValue_55 ?_
    obtain ⟨v58, s, hc58, h⟩ := oB_of h
    refine ww_callV (pc := 58) (rest := []) g cv_Mo_say__ (Or.inl kw_537) cl_Mo (pz rfl (by decide)) (ct_Mo_say__ (by decide) hc58) ⟨by decide, by decide⟩ rfl hl.1 (Nat.le_of_ble_eq_true rfl) d_Mo_sayValue_58 rfl ?_
    refine ww_st (st' := []) rfl ?_
    refine ww_goto (pc := 61) (tgt := 181) g.1 d_Mo_sayValue_61 (by decide) ?_
    exact ww_vretH (pc := 181) g h hR d_Mo_sayValue_181
  have h := oC_neg c1_54 h
  by_cases c1_64 : l1 = 2
  · have h := oC_pos c1_64 h
    have c := c1_64
    refine ww_tableIn (pc := 1) (tgt := 64) g.1 d_Mo_sayValue_1 (by rw [c]; decide) (by rw [c]; decide) (by rw [c]; rfl) (by decide) ?_
    refine ww_aload_n (pc := 64) g.1 d_Mo_sayValue_64 rfl (lv_at hl 0 rfl) ?_
    refine ww_ldcwS (pc := 65) g (n := 71) (by decide) rfl rfl d_Mo_sayValue_65 ?_
    obtain ⟨v68, s, hc68, h⟩ := oB_of h
    refine ww_callV (pc := 68) (rest := []) g cv_Mo_say__ (Or.inl kw_537) cl_Mo (pz rfl (by decide)) (ct_Mo_say__ (by decide) hc68) ⟨by decide, by decide⟩ rfl hl.1 (Nat.le_of_ble_eq_true rfl) d_Mo_sayValue_68 rfl ?_
    refine ww_st (st' := []) rfl ?_
    refine ww_goto (pc := 71) (tgt := 181) g.1 d_Mo_sayValue_71 (by decide) ?_
    exact ww_vretH (pc := 181) g h hR d_Mo_sayValue_181
  have h := oC_neg c1_64 h
  by_cases c1_74 : l1 = 3
  · have h := oC_pos c1_74 h
    have c := c1_74
    refine ww_tableIn (pc := 1) (tgt := 74) g.1 d_Mo_sayValue_1 (by rw [c]; decide) (by rw [c]; decide) (by rw [c]; rfl) (by decide) ?_
    refine ww_aload_n (pc := 74) g.1 d_Mo_sayValue_74 rfl (lv_at hl 0 rfl) ?_
    refine ww_lload_n (pc := 75) g.1 d_Mo_sayValue_75 rfl (lv_at hl 2 rfl) ?_
    obtain ⟨v76, s, hc76, h⟩ := oB_of h
    refine ww_callV (pc := 76) (rest := []) g cv_Mo_sayNumber (Or.inl kw_538) cl_Mo (pz rfl (by decide)) (ct_Mo_sayNumber hc76) ⟨by decide, by decide⟩ rfl hl.1 (Nat.le_of_ble_eq_true rfl) d_Mo_sayValue_76 rfl ?_
    refine ww_st (st' := []) rfl ?_
    refine ww_goto (pc := 79) (tgt := 181) g.1 d_Mo_sayValue_79 (by decide) ?_
    exact ww_vretH (pc := 181) g h hR d_Mo_sayValue_181
  have h := oC_neg c1_74 h
  by_cases c1_82 : l1 = 4
  · have h := oC_pos c1_82 h
    have c := c1_82
    refine ww_tableIn (pc := 1) (tgt := 82) g.1 d_Mo_sayValue_1 (by rw [c]; decide) (by rw [c]; decide) (by rw [c]; rfl) (by decide) ?_
    refine ww_aload_n (pc := 82) g.1 d_Mo_sayValue_82 rfl (lv_at hl 0 rfl) ?_
    refine ww_aload_n (pc := 83) g.1 d_Mo_sayValue_83 rfl (lv_at hl 0 rfl) ?_
    refine ww_gR (pc := 84) g (k := 49) cl_Mo (pz rfl (by decide)) (by decide) (Or.inl kw_87) (f := 49) (t := 62) rfl rfl rfl d_Mo_sayValue_84 ?_
    refine ww_lload_n (pc := 87) g.1 d_Mo_sayValue_87 rfl (lv_at hl 2 rfl) ?_
    refine ww_l2i (pc := 88) g.1 (v := l2.toInt32) d_Mo_sayValue_88 rfl ?_
    refine ww_ai (pc := 89) g (pz rfl (by decide)) rfl rfl d_Mo_sayValue_89 h fun v89 h => ?_
    refine ww_aload_n (pc := 90) g.1 d_Mo_sayValue_90 rfl (lv_at hl 0 rfl) ?_
    refine ww_gR (pc := 91) g (k := 50) cl_Mo (pz rfl (by decide)) (by decide) (Or.inl kw_91) (f := 50) (t := 63) rfl rfl rfl d_Mo_sayValue_91 ?_
    refine ww_lload_n (pc := 94) g.1 d_Mo_sayValue_94 rfl (lv_at hl 2 rfl) ?_
    refine ww_l2i (pc := 95) g.1 (v := l2.toInt32) d_Mo_sayValue_95 rfl ?_
    refine ww_ai (pc := 96) g (pz rfl (by decide)) rfl rfl d_Mo_sayValue_96 h fun v96 h => ?_
    obtain ⟨v97, s, hc97, h⟩ := oB_of h
    refine ww_callV (pc := 97) (rest := []) g cv_Mo_say_ (Or.inl kw_539) cl_Mo (pz rfl (by decide)) (ct_Mo_say_ hc97) ⟨by decide, by decide⟩ rfl hl.1 (Nat.le_of_ble_eq_true rfl) d_Mo_sayValue_97 rfl ?_
    refine ww_st (st' := []) rfl ?_
    refine ww_goto (pc := 100) (tgt := 181) g.1 d_Mo_sayValue_100 (by decide) ?_
    exact ww_vretH (pc := 181) g h hR d_Mo_sayValue_181
  have h := oC_neg c1_82 h
  by_cases c1_103 : l1 = 6
  · have h := oC_pos c1_103 h
    have c := c1_103
    refine ww_tableIn (pc := 1) (tgt := 103) g.1 d_Mo_sayValue_1 (by rw [c]; decide) (by rw [c]; decide) (by rw [c]; rfl) (by decide) ?_
    refine ww_aload_n (pc := 103) g.1 d_Mo_sayValue_103 rfl (lv_at hl 0 rfl) ?_
    refine ww_lload_n (pc := 104) g.1 d_Mo_sayValue_104 rfl (lv_at hl 2 rfl) ?_
    refine ww_lconst (pc := 105) g.1 (v := 0) d_Mo_sayValue_105 (by decide) ?_
    refine ww_lcmp (pc := 106) g.1 d_Mo_sayValue_106 ?_
    refine ww_if_ge (pc := 107) (tgt := 116) g.1 d_Mo_sayValue_107 (by decide) h (fun c h => ?_) (fun c h => ?_)
    · refine ww_ldcwS (pc := 116) g (n := 73) (by decide) rfl rfl d_Mo_sayValue_116 ?_
      exact j_Mo_sayValue_j119 g hR l2 73 s (by decide) ls (lv_sub hl [0, 2] rfl) h
    · refine ww_ldcwS (pc := 110) g (n := 72) (by decide) rfl rfl d_Mo_sayValue_110 ?_
      refine ww_goto (pc := 113) (tgt := 119) g.1 d_Mo_sayValue_113 (by decide) ?_
      exact j_Mo_sayValue_j119 g hR l2 72 s (by decide) ls (lv_sub hl [0, 2] rfl) h
  have h := oC_neg c1_103 h
  have n_0 : ¬ l1.toInt = 0 := lv_neT (fun e => c1_44 e) rfl
  have n_1 : ¬ l1.toInt = 1 := lv_neT (fun e => c1_54 e) rfl
  have n_2 : ¬ l1.toInt = 2 := lv_neT (fun e => c1_64 e) rfl
  have n_3 : ¬ l1.toInt = 3 := lv_neT (fun e => c1_74 e) rfl
  have n_4 : ¬ l1.toInt = 4 := lv_neT (fun e => c1_82 e) rfl
  have n_6 : ¬ l1.toInt = 6 := lv_neT (fun e => c1_103 e) rfl
  by_cases hr : l1.toInt < 0 ∨ 6 < l1.toInt
  · refine ww_tableOut (pc := 1) (tgt := 151) g.1 d_Mo_sayValue_1 hr (by decide) ?_
    refine ww_aload_n (pc := 151) g.1 d_Mo_sayValue_151 rfl (lv_at hl 0 rfl) ?_
    refine ww_iload_n (pc := 152) g.1 d_Mo_sayValue_152 rfl (lv_at hl 1 rfl) ?_
    refine ww_iconst (pc := 153) g.1 (v := 5) d_Mo_sayValue_153 (by decide) ?_
    refine ww_icmp_ne (pc := 154) (tgt := 163) g.1 d_Mo_sayValue_154 (by decide) h (fun c h => ?_) (fun c h => ?_)
    · refine ww_ldcwS (pc := 163) g (n := 75) (by decide) rfl rfl d_Mo_sayValue_163 ?_
      exact j_Mo_sayValue_j166 g hR l2 75 s (by decide) ls (lv_sub hl [0, 2] rfl) h
    · refine ww_ldcwS (pc := 157) g (n := 74) (by decide) rfl rfl d_Mo_sayValue_157 ?_
      refine ww_goto (pc := 160) (tgt := 166) g.1 d_Mo_sayValue_160 (by decide) ?_
      exact j_Mo_sayValue_j166 g hR l2 74 s (by decide) ls (lv_sub hl [0, 2] rfl) h
  have hh : l1.toInt = 5 := by omega
  have c := hh
  refine ww_tableIn (pc := 1) (tgt := 151) g.1 d_Mo_sayValue_1 (by rw [c]; decide) (by rw [c]; decide) (by rw [c]; rfl) (by decide) ?_
  refine ww_aload_n (pc := 151) g.1 d_Mo_sayValue_151 rfl (lv_at hl 0 rfl) ?_
  refine ww_iload_n (pc := 152) g.1 d_Mo_sayValue_152 rfl (lv_at hl 1 rfl) ?_
  refine ww_iconst (pc := 153) g.1 (v := 5) d_Mo_sayValue_153 (by decide) ?_
  refine ww_icmp_ne (pc := 154) (tgt := 163) g.1 d_Mo_sayValue_154 (by decide) h (fun c h => ?_) (fun c h => ?_)
  · refine ww_ldcwS (pc := 163) g (n := 75) (by decide) rfl rfl d_Mo_sayValue_163 ?_
    exact j_Mo_sayValue_j166 g hR l2 75 s (by decide) ls (lv_sub hl [0, 2] rfl) h
  · refine ww_ldcwS (pc := 157) g (n := 74) (by decide) rfl rfl d_Mo_sayValue_157 ?_
    refine ww_goto (pc := 160) (tgt := 166) g.1 d_Mo_sayValue_160 (by decide) ?_
    exact j_Mo_sayValue_j166 g hR l2 74 s (by decide) ls (lv_sub hl [0, 2] rfl) h


