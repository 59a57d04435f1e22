abbrev b_St_compared : ByteArray := prog_10_method_29_code
def y_St_compared : MethodName := ⟨R_St, "compared", "([B[B)I"⟩
abbrev w_St_compared : List Cond := .code y_St_compared b_St_compared 4 (some .int) :: wA
theorem k_St_compared : Cond.code y_St_compared b_St_compared 4 (some .int) ∈ wA := kinm (show _ ∈ tables_1 from (List.mem_append_right _ (List.mem_append_right _ (List.mem_append_right _ (List.mem_append_right _ (List.mem_append_right _ (List.mem_append_right _ (List.mem_append_left _ (List.mem_of_getElem? (l := tables_1_7) (i := 167) (by decide +kernel)))))))))) (by decide +kernel)
theorem d_St_compared_0 : decode b_St_compared 0 = .ok (.aload_n 0, 1) := by decide +kernel
theorem d_St_compared_1 : decode b_St_compared 1 = .ok (.arraylength, 1) := by decide +kernel
theorem d_St_compared_2 : decode b_St_compared 2 = .ok (.aload_n 1, 1) := by decide +kernel
theorem d_St_compared_3 : decode b_St_compared 3 = .ok (.arraylength, 1) := by decide +kernel
theorem d_St_compared_4 : decode b_St_compared 4 = .ok (.invokestatic 331, 3) := by decide +kernel
theorem d_St_compared_7 : decode b_St_compared 7 = .ok (.istore_n 2, 1) := by decide +kernel
theorem d_St_compared_8 : decode b_St_compared 8 = .ok (.iconst 0, 1) := by decide +kernel
theorem d_St_compared_9 : decode b_St_compared 9 = .ok (.istore_n 3, 1) := by decide +kernel
theorem d_St_compared_10 : decode b_St_compared 10 = .ok (.iload_n 3, 1) := by decide +kernel
theorem d_St_compared_11 : decode b_St_compared 11 = .ok (.iload_n 2, 1) := by decide +kernel
theorem d_St_compared_12 : decode b_St_compared 12 = .ok (.if_icmp .ge 34, 3) := by decide +kernel
theorem d_St_compared_15 : decode b_St_compared 15 = .ok (.aload_n 0, 1) := by decide +kernel
theorem d_St_compared_16 : decode b_St_compared 16 = .ok (.iload_n 3, 1) := by decide +kernel
theorem d_St_compared_17 : decode b_St_compared 17 = .ok (.baload, 1) := by decide +kernel
theorem d_St_compared_18 : decode b_St_compared 18 = .ok (.aload_n 1, 1) := by decide +kernel
theorem d_St_compared_19 : decode b_St_compared 19 = .ok (.iload_n 3, 1) := by decide +kernel
theorem d_St_compared_20 : decode b_St_compared 20 = .ok (.baload, 1) := by decide +kernel
theorem d_St_compared_21 : decode b_St_compared 21 = .ok (.if_icmp .eq 19, 3) := by decide +kernel
theorem d_St_compared_24 : decode b_St_compared 24 = .ok (.aload_n 0, 1) := by decide +kernel
theorem d_St_compared_25 : decode b_St_compared 25 = .ok (.iload_n 3, 1) := by decide +kernel
theorem d_St_compared_26 : decode b_St_compared 26 = .ok (.baload, 1) := by decide +kernel
theorem d_St_compared_27 : decode b_St_compared 27 = .ok (.sipush 255, 3) := by decide +kernel
theorem d_St_compared_30 : decode b_St_compared 30 = .ok (.iand, 1) := by decide +kernel
theorem d_St_compared_31 : decode b_St_compared 31 = .ok (.aload_n 1, 1) := by decide +kernel
theorem d_St_compared_32 : decode b_St_compared 32 = .ok (.iload_n 3, 1) := by decide +kernel
theorem d_St_compared_33 : decode b_St_compared 33 = .ok (.baload, 1) := by decide +kernel
theorem d_St_compared_34 : decode b_St_compared 34 = .ok (.sipush 255, 3) := by decide +kernel
theorem d_St_compared_37 : decode b_St_compared 37 = .ok (.iand, 1) := by decide +kernel
theorem d_St_compared_38 : decode b_St_compared 38 = .ok (.isub, 1) := by decide +kernel
theorem d_St_compared_39 : decode b_St_compared 39 = .ok (.ireturn, 1) := by decide +kernel
theorem d_St_compared_40 : decode b_St_compared 40 = .ok (.iinc 3 1, 3) := by decide +kernel
theorem d_St_compared_43 : decode b_St_compared 43 = .ok (.goto (-33), 3) := by decide +kernel
theorem d_St_compared_46 : decode b_St_compared 46 = .ok (.aload_n 0, 1) := by decide +kernel
theorem d_St_compared_47 : decode b_St_compared 47 = .ok (.arraylength, 1) := by decide +kernel
theorem d_St_compared_48 : decode b_St_compared 48 = .ok (.aload_n 1, 1) := by decide +kernel
theorem d_St_compared_49 : decode b_St_compared 49 = .ok (.arraylength, 1) := by decide +kernel
theorem d_St_compared_50 : decode b_St_compared 50 = .ok (.isub, 1) := by decide +kernel
theorem d_St_compared_51 : decode b_St_compared 51 = .ok (.ireturn, 1) := by decide +kernel
theorem kw_922 : Cond.methodLink R_St 331 y_Mth_min ∈ wA := kinm (show _ ∈ tables_1 from (List.mem_append_right _ (List.mem_append_right _ (List.mem_append_right _ (List.mem_append_right _ (List.mem_append_right _ (List.mem_append_right _ (List.mem_append_left _ (List.mem_of_getElem? (l := tables_1_7) (i := 168) (by decide +kernel)))))))))) (by decide +kernel)
theorem kw_923 : Cond.static y_St_compared ∈ wA := kinm (show _ ∈ tables_1 from (List.mem_append_right _ (List.mem_append_right _ (List.mem_append_right _ (List.mem_append_right _ (List.mem_append_right _ (List.mem_append_right _ (List.mem_append_left _ (List.mem_of_getElem? (l := tables_1_7) (i := 166) (by decide +kernel)))))))))) (by decide +kernel)
theorem cs_St_compared : CS y_St_compared b_St_compared 4 (some .int) 2 := ⟨kw_923, kw_883, k_St_compared, by decide +kernel⟩
theorem lp_St_compared_L10 {X : Cx} {q : PL} (g : Gd X y_St_compared b_St_compared 4 (some .int) 1 21 R_St) (x : Int32 × Int32 × Int32 × Int32) (s : S1) (o : ((Int32 × Int32 × Int32 × Int32) ⊕ ((Int32 × Int32 × Int32) ⊕ (Int32 × Int32))) × S1) (h : M_St_compared_L10 x s = some o) (hR : (Sum.elim (fun y : Int32 × Int32 × Int32 × Int32 => ∀ ls : Array Slot, (prs o.2 146 y.1) → (prs o.2 146 y.2.1) → lv_has ls 4 [(0, .ref (q.1 146 y.1)), (1, .ref (q.1 146 y.2.1)), (2, .int y.2.2.1), (3, .int y.2.2.2)] → WW X q o.2 10 ls []) (Sum.elim (fun y : Int32 × Int32 × Int32 => ∀ ls : Array Slot, (prs o.2 146 y.1) → (prs o.2 146 y.2.1) → lv_has ls 4 [(0, .ref (q.1 146 y.1)), (1, .ref (q.1 146 y.2.1)), (3, .int y.2.2)] → WW X q o.2 24 ls []) (fun y : Int32 × Int32 => ∀ ls : Array Slot, (prs o.2 146 y.1) → (prs o.2 146 y.2) → lv_has ls 4 [(0, .ref (q.1 146 y.1)), (1, .ref (q.1 146 y.2))] → WW X q o.2 46 ls [])) o.1)) : ∀ ls : Array Slot, (prs s 146 x.1) → (prs s 146 x.2.1) → lv_has ls 4 [(0, .ref (q.1 146 x.1)), (1, .ref (q.1 146 x.2.1)), (2, .int x.2.2.1), (3, .int x.2.2.2)] → WW X q s 10 ls [] := by
  intro ls hp0 hp1 hl
  unfold M_St_compared_L10 at h
  refine ww_iload_n (pc := 10) g.1 d_St_compared_10 rfl (lv_at hl 3 rfl) ?_
  refine ww_iload_n (pc := 11) g.1 d_St_compared_11 rfl (lv_at hl 2 rfl) ?_
  refine ww_icmp_ge (pc := 12) (tgt := 46) g.1 d_St_compared_12 (by decide) h (fun c h => ?_) (fun c h => ?_)
  · rw [oR_eq h] at hR
    exact hR ls hp0 hp1 (lv_sub hl [0, 1] rfl)
  · refine ww_aload_n (pc := 15) g.1 d_St_compared_15 rfl (lv_at hl 0 rfl) ?_
    refine ww_iload_n (pc := 16) g.1 d_St_compared_16 rfl (lv_at hl 3 rfl) ?_
    refine ww_ln hp0 h fun n17 hmn17 hnn17 h => ?_
    refine ww_ab (pc := 17) g hp0 rfl hnn17 d_St_compared_17 h fun v17 h => ?_
    refine ww_aload_n (pc := 18) g.1 d_St_compared_18 rfl (lv_at hl 1 rfl) ?_
    refine ww_iload_n (pc := 19) g.1 d_St_compared_19 rfl (lv_at hl 3 rfl) ?_
    refine ww_ln hp1 h fun n20 hmn20 hnn20 h => ?_
    refine ww_ab (pc := 20) g hp1 rfl hnn20 d_St_compared_20 h fun v20 h => ?_
    refine ww_icmp_eq (pc := 21) (tgt := 40) g.1 d_St_compared_21 (by decide) h (fun c h => ?_) (fun c h => ?_)
    · refine ww_iinc (pc := 40) g.1 (v := x.2.2.2 + 1) (lv' := [(3, .int (x.2.2.2 + 1)), (0, .ref (q.1 146 x.1)), (1, .ref (q.1 146 x.2.1)), (2, .int x.2.2.1)]) d_St_compared_40 hl (k := 3) rfl (by rfl) (by decide) rfl fun ls hl => ?_
      refine ww_goto (pc := 43) (tgt := 10) g.1 d_St_compared_43 (by decide) ?_
      rw [oR_eq h] at hR
      exact hR ls hp0 hp1 (lv_sub hl [1, 2, 3, 0] rfl)
    · rw [oR_eq h] at hR
      exact hR ls hp0 hp1 (lv_sub hl [0, 1, 3] rfl)

theorem ct_St_compared {l : Launch} {P : PP} {q : PL} {s s' : S1} {l0 : Int32} {l1 : Int32} (hp0 : prs s 146 l0) (hp1 : prs s 146 l1) {r : Int32} (h : M_St_compared l0 l1 s = some (r, s')) : Ct l y_St_compared b_St_compared 4 (some .int) 1 21 P q s [.ref (q.1 146 l0), .ref (q.1 146 l1)] (some (.int r)) q s' := by
  refine ct_of (by decide) (Nat.le_of_ble_eq_true rfl) fun X ls eP el g hR hl => ?_
  subst eP
  have hR : Rt X q ((r, s') : Int32 × S1).2 (some (.int ((r, s') : Int32 × S1).1)) := hR
  have hl : lv_has ls 4 [(0, .ref (q.1 146 l0)), (1, .ref (q.1 146 l1))] := hl
  generalize (r, s') = o at h hR
  unfold M_St_compared at h
  refine ww_aload_n (pc := 0) g.1 d_St_compared_0 rfl (lv_at hl 0 rfl) ?_
  refine ww_ln hp0 h fun n1 hmn1 hnn1 h => ?_
  refine ww_alen (pc := 1) g (n := n1) hp0 (by decide) hmn1 d_St_compared_1 ?_
  refine ww_aload_n (pc := 2) g.1 d_St_compared_2 rfl (lv_at hl 1 rfl) ?_
  refine ww_ln hp1 h fun n3 hmn3 hnn3 h => ?_
  refine ww_alen (pc := 3) g (n := n3) hp1 (by decide) hmn3 d_St_compared_3 ?_
  refine ww_lo fun dlo => ?_
  obtain ⟨v4, s, hc4, h⟩ := oB_of h
  refine ww_callS (pc := 4) (rest := []) g cs_Mth_min (Or.inl kw_922) (ct_Mth_min hc4) ⟨by decide, by decide⟩ rfl hl.1 (Nat.le_of_ble_eq_true rfl) d_St_compared_4 rfl (?_)
  refine ww_st (st' := [.int v4]) rfl ?_
  refine ww_hi fun dhi => ?_
  have hp0 : prs s 146 l0 := dhi _ _ hp0.2.1 hp0.2.2 (dlo _ _ hp0)
  have hp1 : prs s 146 l1 := dhi _ _ hp1.2.1 hp1.2.2 (dlo _ _ hp1)
  refine ww_istore_n (pc := 7) (i := 2) g.1 (lv' := [(2, .int v4), (0, .ref (q.1 146 l0)), (1, .ref (q.1 146 l1))]) d_St_compared_7 rfl hl (by decide) rfl fun ls hl => ?_
  refine ww_iconst (pc := 8) g.1 (v := 0) d_St_compared_8 (by decide) ?_
  refine ww_istore_n (pc := 9) (i := 3) g.1 (lv' := [(3, .int 0), (2, .int v4), (0, .ref (q.1 146 l0)), (1, .ref (q.1 146 l1))]) d_St_compared_9 rfl hl (by decide) rfl fun ls hl => ?_
  obtain ⟨e10, s1, hw, h⟩ := oB_of h
  refine oW_rule (Wh := fun (x : Int32 × Int32 × Int32 × Int32) (s : S1) => ∀ ls : Array Slot, (prs s 146 x.1) → (prs s 146 x.2.1) → lv_has ls 4 [(0, .ref (q.1 146 x.1)), (1, .ref (q.1 146 x.2.1)), (2, .int x.2.2.1), (3, .int x.2.2.2)] → WW X q s 10 ls []) (We := fun (e : (Int32 × Int32 × Int32) ⊕ (Int32 × Int32)) (s : S1) => (Sum.elim (fun y : Int32 × Int32 × Int32 => ∀ ls : Array Slot, (prs s 146 y.1) → (prs s 146 y.2.1) → lv_has ls 4 [(0, .ref (q.1 146 y.1)), (1, .ref (q.1 146 y.2.1)), (3, .int y.2.2)] → WW X q s 24 ls []) (fun y : Int32 × Int32 => ∀ ls : Array Slot, (prs s 146 y.1) → (prs s 146 y.2) → lv_has ls 4 [(0, .ref (q.1 146 y.1)), (1, .ref (q.1 146 y.2))] → WW X q s 46 ls [])) e) (fun x s o hb hc => lp_St_compared_L10 (q := q) g x s o hb hc) hw ?_ ls hp0 hp1 (lv_sub hl [2, 3, 1, 0] rfl)
  clear hw hl
  clear ls
  generalize s1 = s at h ⊢
  rcases e10 with y10_24 | y10_46
  · intro ls hq10_0 hq10_1 hl
    dsimp only [Sum.elim_inl, Sum.elim_inr] at h
    refine ww_aload_n (pc := 24) g.1 d_St_compared_24 rfl (lv_at hl 0 rfl) ?_
    refine ww_iload_n (pc := 25) g.1 d_St_compared_25 rfl (lv_at hl 2 rfl) ?_
    refine ww_ln hq10_0 h fun n26 hmn26 hnn26 h => ?_
    refine ww_ab (pc := 26) g hq10_0 rfl hnn26 d_St_compared_26 h fun v26 h => ?_
    refine ww_sipush (pc := 27) g.1 (v := 255) d_St_compared_27 (by decide) ?_
    refine ww_iand (pc := 30) g.1 d_St_compared_30 ?_
    refine ww_aload_n (pc := 31) g.1 d_St_compared_31 rfl (lv_at hl 1 rfl) ?_
    refine ww_iload_n (pc := 32) g.1 d_St_compared_32 rfl (lv_at hl 2 rfl) ?_
    refine ww_ln hq10_1 h fun n33 hmn33 hnn33 h => ?_
    refine ww_ab (pc := 33) g hq10_1 rfl hnn33 d_St_compared_33 h fun v33 h => ?_
    refine ww_sipush (pc := 34) g.1 (v := 255) d_St_compared_34 (by decide) ?_
    refine ww_iand (pc := 37) g.1 d_St_compared_37 ?_
    refine ww_isub (pc := 38) g.1 d_St_compared_38 ?_
    exact ww_iretH (pc := 39) g h hR d_St_compared_39
  · intro ls hq10_0 hq10_1 hl
    dsimp only [Sum.elim_inl, Sum.elim_inr] at h
    refine ww_aload_n (pc := 46) g.1 d_St_compared_46 rfl (lv_at hl 0 rfl) ?_
    refine ww_ln hq10_0 h fun n47 hmn47 hnn47 h => ?_
    refine ww_alen (pc := 47) g (n := n47) hq10_0 (by decide) hmn47 d_St_compared_47 ?_
    refine ww_aload_n (pc := 48) g.1 d_St_compared_48 rfl (lv_at hl 1 rfl) ?_
    refine ww_ln hq10_1 h fun n49 hmn49 hnn49 h => ?_
    refine ww_alen (pc := 49) g (n := n49) hq10_1 (by decide) hmn49 d_St_compared_49 ?_
    refine ww_isub (pc := 50) g.1 d_St_compared_50 ?_
    exact ww_iretH (pc := 51) g h hR d_St_compared_51

abbrev b_Co_pop : ByteArray := prog_4_method_5_code
def y_Co_pop : MethodName := ⟨R_Co, "pop", "()V"⟩
abbrev w_Co_pop : List Cond := .code y_Co_pop b_Co_pop 1 none :: wA
theorem k_Co_pop : Cond.code y_Co_pop b_Co_pop 1 none ∈ wA := kinm (show _ ∈ tables_1 from (List.mem_append_right _ (List.mem_append_right _ (List.mem_append_right _ (List.mem_append_right _ (List.mem_append_right _ (List.mem_append_right _ (List.mem_append_left _ (List.mem_of_getElem? (l := tables_1_7) (i := 185) (by decide +kernel)))))))))) (by decide +kernel)
theorem d_Co_pop_0 : decode b_Co_pop 0 = .ok (.aload_n 0, 1) := by decide +kernel
theorem d_Co_pop_1 : decode b_Co_pop 1 = .ok (.dup, 1) := by decide +kernel
theorem d_Co_pop_2 : decode b_Co_pop 2 = .ok (.getfield 30, 3) := by decide +kernel
theorem d_Co_pop_5 : decode b_Co_pop 5 = .ok (.iconst 1, 1) := by decide +kernel
theorem d_Co_pop_6 : decode b_Co_pop 6 = .ok (.isub, 1) := by decide +kernel
theorem d_Co_pop_7 : decode b_Co_pop 7 = .ok (.putfield 30, 3) := by decide +kernel
theorem d_Co_pop_10 : decode b_Co_pop 10 = .ok (.aload_n 0, 1) := by decide +kernel
theorem d_Co_pop_11 : decode b_Co_pop 11 = .ok (.aload_n 0, 1) := by decide +kernel
theorem d_Co_pop_12 : decode b_Co_pop 12 = .ok (.getfield 21, 3) := by decide +kernel
theorem d_Co_pop_15 : decode b_Co_pop 15 = .ok (.aload_n 0, 1) := by decide +kernel
theorem d_Co_pop_16 : decode b_Co_pop 16 = .ok (.getfield 30, 3) := by decide +kernel
theorem d_Co_pop_19 : decode b_Co_pop 19 = .ok (.aaload, 1) := by decide +kernel
theorem d_Co_pop_20 : decode b_Co_pop 20 = .ok (.getfield 61, 3) := by decide +kernel
theorem d_Co_pop_23 : decode b_Co_pop 23 = .ok (.putfield 33, 3) := by decide +kernel
theorem d_Co_pop_26 : decode b_Co_pop 26 = .ok (.return_, 1) := by decide +kernel
theorem kw_924 : Cond.instanceMethod y_Co_pop ∈ wA := kinm (show _ ∈ tables_1 from (List.mem_append_right _ (List.mem_append_right _ (List.mem_append_right _ (List.mem_append_right _ (List.mem_append_right _ (List.mem_append_right _ (List.mem_append_left _ (List.mem_of_getElem? (l := tables_1_7) (i := 183) (by decide +kernel)))))))))) (by decide +kernel)
theorem kw_925 : Cond.selects R_Co y_Co_pop y_Co_pop ∈ wA := kinm (show _ ∈ tables_1 from (List.mem_append_right _ (List.mem_append_right _ (List.mem_append_right _ (List.mem_append_right _ (List.mem_append_right _ (List.mem_append_right _ (List.mem_append_left _ (List.mem_of_getElem? (l := tables_1_7) (i := 184) (by decide +kernel)))))))))) (by decide +kernel)
theorem cv_Co_pop : CV y_Co_pop b_Co_pop 1 none 0 := ⟨kw_924, kw_925, kw_821, k_Co_pop, by decide +kernel⟩
theorem ct_Co_pop {l : Launch} {P : PP} {q : PL} {s s' : S1} {l0 : Int32} (hp0 : prs s 148 l0) {r : Unit} (h : M_Co_pop l0 s = some (r, s')) : Ct l y_Co_pop b_Co_pop 1 none 0 0 P q s [.ref (q.1 148 l0)] none q s' := by
  refine ct_of (by decide) (Nat.le_of_ble_eq_true rfl) fun X ls eP el g hR hl => ?_
  subst eP
  have hR : Rt X q ((r, s') : Unit × S1).2 none := hR
  have hl : lv_has ls 1 [(0, .ref (q.1 148 l0))] := hl
  generalize (r, s') = o at h hR
  unfold M_Co_pop at h
  refine ww_aload_n (pc := 0) g.1 d_Co_pop_0 rfl (lv_at hl 0 rfl) ?_
  refine ww_dup (pc := 1) g.1 d_Co_pop_1 rfl ?_
  refine ww_gI (pc := 2) g (k := 4) cl_Co hp0 (by decide) (Or.inl kw_822) (f := 18948) rfl rfl d_Co_pop_2 h fun v2 h => ?_
  refine ww_iconst (pc := 5) g.1 (v := 1) d_Co_pop_5 (by decide) ?_
  refine ww_isub (pc := 6) g.1 d_Co_pop_6 ?_
  refine ww_pI (pc := 7) g (k := 4) cl_Co hp0 (by decide) (Or.inl kw_822) rfl (f := 18948) rfl rfl rfl rfl d_Co_pop_7 h fun s hs h => ?_
  have hp0 : prs s 148 l0 := prs_kI (r := 148) (k := 4) (by decide) hs hp0
  refine ww_aload_n (pc := 10) g.1 d_Co_pop_10 rfl (lv_at hl 0 rfl) ?_
  refine ww_aload_n (pc := 11) g.1 d_Co_pop_11 rfl (lv_at hl 0 rfl) ?_
  refine ww_gR (pc := 12) g (k := 2) cl_Co hp0 (by decide) (Or.inl kw_811) (f := 18946) (t := 151) rfl rfl rfl d_Co_pop_12 ?_
  refine ww_kd fun kd12 => ?_
  have pk12 : prs s 151 l0 := (kd12 _ hp0).2.2.1
  refine ww_aload_n (pc := 15) g.1 d_Co_pop_15 rfl (lv_at hl 0 rfl) ?_
  refine ww_gI (pc := 16) g (k := 4) cl_Co hp0 (by decide) (Or.inl kw_822) (f := 18948) rfl rfl d_Co_pop_16 h fun v16 h => ?_
  refine ww_a9 (pc := 19) g (j := v16) hp0 d_Co_pop_19 h fun pa19 h => ?_
  refine ww_gI (pc := 20) g (k := 3) cl_Fm pa19 (by decide) (Or.inl kw_841) (f := 19459) rfl rfl d_Co_pop_20 h fun v20 h => ?_
  refine ww_pI (pc := 23) g (k := 5) cl_Co hp0 (by decide) (Or.inl kw_823) rfl (f := 18949) rfl rfl rfl rfl d_Co_pop_23 h fun s hs h => ?_
  have hp0 : prs s 148 l0 := prs_kI (r := 148) (k := 5) (by decide) hs hp0
  exact ww_vretH (pc := 26) g h hR d_Co_pop_26

abbrev b_St_takeFurther : ByteArray := prog_10_method_39_code
def y_St_takeFurther : MethodName := ⟨R_St, "takeFurther", "()V"⟩
abbrev w_St_takeFurther : List Cond := .code y_St_takeFurther b_St_takeFurther 4 none :: wA
set_option maxRecDepth 20000 in
theorem k_St_takeFurther : Cond.code y_St_takeFurther b_St_takeFurther 4 none ∈ wA := kinm (show _ ∈ tables_1 from (List.mem_append_right _ (List.mem_append_right _ (List.mem_append_right _ (List.mem_append_right _ (List.mem_append_right _ (List.mem_append_right _ (List.mem_append_left _ (List.mem_of_getElem? (l := tables_1_7) (i := 201) rfl))))))))) rfl
theorem d_St_takeFurther_0 : decode b_St_takeFurther 0 = .ok (.aload_n 0, 1) := by decide +kernel
theorem d_St_takeFurther_1 : decode b_St_takeFurther 1 = .ok (.getfield 125, 3) := by decide +kernel
theorem d_St_takeFurther_4 : decode b_St_takeFurther 4 = .ok (.aload_n 0, 1) := by decide +kernel
theorem d_St_takeFurther_5 : decode b_St_takeFurther 5 = .ok (.getfield 121, 3) := by decide +kernel
theorem d_St_takeFurther_8 : decode b_St_takeFurther 8 = .ok (.getfield 408, 3) := by decide +kernel
theorem d_St_takeFurther_11 : decode b_St_takeFurther 11 = .ok (.iadd, 1) := by decide +kernel
theorem d_St_takeFurther_12 : decode b_St_takeFurther 12 = .ok (.istore_n 1, 1) := by decide +kernel
theorem d_St_takeFurther_13 : decode b_St_takeFurther 13 = .ok (.aload_n 0, 1) := by decide +kernel
theorem d_St_takeFurther_14 : decode b_St_takeFurther 14 = .ok (.getfield 137, 3) := by decide +kernel
theorem d_St_takeFurther_17 : decode b_St_takeFurther 17 = .ok (.ifCond .ne 76, 3) := by decide +kernel
theorem d_St_takeFurther_20 : decode b_St_takeFurther 20 = .ok (.aload_n 0, 1) := by decide +kernel
theorem d_St_takeFurther_21 : decode b_St_takeFurther 21 = .ok (.getfield 9, 3) := by decide +kernel
theorem d_St_takeFurther_24 : decode b_St_takeFurther 24 = .ok (.aload_n 0, 1) := by decide +kernel
theorem d_St_takeFurther_25 : decode b_St_takeFurther 25 = .ok (.getfield 57, 3) := by decide +kernel
theorem d_St_takeFurther_28 : decode b_St_takeFurther 28 = .ok (.putfield 351, 3) := by decide +kernel
theorem d_St_takeFurther_31 : decode b_St_takeFurther 31 = .ok (.aload_n 0, 1) := by decide +kernel
theorem d_St_takeFurther_32 : decode b_St_takeFurther 32 = .ok (.getfield 9, 3) := by decide +kernel
theorem d_St_takeFurther_35 : decode b_St_takeFurther 35 = .ok (.getfield 354, 3) := by decide +kernel
theorem d_St_takeFurther_38 : decode b_St_takeFurther 38 = .ok (.invokevirtual 357, 3) := by decide +kernel
theorem d_St_takeFurther_41 : decode b_St_takeFurther 41 = .ok (.iconst 0, 1) := by decide +kernel
theorem d_St_takeFurther_42 : decode b_St_takeFurther 42 = .ok (.istore_n 2, 1) := by decide +kernel
theorem d_St_takeFurther_43 : decode b_St_takeFurther 43 = .ok (.iload_n 2, 1) := by decide +kernel
theorem d_St_takeFurther_44 : decode b_St_takeFurther 44 = .ok (.aload_n 0, 1) := by decide +kernel
theorem d_St_takeFurther_45 : decode b_St_takeFurther 45 = .ok (.getfield 113, 3) := by decide +kernel
theorem d_St_takeFurther_48 : decode b_St_takeFurther 48 = .ok (.getfield 411, 3) := by decide +kernel
theorem d_St_takeFurther_51 : decode b_St_takeFurther 51 = .ok (.if_icmp .ge 41, 3) := by decide +kernel
theorem d_St_takeFurther_54 : decode b_St_takeFurther 54 = .ok (.aload_n 0, 1) := by decide +kernel
theorem d_St_takeFurther_55 : decode b_St_takeFurther 55 = .ok (.getfield 9, 3) := by decide +kernel
theorem d_St_takeFurther_58 : decode b_St_takeFurther 58 = .ok (.getfield 354, 3) := by decide +kernel
theorem d_St_takeFurther_61 : decode b_St_takeFurther 61 = .ok (.aload_n 0, 1) := by decide +kernel
theorem d_St_takeFurther_62 : decode b_St_takeFurther 62 = .ok (.getfield 110, 3) := by decide +kernel
theorem d_St_takeFurther_65 : decode b_St_takeFurther 65 = .ok (.getfield 146, 3) := by decide +kernel
theorem d_St_takeFurther_68 : decode b_St_takeFurther 68 = .ok (.iload_n 1, 1) := by decide +kernel
theorem d_St_takeFurther_69 : decode b_St_takeFurther 69 = .ok (.iload_n 2, 1) := by decide +kernel
theorem d_St_takeFurther_70 : decode b_St_takeFurther 70 = .ok (.iadd, 1) := by decide +kernel
theorem d_St_takeFurther_71 : decode b_St_takeFurther 71 = .ok (.baload, 1) := by decide +kernel
theorem d_St_takeFurther_72 : decode b_St_takeFurther 72 = .ok (.aload_n 0, 1) := by decide +kernel
theorem d_St_takeFurther_73 : decode b_St_takeFurther 73 = .ok (.getfield 110, 3) := by decide +kernel
theorem d_St_takeFurther_76 : decode b_St_takeFurther 76 = .ok (.getfield 150, 3) := by decide +kernel
theorem d_St_takeFurther_79 : decode b_St_takeFurther 79 = .ok (.iload_n 1, 1) := by decide +kernel
theorem d_St_takeFurther_80 : decode b_St_takeFurther 80 = .ok (.iload_n 2, 1) := by decide +kernel
theorem d_St_takeFurther_81 : decode b_St_takeFurther 81 = .ok (.iadd, 1) := by decide +kernel
theorem d_St_takeFurther_82 : decode b_St_takeFurther 82 = .ok (.laload, 1) := by decide +kernel
theorem d_St_takeFurther_83 : decode b_St_takeFurther 83 = .ok (.invokevirtual 220, 3) := by decide +kernel
theorem d_St_takeFurther_86 : decode b_St_takeFurther 86 = .ok (.iinc 2 1, 3) := by decide +kernel
theorem d_St_takeFurther_89 : decode b_St_takeFurther 89 = .ok (.goto (-46), 3) := by decide +kernel
theorem d_St_takeFurther_92 : decode b_St_takeFurther 92 = .ok (.return_, 1) := by decide +kernel
theorem d_St_takeFurther_93 : decode b_St_takeFurther 93 = .ok (.iconst 0, 1) := by decide +kernel
theorem d_St_takeFurther_94 : decode b_St_takeFurther 94 = .ok (.istore_n 2, 1) := by decide +kernel
theorem d_St_takeFurther_95 : decode b_St_takeFurther 95 = .ok (.iload_n 2, 1) := by decide +kernel
theorem d_St_takeFurther_96 : decode b_St_takeFurther 96 = .ok (.aload_n 0, 1) := by decide +kernel
theorem d_St_takeFurther_97 : decode b_St_takeFurther 97 = .ok (.getfield 137, 3) := by decide +kernel
theorem d_St_takeFurther_100 : decode b_St_takeFurther 100 = .ok (.iconst 1, 1) := by decide +kernel
theorem d_St_takeFurther_101 : decode b_St_takeFurther 101 = .ok (.isub, 1) := by decide +kernel
theorem d_St_takeFurther_102 : decode b_St_takeFurther 102 = .ok (.if_icmp .ge 74, 3) := by decide +kernel
theorem d_St_takeFurther_105 : decode b_St_takeFurther 105 = .ok (.iload_n 2, 1) := by decide +kernel
theorem d_St_takeFurther_106 : decode b_St_takeFurther 106 = .ok (.aload_n 0, 1) := by decide +kernel
theorem d_St_takeFurther_107 : decode b_St_takeFurther 107 = .ok (.getfield 113, 3) := by decide +kernel
theorem d_St_takeFurther_110 : decode b_St_takeFurther 110 = .ok (.getfield 411, 3) := by decide +kernel
theorem d_St_takeFurther_113 : decode b_St_takeFurther 113 = .ok (.if_icmp .ge 7, 3) := by decide +kernel
theorem d_St_takeFurther_116 : decode b_St_takeFurther 116 = .ok (.iconst 1, 1) := by decide +kernel
theorem d_St_takeFurther_117 : decode b_St_takeFurther 117 = .ok (.goto 4, 3) := by decide +kernel
theorem d_St_takeFurther_120 : decode b_St_takeFurther 120 = .ok (.iconst 0, 1) := by decide +kernel
theorem d_St_takeFurther_121 : decode b_St_takeFurther 121 = .ok (.istore_n 3, 1) := by decide +kernel
theorem d_St_takeFurther_122 : decode b_St_takeFurther 122 = .ok (.aload_n 0, 1) := by decide +kernel
theorem d_St_takeFurther_123 : decode b_St_takeFurther 123 = .ok (.aload_n 0, 1) := by decide +kernel
theorem d_St_takeFurther_124 : decode b_St_takeFurther 124 = .ok (.getfield 57, 3) := by decide +kernel
theorem d_St_takeFurther_127 : decode b_St_takeFurther 127 = .ok (.iload_n 2, 1) := by decide +kernel
theorem d_St_takeFurther_128 : decode b_St_takeFurther 128 = .ok (.iadd, 1) := by decide +kernel
theorem d_St_takeFurther_129 : decode b_St_takeFurther 129 = .ok (.iload_n 3, 1) := by decide +kernel
theorem d_St_takeFurther_130 : decode b_St_takeFurther 130 = .ok (.ifCond .eq 17, 3) := by decide +kernel
theorem d_St_takeFurther_133 : decode b_St_takeFurther 133 = .ok (.aload_n 0, 1) := by decide +kernel
theorem d_St_takeFurther_134 : decode b_St_takeFurther 134 = .ok (.getfield 110, 3) := by decide +kernel
theorem d_St_takeFurther_137 : decode b_St_takeFurther 137 = .ok (.getfield 146, 3) := by decide +kernel
theorem d_St_takeFurther_140 : decode b_St_takeFurther 140 = .ok (.iload_n 1, 1) := by decide +kernel
theorem d_St_takeFurther_141 : decode b_St_takeFurther 141 = .ok (.iload_n 2, 1) := by decide +kernel
theorem d_St_takeFurther_142 : decode b_St_takeFurther 142 = .ok (.iadd, 1) := by decide +kernel
theorem d_St_takeFurther_143 : decode b_St_takeFurther 143 = .ok (.baload, 1) := by decide +kernel
theorem d_St_takeFurther_144 : decode b_St_takeFurther 144 = .ok (.goto 4, 3) := by decide +kernel
theorem d_St_takeFurther_147 : decode b_St_takeFurther 147 = .ok (.iconst 0, 1) := by decide +kernel
theorem d_St_takeFurther_148 : decode b_St_takeFurther 148 = .ok (.iload_n 3, 1) := by decide +kernel
theorem d_St_takeFurther_149 : decode b_St_takeFurther 149 = .ok (.ifCond .eq 17, 3) := by decide +kernel
theorem d_St_takeFurther_152 : decode b_St_takeFurther 152 = .ok (.aload_n 0, 1) := by decide +kernel
theorem d_St_takeFurther_153 : decode b_St_takeFurther 153 = .ok (.getfield 110, 3) := by decide +kernel
theorem d_St_takeFurther_156 : decode b_St_takeFurther 156 = .ok (.getfield 150, 3) := by decide +kernel
theorem d_St_takeFurther_159 : decode b_St_takeFurther 159 = .ok (.iload_n 1, 1) := by decide +kernel
theorem d_St_takeFurther_160 : decode b_St_takeFurther 160 = .ok (.iload_n 2, 1) := by decide +kernel
theorem d_St_takeFurther_161 : decode b_St_takeFurther 161 = .ok (.iadd, 1) := by decide +kernel
theorem d_St_takeFurther_162 : decode b_St_takeFurther 162 = .ok (.laload, 1) := by decide +kernel
theorem d_St_takeFurther_163 : decode b_St_takeFurther 163 = .ok (.goto 4, 3) := by decide +kernel
theorem d_St_takeFurther_166 : decode b_St_takeFurther 166 = .ok (.lconst 0, 1) := by decide +kernel
theorem d_St_takeFurther_167 : decode b_St_takeFurther 167 = .ok (.invokevirtual 176, 3) := by decide +kernel
theorem d_St_takeFurther_170 : decode b_St_takeFurther 170 = .ok (.iinc 2 1, 3) := by decide +kernel
theorem d_St_takeFurther_173 : decode b_St_takeFurther 173 = .ok (.goto (-78), 3) := by decide +kernel
theorem d_St_takeFurther_176 : decode b_St_takeFurther 176 = .ok (.return_, 1) := by decide +kernel
theorem kw_926 : Cond.fieldLink R_St 408 "LuaMachine$Prototype" "registers" "I" ∈ wA := kinm (show _ ∈ tables_1 from (List.mem_append_right _ (List.mem_append_right _ (List.mem_append_left _ (List.mem_of_getElem? (l := tables_1_3) (i := 137) (by decide +kernel)))))) (by decide +kernel)
theorem kw_927 : Cond.fieldLink R_St 411 "LuaMachine$Frame" "extra" "I" ∈ wA := kinm (show _ ∈ tables_1 from (List.mem_append_right _ (List.mem_append_right _ (List.mem_append_right _ (List.mem_append_right _ (List.mem_append_right _ (List.mem_append_left _ (List.mem_of_getElem? (l := tables_1_6) (i := 107) (by decide +kernel))))))))) (by decide +kernel)
theorem kw_928 : Cond.methodLink R_St 176 y_St_set ∈ wA := kinm (show _ ∈ tables_1 from (List.mem_append_right _ (List.mem_append_right _ (List.mem_append_right _ (List.mem_append_right _ (List.mem_append_right _ (List.mem_append_right _ (List.mem_append_left _ (List.mem_of_getElem? (l := tables_1_7) (i := 73) (by decide +kernel)))))))))) (by decide +kernel)
theorem kw_929 : Cond.fieldLink R_St 351 "LuaMachine$Machine" "openFrom" "I" ∈ wA := kinm (show _ ∈ tables_1 from (List.mem_append_right _ (List.mem_append_left _ (List.mem_of_getElem? (l := tables_1_2) (i := 68) (by decide +kernel))))) (by decide +kernel)
theorem kw_930 : Cond.fieldLink R_St 354 "LuaMachine$Machine" "open" "LLuaMachine$Row;" ∈ wA := kinm (show _ ∈ tables_1 from (List.mem_append_right _ (List.mem_append_left _ (List.mem_of_getElem? (l := tables_1_2) (i := 67) (by decide +kernel))))) (by decide +kernel)
theorem kw_931 : Cond.methodLink R_St 357 y_Ro_clear ∈ wA := kinm (show _ ∈ tables_1 from (List.mem_append_right _ (List.mem_append_right _ (List.mem_append_right _ (List.mem_append_right _ (List.mem_append_right _ (List.mem_append_right _ (List.mem_append_left _ (List.mem_of_getElem? (l := tables_1_7) (i := 81) (by decide +kernel)))))))))) (by decide +kernel)
theorem kw_932 : Cond.methodLink R_St 220 y_Ro_add ∈ wA := kinm (show _ ∈ tables_1 from (List.mem_append_right _ (List.mem_append_right _ (List.mem_append_right _ (List.mem_append_right _ (List.mem_append_right _ (List.mem_append_right _ (List.mem_append_left _ (List.mem_of_getElem? (l := tables_1_7) (i := 67) (by decide +kernel)))))))))) (by decide +kernel)
theorem kw_933 : Cond.instanceMethod y_St_takeFurther ∈ wA := kinm (show _ ∈ tables_1 from (List.mem_append_right _ (List.mem_append_right _ (List.mem_append_right _ (List.mem_append_right _ (List.mem_append_right _ (List.mem_append_right _ (List.mem_append_left _ (List.mem_of_getElem? (l := tables_1_7) (i := 200) (by decide +kernel)))))))))) (by decide +kernel)
theorem kw_934 : Cond.selects R_St y_St_takeFurther y_St_takeFurther ∈ wA := kinp 63 (by decide +kernel) (by decide +kernel)
theorem cv_St_takeFurther : CV y_St_takeFurther b_St_takeFurther 4 none 0 := ⟨kw_933, kw_934, kw_883, k_St_takeFurther, by decide +kernel⟩
theorem j_St_takeFurther_j167 {X : Cx} {q : PL} (g : Gd X y_St_takeFurther b_St_takeFurther 4 none 1 24 R_St) {o : ((Int32 × Int32) ⊕ ((Unit))) × S1} (hR : (Sum.elim (fun y : Int32 × Int32 => ∀ ls : Array Slot, lv_has ls 4 [(0, .ref (q.1 129 0)), (1, .int y.1), (2, .int y.2)] → WW X q o.2 95 ls []) (fun y : Unit => ∀ ls : Array Slot, lv_has ls 4 [] → WW X q o.2 176 ls []) o.1)) (l1 : Int32) (l2 : Int32) (k0 : Int64) (k1 : Int32) (k2 : Int32) (s : S1) (ls : Array Slot) (hl : lv_has ls 4 [(0, .ref (q.1 129 0)), (1, .int l1), (2, .int l2)]) (h : M_St_takeFurther_j167 l1 l2 k0 k1 k2 s = some o) : WW X q s 167 ls [.long k0, .int k1, .int k2, .ref (q.1 129 0)] := by
  unfold M_St_takeFurther_j167 at h
  obtain ⟨v167, s, hc167, h⟩ := oB_of h
  refine ww_callV (pc := 167) (rest := []) g cv_St_set (Or.inl kw_928) cl_St (pz rfl (by decide)) (ct_St_set hc167) ⟨by decide, by decide⟩ rfl hl.1 (Nat.le_of_ble_eq_true rfl) d_St_takeFurther_167 rfl (?_)
  refine ww_st (st' := []) rfl ?_
  refine ww_iinc (pc := 170) g.1 (v := l2 + 1) (lv' := [(2, .int (l2 + 1)), (0, .ref (q.1 129 0)), (1, .int l1)]) d_St_takeFurther_170 hl (k := 2) rfl (by rfl) (by decide) rfl fun ls hl => ?_
  refine ww_goto (pc := 173) (tgt := 95) g.1 d_St_takeFurther_173 (by decide) ?_
  rw [oR_eq h] at hR
  exact hR ls (lv_sub hl [1, 2, 0] rfl)

theorem j_St_takeFurther_j148 {X : Cx} {q : PL} (g : Gd X y_St_takeFurther b_St_takeFurther 4 none 1 24 R_St) {o : ((Int32 × Int32) ⊕ ((Unit))) × S1} (hR : (Sum.elim (fun y : Int32 × Int32 => ∀ ls : Array Slot, lv_has ls 4 [(0, .ref (q.1 129 0)), (1, .int y.1), (2, .int y.2)] → WW X q o.2 95 ls []) (fun y : Unit => ∀ ls : Array Slot, lv_has ls 4 [] → WW X q o.2 176 ls []) o.1)) (l1 : Int32) (l2 : Int32) (l3 : Int32) (k0 : Int32) (k1 : Int32) (s : S1) (ls : Array Slot) (hl : lv_has ls 4 [(0, .ref (q.1 129 0)), (1, .int l1), (2, .int l2), (3, .int l3)]) (h : M_St_takeFurther_j148 l1 l2 l3 k0 k1 s = some o) : WW X q s 148 ls [.int k0, .int k1, .ref (q.1 129 0)] := by
  unfold M_St_takeFurther_j148 at h
  refine ww_iload_n (pc := 148) g.1 d_St_takeFurther_148 rfl (lv_at hl 3 rfl) ?_
  refine ww_if_eq (pc := 149) (tgt := 166) g.1 d_St_takeFurther_149 (by decide) h (fun c h => ?_) (fun c h => ?_)
  · refine ww_lconst (pc := 166) g.1 (v := 0) d_St_takeFurther_166 (by decide) ?_
    exact j_St_takeFurther_j167 g hR l1 l2 0 k0 k1 s ls (lv_sub hl [0, 1, 2] rfl) h
  · refine ww_aload_n (pc := 152) g.1 d_St_takeFurther_152 rfl (lv_at hl 0 rfl) ?_
    refine ww_gV (pc := 153) g (k := 4) cl_St (pz rfl (by decide)) (by decide) (Or.inl kw_865) (f := 16516) (t := 148) rfl rfl rfl d_St_takeFurther_153 h fun v153 h => ?_
    refine ww_pr h fun pn153 h => ?_
    refine ww_nnP pn153 ?_
    refine ww_gR (pc := 156) g (k := 1) cl_Co pn153 (by decide) (Or.inl kw_900) (f := 18945) (t := 150) rfl rfl rfl d_St_takeFurther_156 ?_
    refine ww_kd fun kd156 => ?_
    have pk156 : prs s 150 v153 := (kd156 _ pn153).2.1
    refine ww_iload_n (pc := 159) g.1 d_St_takeFurther_159 rfl (lv_at hl 1 rfl) ?_
    refine ww_iload_n (pc := 160) g.1 d_St_takeFurther_160 rfl (lv_at hl 2 rfl) ?_
    refine ww_iadd (pc := 161) g.1 d_St_takeFurther_161 ?_
    refine ww_al (pc := 162) g pk156 rfl rfl d_St_takeFurther_162 h fun v162 h => ?_
    refine ww_goto (pc := 163) (tgt := 167) g.1 d_St_takeFurther_163 (by decide) ?_
    exact j_St_takeFurther_j167 g hR l1 l2 v162 k0 k1 s ls (lv_sub hl [0, 1, 2] rfl) h

theorem j_St_takeFurther_j121 {X : Cx} {q : PL} (g : Gd X y_St_takeFurther b_St_takeFurther 4 none 1 24 R_St) {o : ((Int32 × Int32) ⊕ ((Unit))) × S1} (hR : (Sum.elim (fun y : Int32 × Int32 => ∀ ls : Array Slot, lv_has ls 4 [(0, .ref (q.1 129 0)), (1, .int y.1), (2, .int y.2)] → WW X q o.2 95 ls []) (fun y : Unit => ∀ ls : Array Slot, lv_has ls 4 [] → WW X q o.2 176 ls []) o.1)) (l1 : Int32) (l2 : Int32) (k0 : Int32) (s : S1) (ls : Array Slot) (hl : lv_has ls 4 [(0, .ref (q.1 129 0)), (1, .int l1), (2, .int l2)]) (h : M_St_takeFurther_j121 l1 l2 k0 s = some o) : WW X q s 121 ls [.int k0] := by
  unfold M_St_takeFurther_j121 at h
  refine ww_istore_n (pc := 121) (i := 3) g.1 (lv' := [(3, .int k0), (0, .ref (q.1 129 0)), (1, .int l1), (2, .int l2)]) d_St_takeFurther_121 rfl hl (by decide) rfl fun ls hl => ?_
  refine ww_aload_n (pc := 122) g.1 d_St_takeFurther_122 rfl (lv_at hl 1 rfl) ?_
  refine ww_aload_n (pc := 123) g.1 d_St_takeFurther_123 rfl (lv_at hl 1 rfl) ?_
  refine ww_gI (pc := 124) g (k := 9) cl_St (pz rfl (by decide)) (by decide) (Or.inl kw_877) (f := 16521) rfl rfl d_St_takeFurther_124 h fun v124 h => ?_
  refine ww_iload_n (pc := 127) g.1 d_St_takeFurther_127 rfl (lv_at hl 3 rfl) ?_
  refine ww_iadd (pc := 128) g.1 d_St_takeFurther_128 ?_
  refine ww_iload_n (pc := 129) g.1 d_St_takeFurther_129 rfl (lv_at hl 0 rfl) ?_
  refine ww_if_eq (pc := 130) (tgt := 147) g.1 d_St_takeFurther_130 (by decide) h (fun c h => ?_) (fun c h => ?_)
  · refine ww_iconst (pc := 147) g.1 (v := 0) d_St_takeFurther_147 (by decide) ?_
    exact j_St_takeFurther_j148 g hR l1 l2 k0 0 (v124 + l2) s ls (lv_sub hl [1, 2, 3, 0] rfl) h
  · refine ww_aload_n (pc := 133) g.1 d_St_takeFurther_133 rfl (lv_at hl 1 rfl) ?_
    refine ww_gV (pc := 134) g (k := 4) cl_St (pz rfl (by decide)) (by decide) (Or.inl kw_865) (f := 16516) (t := 148) rfl rfl rfl d_St_takeFurther_134 h fun v134 h => ?_
    refine ww_pr h fun pn134 h => ?_
    refine ww_nnP pn134 ?_
    refine ww_gR (pc := 137) g (k := 0) cl_Co pn134 (by decide) (Or.inl kw_896) (f := 18944) (t := 149) rfl rfl rfl d_St_takeFurther_137 ?_
    refine ww_kd fun kd137 => ?_
    have pk137 : prs s 149 v134 := (kd137 _ pn134).1
    refine ww_iload_n (pc := 140) g.1 d_St_takeFurther_140 rfl (lv_at hl 2 rfl) ?_
    refine ww_iload_n (pc := 141) g.1 d_St_takeFurther_141 rfl (lv_at hl 3 rfl) ?_
    refine ww_iadd (pc := 142) g.1 d_St_takeFurther_142 ?_
    refine ww_ab (pc := 143) g pk137 rfl rfl d_St_takeFurther_143 h fun v143 h => ?_
    refine ww_goto (pc := 144) (tgt := 148) g.1 d_St_takeFurther_144 (by decide) ?_
    exact j_St_takeFurther_j148 g hR l1 l2 k0 v143 (v124 + l2) s ls (lv_sub hl [1, 2, 3, 0] rfl) h

theorem lp_St_takeFurther_L95 {X : Cx} {q : PL} (g : Gd X y_St_takeFurther b_St_takeFurther 4 none 1 24 R_St) (x : Int32 × Int32) (s : S1) (o : ((Int32 × Int32) ⊕ ((Unit))) × S1) (h : M_St_takeFurther_L95 x s = some o) (hR : (Sum.elim (fun y : Int32 × Int32 => ∀ ls : Array Slot, lv_has ls 4 [(0, .ref (q.1 129 0)), (1, .int y.1), (2, .int y.2)] → WW X q o.2 95 ls []) (fun y : Unit => ∀ ls : Array Slot, lv_has ls 4 [] → WW X q o.2 176 ls []) o.1)) : ∀ ls : Array Slot, lv_has ls 4 [(0, .ref (q.1 129 0)), (1, .int x.1), (2, .int x.2)] → WW X q s 95 ls [] := by
  intro ls hl
  unfold M_St_takeFurther_L95 at h
  refine ww_iload_n (pc := 95) g.1 d_St_takeFurther_95 rfl (lv_at hl 2 rfl) ?_
  refine ww_aload_n (pc := 96) g.1 d_St_takeFurther_96 rfl (lv_at hl 0 rfl) ?_
  refine ww_gI (pc := 97) g (k := 10) cl_St (pz rfl (by decide)) (by decide) (Or.inl kw_878) (f := 16522) rfl rfl d_St_takeFurther_97 h fun v97 h => ?_
  refine ww_iconst (pc := 100) g.1 (v := 1) d_St_takeFurther_100 (by decide) ?_
  refine ww_isub (pc := 101) g.1 d_St_takeFurther_101 ?_
  refine ww_icmp_ge (pc := 102) (tgt := 176) g.1 d_St_takeFurther_102 (by decide) h (fun c h => ?_) (fun c h => ?_)
  · rw [oR_eq h] at hR
    exact hR ls (lv_sub hl [] rfl)
  · refine ww_iload_n (pc := 105) g.1 d_St_takeFurther_105 rfl (lv_at hl 2 rfl) ?_
    refine ww_aload_n (pc := 106) g.1 d_St_takeFurther_106 rfl (lv_at hl 0 rfl) ?_
    refine ww_gV (pc := 107) g (k := 5) cl_St (pz rfl (by decide)) (by decide) (Or.inl kw_867) (f := 16517) (t := 152) rfl rfl rfl d_St_takeFurther_107 h fun v107 h => ?_
    refine ww_pr h fun pn107 h => ?_
    refine ww_nnP pn107 ?_
    refine ww_gI (pc := 110) g (k := 4) cl_Fm pn107 (by decide) (Or.inl kw_927) (f := 19460) rfl rfl d_St_takeFurther_110 h fun v110 h => ?_
    refine ww_icmp_ge (pc := 113) (tgt := 120) g.1 d_St_takeFurther_113 (by decide) h (fun c h => ?_) (fun c h => ?_)
    · refine ww_iconst (pc := 120) g.1 (v := 0) d_St_takeFurther_120 (by decide) ?_
      exact j_St_takeFurther_j121 g hR x.1 x.2 0 s ls (lv_sub hl [0, 1, 2] rfl) h
    · refine ww_iconst (pc := 116) g.1 (v := 1) d_St_takeFurther_116 (by decide) ?_
      refine ww_goto (pc := 117) (tgt := 121) g.1 d_St_takeFurther_117 (by decide) ?_
      exact j_St_takeFurther_j121 g hR x.1 x.2 1 s ls (lv_sub hl [0, 1, 2] rfl) h

theorem lp_St_takeFurther_L43 {X : Cx} {q : PL} (g : Gd X y_St_takeFurther b_St_takeFurther 4 none 1 24 R_St) (x : Int32 × Int32) (s : S1) (o : ((Int32 × Int32) ⊕ ((Unit))) × S1) (h : M_St_takeFurther_L43 x s = some o) (hR : (Sum.elim (fun y : Int32 × Int32 => ∀ ls : Array Slot, lv_has ls 4 [(0, .ref (q.1 129 0)), (1, .int y.1), (2, .int y.2)] → WW X q o.2 43 ls []) (fun y : Unit => ∀ ls : Array Slot, lv_has ls 4 [] → WW X q o.2 92 ls []) o.1)) : ∀ ls : Array Slot, lv_has ls 4 [(0, .ref (q.1 129 0)), (1, .int x.1), (2, .int x.2)] → WW X q s 43 ls [] := by
  intro ls hl
  unfold M_St_takeFurther_L43 at h
  refine ww_iload_n (pc := 43) g.1 d_St_takeFurther_43 rfl (lv_at hl 2 rfl) ?_
  refine ww_aload_n (pc := 44) g.1 d_St_takeFurther_44 rfl (lv_at hl 0 rfl) ?_
  refine ww_gV (pc := 45) g (k := 5) cl_St (pz rfl (by decide)) (by decide) (Or.inl kw_867) (f := 16517) (t := 152) rfl rfl rfl d_St_takeFurther_45 h fun v45 h => ?_
  refine ww_pr h fun pn45 h => ?_
  refine ww_nnP pn45 ?_
  refine ww_gI (pc := 48) g (k := 4) cl_Fm pn45 (by decide) (Or.inl kw_927) (f := 19460) rfl rfl d_St_takeFurther_48 h fun v48 h => ?_
  refine ww_icmp_ge (pc := 51) (tgt := 92) g.1 d_St_takeFurther_51 (by decide) h (fun c h => ?_) (fun c h => ?_)
  · rw [oR_eq h] at hR
    exact hR ls (lv_sub hl [] rfl)
  · refine ww_aload_n (pc := 54) g.1 d_St_takeFurther_54 rfl (lv_at hl 0 rfl) ?_
    refine ww_gR (pc := 55) g (k := 0) cl_St (pz rfl (by decide)) (by decide) (Or.inl kw_863) (f := 16512) (t := 128) rfl rfl rfl d_St_takeFurther_55 ?_
    refine ww_gR (pc := 58) g (k := 5) cl_Ma (pz rfl (by decide)) (by decide) (Or.inl kw_930) (f := 16389) (t := 138) rfl rfl rfl d_St_takeFurther_58 ?_
    refine ww_aload_n (pc := 61) g.1 d_St_takeFurther_61 rfl (lv_at hl 0 rfl) ?_
    refine ww_gV (pc := 62) g (k := 4) cl_St (pz rfl (by decide)) (by decide) (Or.inl kw_865) (f := 16516) (t := 148) rfl rfl rfl d_St_takeFurther_62 h fun v62 h => ?_
    refine ww_pr h fun pn62 h => ?_
    refine ww_nnP pn62 ?_
    refine ww_gR (pc := 65) g (k := 0) cl_Co pn62 (by decide) (Or.inl kw_896) (f := 18944) (t := 149) rfl rfl rfl d_St_takeFurther_65 ?_
    refine ww_kd fun kd65 => ?_
    have pk65 : prs s 149 v62 := (kd65 _ pn62).1
    refine ww_iload_n (pc := 68) g.1 d_St_takeFurther_68 rfl (lv_at hl 1 rfl) ?_
    refine ww_iload_n (pc := 69) g.1 d_St_takeFurther_69 rfl (lv_at hl 2 rfl) ?_
    refine ww_iadd (pc := 70) g.1 d_St_takeFurther_70 ?_
    refine ww_ab (pc := 71) g pk65 rfl rfl d_St_takeFurther_71 h fun v71 h => ?_
    refine ww_aload_n (pc := 72) g.1 d_St_takeFurther_72 rfl (lv_at hl 0 rfl) ?_
    refine ww_gV (pc := 73) g (k := 4) cl_St (pz rfl (by decide)) (by decide) (Or.inl kw_865) (f := 16516) (t := 148) rfl rfl rfl d_St_takeFurther_73 h fun v73 h => ?_
    refine ww_pr h fun pn73 h => ?_
    refine ww_nnP pn73 ?_
    refine ww_gR (pc := 76) g (k := 1) cl_Co pn73 (by decide) (Or.inl kw_900) (f := 18945) (t := 150) rfl rfl rfl d_St_takeFurther_76 ?_
    refine ww_kd fun kd76 => ?_
    have pk76 : prs s 150 v73 := (kd76 _ pn73).2.1
    refine ww_iload_n (pc := 79) g.1 d_St_takeFurther_79 rfl (lv_at hl 1 rfl) ?_
    refine ww_iload_n (pc := 80) g.1 d_St_takeFurther_80 rfl (lv_at hl 2 rfl) ?_
    refine ww_iadd (pc := 81) g.1 d_St_takeFurther_81 ?_
    refine ww_al (pc := 82) g pk76 rfl rfl d_St_takeFurther_82 h fun v82 h => ?_
    obtain ⟨v83, s, hc83, h⟩ := oB_of h
    refine ww_callV (pc := 83) (rest := []) g cv_Ro_add (Or.inl kw_932) (cl_Ro ⟨by decide, rfl⟩) (pz rfl (by decide)) (ct_Ro_add ⟨by decide, rfl⟩ hc83) ⟨by decide, by decide⟩ rfl hl.1 (Nat.le_of_ble_eq_true rfl) d_St_takeFurther_83 rfl (?_)
    refine ww_st (st' := []) rfl ?_
    refine ww_iinc (pc := 86) g.1 (v := x.2 + 1) (lv' := [(2, .int (x.2 + 1)), (0, .ref (q.1 129 0)), (1, .int x.1)]) d_St_takeFurther_86 hl (k := 2) rfl (by rfl) (by decide) rfl fun ls hl => ?_
    refine ww_goto (pc := 89) (tgt := 43) g.1 d_St_takeFurther_89 (by decide) ?_
    rw [oR_eq h] at hR
    exact hR ls (lv_sub hl [1, 2, 0] rfl)

theorem ct_St_takeFurther {l : Launch} {P : PP} {q : PL} {s s' : S1}  {r : Unit} (h : M_St_takeFurther s = some (r, s')) : Ct l y_St_takeFurther b_St_takeFurther 4 none 1 24 P q s [.ref (q.1 129 0)] none q s' := by
  refine ct_of (by decide) (Nat.le_of_ble_eq_true rfl) fun X ls eP el g hR hl => ?_
  subst eP
  have hR : Rt X q ((r, s') : Unit × S1).2 none := hR
  have hl : lv_has ls 4 [(0, .ref (q.1 129 0))] := hl
  generalize (r, s') = o at h hR
  unfold M_St_takeFurther at h
  refine ww_aload_n (pc := 0) g.1 d_St_takeFurther_0 rfl (lv_at hl 0 rfl) ?_
  refine ww_gI (pc := 1) g (k := 7) cl_St (pz rfl (by decide)) (by decide) (Or.inl kw_871) (f := 16519) rfl rfl d_St_takeFurther_1 h fun v1 h => ?_
  refine ww_aload_n (pc := 4) g.1 d_St_takeFurther_4 rfl (lv_at hl 0 rfl) ?_
  refine ww_gV (pc := 5) g (k := 6) cl_St (pz rfl (by decide)) (by decide) (Or.inl kw_869) (f := 16518) (t := 144) rfl rfl rfl d_St_takeFurther_5 h fun v5 h => ?_
  refine ww_pr h fun pn5 h => ?_
  refine ww_nnP pn5 ?_
  refine ww_gI (pc := 8) g (k := 2) cl_Pr pn5 (by decide) (Or.inl kw_926) (f := 18434) rfl rfl d_St_takeFurther_8 h fun v8 h => ?_
  refine ww_iadd (pc := 11) g.1 d_St_takeFurther_11 ?_
  refine ww_leti h fun l1_12 h => ?_
  refine ww_istore_n (pc := 12) (i := 1) g.1 (lv' := [(1, .int l1_12), (0, .ref (q.1 129 0))]) d_St_takeFurther_12 rfl hl (by decide) rfl fun ls hl => ?_
  refine ww_aload_n (pc := 13) g.1 d_St_takeFurther_13 rfl (lv_at hl 1 rfl) ?_
  refine ww_gI (pc := 14) g (k := 10) cl_St (pz rfl (by decide)) (by decide) (Or.inl kw_878) (f := 16522) rfl rfl d_St_takeFurther_14 h fun v14 h => ?_
  refine ww_if_ne (pc := 17) (tgt := 93) g.1 d_St_takeFurther_17 (by decide) h (fun c h => ?_) (fun c h => ?_)
  · refine ww_iconst (pc := 93) g.1 (v := 0) d_St_takeFurther_93 (by decide) ?_
    refine ww_istore_n (pc := 94) (i := 2) g.1 (lv' := [(2, .int 0), (1, .int l1_12), (0, .ref (q.1 129 0))]) d_St_takeFurther_94 rfl hl (by decide) rfl fun ls hl => ?_
    obtain ⟨e95, s1, hw, h⟩ := oB_of h
    refine oW_rule (Wh := fun (x : Int32 × Int32) (s : S1) => ∀ ls : Array Slot, lv_has ls 4 [(0, .ref (q.1 129 0)), (1, .int x.1), (2, .int x.2)] → WW X q s 95 ls []) (We := fun (e : (Unit)) (s : S1) => ∀ ls : Array Slot, lv_has ls 4 [] → WW X q s 176 ls []) (fun x s o hb hc => lp_St_takeFurther_L95 (q := q) g x s o hb hc) hw ?_ ls (lv_sub hl [2, 1, 0] rfl)
    clear hw hl
    clear ls
    intro ls hl
    generalize s1 = s at h ⊢
    exact ww_vretH (pc := 176) g h hR d_St_takeFurther_176
  · refine ww_aload_n (pc := 20) g.1 d_St_takeFurther_20 rfl (lv_at hl 1 rfl) ?_
    refine ww_gR (pc := 21) g (k := 0) cl_St (pz rfl (by decide)) (by decide) (Or.inl kw_863) (f := 16512) (t := 128) rfl rfl rfl d_St_takeFurther_21 ?_
    refine ww_aload_n (pc := 24) g.1 d_St_takeFurther_24 rfl (lv_at hl 1 rfl) ?_
    refine ww_gI (pc := 25) g (k := 9) cl_St (pz rfl (by decide)) (by decide) (Or.inl kw_877) (f := 16521) rfl rfl d_St_takeFurther_25 h fun v25 h => ?_
    refine ww_pI (pc := 28) g (k := 6) cl_Ma (pz rfl (by decide)) (by decide) (Or.inl kw_929) rfl (f := 16390) rfl rfl rfl rfl d_St_takeFurther_28 h fun s hs h => ?_
    refine ww_aload_n (pc := 31) g.1 d_St_takeFurther_31 rfl (lv_at hl 1 rfl) ?_
    refine ww_gR (pc := 32) g (k := 0) cl_St (pz rfl (by decide)) (by decide) (Or.inl kw_863) (f := 16512) (t := 128) rfl rfl rfl d_St_takeFurther_32 ?_
    refine ww_gR (pc := 35) g (k := 5) cl_Ma (pz rfl (by decide)) (by decide) (Or.inl kw_930) (f := 16389) (t := 138) rfl rfl rfl d_St_takeFurther_35 ?_
    obtain ⟨v38, s, hc38, h⟩ := oB_of h
    refine ww_callV (pc := 38) (rest := []) g cv_Ro_clear (Or.inl kw_931) (cl_Ro ⟨by decide, rfl⟩) (pz rfl (by decide)) (ct_Ro_clear ⟨by decide, rfl⟩ hc38) ⟨by decide, by decide⟩ rfl hl.1 (Nat.le_of_ble_eq_true rfl) d_St_takeFurther_38 rfl (?_)
    refine ww_st (st' := []) rfl ?_
    refine ww_iconst (pc := 41) g.1 (v := 0) d_St_takeFurther_41 (by decide) ?_
    refine ww_istore_n (pc := 42) (i := 2) g.1 (lv' := [(2, .int 0), (1, .int l1_12), (0, .ref (q.1 129 0))]) d_St_takeFurther_42 rfl hl (by decide) rfl fun ls hl => ?_
    obtain ⟨e43, s1, hw, h⟩ := oB_of h
    refine oW_rule (Wh := fun (x : Int32 × Int32) (s : S1) => ∀ ls : Array Slot, lv_has ls 4 [(0, .ref (q.1 129 0)), (1, .int x.1), (2, .int x.2)] → WW X q s 43 ls []) (We := fun (e : (Unit)) (s : S1) => ∀ ls : Array Slot, lv_has ls 4 [] → WW X q s 92 ls []) (fun x s o hb hc => lp_St_takeFurther_L43 (q := q) g x s o hb hc) hw ?_ ls (lv_sub hl [2, 1, 0] rfl)
    clear hw hl
    clear ls
    intro ls hl
    generalize s1 = s at h ⊢
    exact ww_vretH (pc := 92) g h hR d_St_takeFurther_92

abbrev b_Ro_addFirst : ByteArray := prog_9_method_4_code
def y_Ro_addFirst : MethodName := ⟨R_Ro, "addFirst", "(IJ)V"⟩
abbrev w_Ro_addFirst : List Cond := .code y_Ro_addFirst b_Ro_addFirst 4 none :: wA
theorem k_Ro_addFirst : Cond.code y_Ro_addFirst b_Ro_addFirst 4 none ∈ wA := kinm (show _ ∈ tables_1 from (List.mem_append_right _ (List.mem_append_right _ (List.mem_append_right _ (List.mem_append_right _ (List.mem_append_right _ (List.mem_append_right _ (List.mem_append_left _ (List.mem_of_getElem? (l := tables_1_7) (i := 211) (by decide +kernel)))))))))) (by decide +kernel)
theorem d_Ro_addFirst_0 : decode b_Ro_addFirst 0 = .ok (.aload_n 0, 1) := by decide +kernel
theorem d_Ro_addFirst_1 : decode b_Ro_addFirst 1 = .ok (.getfield 19, 3) := by decide +kernel
theorem d_Ro_addFirst_4 : decode b_Ro_addFirst 4 = .ok (.sipush 512, 3) := by decide +kernel
theorem d_Ro_addFirst_7 : decode b_Ro_addFirst 7 = .ok (.if_icmp .ge 62, 3) := by decide +kernel
theorem d_Ro_addFirst_10 : decode b_Ro_addFirst 10 = .ok (.aload_n 0, 1) := by decide +kernel
theorem d_Ro_addFirst_11 : decode b_Ro_addFirst 11 = .ok (.getfield 9, 3) := by decide +kernel
theorem d_Ro_addFirst_14 : decode b_Ro_addFirst 14 = .ok (.iconst 0, 1) := by decide +kernel
theorem d_Ro_addFirst_15 : decode b_Ro_addFirst 15 = .ok (.aload_n 0, 1) := by decide +kernel
theorem d_Ro_addFirst_16 : decode b_Ro_addFirst 16 = .ok (.getfield 9, 3) := by decide +kernel
theorem d_Ro_addFirst_19 : decode b_Ro_addFirst 19 = .ok (.iconst 1, 1) := by decide +kernel
theorem d_Ro_addFirst_20 : decode b_Ro_addFirst 20 = .ok (.aload_n 0, 1) := by decide +kernel
theorem d_Ro_addFirst_21 : decode b_Ro_addFirst 21 = .ok (.getfield 19, 3) := by decide +kernel
theorem d_Ro_addFirst_24 : decode b_Ro_addFirst 24 = .ok (.invokestatic 23, 3) := by decide +kernel
theorem d_Ro_addFirst_27 : decode b_Ro_addFirst 27 = .ok (.aload_n 0, 1) := by decide +kernel
theorem d_Ro_addFirst_28 : decode b_Ro_addFirst 28 = .ok (.getfield 15, 3) := by decide +kernel
theorem d_Ro_addFirst_31 : decode b_Ro_addFirst 31 = .ok (.iconst 0, 1) := by decide +kernel
theorem d_Ro_addFirst_32 : decode b_Ro_addFirst 32 = .ok (.aload_n 0, 1) := by decide +kernel
theorem d_Ro_addFirst_33 : decode b_Ro_addFirst 33 = .ok (.getfield 15, 3) := by decide +kernel
theorem d_Ro_addFirst_36 : decode b_Ro_addFirst 36 = .ok (.iconst 1, 1) := by decide +kernel
theorem d_Ro_addFirst_37 : decode b_Ro_addFirst 37 = .ok (.aload_n 0, 1) := by decide +kernel
theorem d_Ro_addFirst_38 : decode b_Ro_addFirst 38 = .ok (.getfield 19, 3) := by decide +kernel
theorem d_Ro_addFirst_41 : decode b_Ro_addFirst 41 = .ok (.invokestatic 23, 3) := by decide +kernel
theorem d_Ro_addFirst_44 : decode b_Ro_addFirst 44 = .ok (.aload_n 0, 1) := by decide +kernel
theorem d_Ro_addFirst_45 : decode b_Ro_addFirst 45 = .ok (.getfield 9, 3) := by decide +kernel
theorem d_Ro_addFirst_48 : decode b_Ro_addFirst 48 = .ok (.iconst 0, 1) := by decide +kernel
theorem d_Ro_addFirst_49 : decode b_Ro_addFirst 49 = .ok (.iload_n 1, 1) := by decide +kernel
theorem d_Ro_addFirst_50 : decode b_Ro_addFirst 50 = .ok (.i2b, 1) := by decide +kernel
theorem d_Ro_addFirst_51 : decode b_Ro_addFirst 51 = .ok (.bastore, 1) := by decide +kernel
theorem d_Ro_addFirst_52 : decode b_Ro_addFirst 52 = .ok (.aload_n 0, 1) := by decide +kernel
theorem d_Ro_addFirst_53 : decode b_Ro_addFirst 53 = .ok (.getfield 15, 3) := by decide +kernel
theorem d_Ro_addFirst_56 : decode b_Ro_addFirst 56 = .ok (.iconst 0, 1) := by decide +kernel
theorem d_Ro_addFirst_57 : decode b_Ro_addFirst 57 = .ok (.lload_n 2, 1) := by decide +kernel
theorem d_Ro_addFirst_58 : decode b_Ro_addFirst 58 = .ok (.lastore, 1) := by decide +kernel
theorem d_Ro_addFirst_59 : decode b_Ro_addFirst 59 = .ok (.aload_n 0, 1) := by decide +kernel
theorem d_Ro_addFirst_60 : decode b_Ro_addFirst 60 = .ok (.dup, 1) := by decide +kernel
theorem d_Ro_addFirst_61 : decode b_Ro_addFirst 61 = .ok (.getfield 19, 3) := by decide +kernel
theorem d_Ro_addFirst_64 : decode b_Ro_addFirst 64 = .ok (.iconst 1, 1) := by decide +kernel
theorem d_Ro_addFirst_65 : decode b_Ro_addFirst 65 = .ok (.iadd, 1) := by decide +kernel
theorem d_Ro_addFirst_66 : decode b_Ro_addFirst 66 = .ok (.putfield 19, 3) := by decide +kernel
theorem d_Ro_addFirst_69 : decode b_Ro_addFirst 69 = .ok (.return_, 1) := by decide +kernel
theorem kw_935 : Cond.methodLink R_Ro 23 y_ARRCOPY ∈ wA := kinm (show _ ∈ tables_1 from (List.mem_append_right _ (List.mem_append_right _ (List.mem_append_right _ (List.mem_append_right _ (List.mem_append_right _ (List.mem_append_right _ (List.mem_append_left _ (List.mem_of_getElem? (l := tables_1_7) (i := 212) (by decide +kernel)))))))))) (by decide +kernel)
theorem kw_936 : Cond.instanceMethod y_Ro_addFirst ∈ wA := kinm (show _ ∈ tables_1 from (List.mem_append_right _ (List.mem_append_right _ (List.mem_append_right _ (List.mem_append_right _ (List.mem_append_right _ (List.mem_append_right _ (List.mem_append_left _ (List.mem_of_getElem? (l := tables_1_7) (i := 209) (by decide +kernel)))))))))) (by decide +kernel)
theorem kw_937 : Cond.selects R_Ro y_Ro_addFirst y_Ro_addFirst ∈ wA := kinm (show _ ∈ tables_1 from (List.mem_append_right _ (List.mem_append_right _ (List.mem_append_right _ (List.mem_append_right _ (List.mem_append_right _ (List.mem_append_right _ (List.mem_append_left _ (List.mem_of_getElem? (l := tables_1_7) (i := 210) (by decide +kernel)))))))))) (by decide +kernel)
theorem cv_Ro_addFirst : CV y_Ro_addFirst b_Ro_addFirst 4 none 2 := ⟨kw_936, kw_937, kw_721, k_Ro_addFirst, by decide +kernel⟩
theorem ct_Ro_addFirst {l : Launch} {P : PP} {q : PL} {s s' : S1} {l0r : Nat} {l0 : Int32} {l1 : Int32} {l2 : Int64} (hp0 : ROK l0r l0) {r : Unit} (h : M_Ro_addFirst l0r l0 l1 l2 s = some (r, s')) : Ct l y_Ro_addFirst b_Ro_addFirst 4 none 1 26 P q s [.ref (q.1 l0r l0), .int l1, .long l2] none q s' := by
  refine ct_of (by decide) (Nat.le_of_ble_eq_true rfl) fun X ls eP el g hR hl => ?_
  subst eP
  have hR : Rt X q ((r, s') : Unit × S1).2 none := hR
  have hl : lv_has ls 4 [(0, .ref (q.1 l0r l0)), (1, .int l1), (2, .long l2)] := hl
  generalize (r, s') = o at h hR
  unfold M_Ro_addFirst at h
  refine ww_aload_n (pc := 0) g.1 d_Ro_addFirst_0 rfl (lv_at hl 0 rfl) ?_
  refine ww_gI (pc := 1) g (k := 2) (cl_Ro hp0) (rok_p hp0).1 (by rw [(rok_f hp0).1.2.2]; decide) (Or.inl kw_718) (f := (128 * l0r + 2)) rfl (rok_f hp0).2.2.2.1 d_Ro_addFirst_1 h fun v1 h => ?_
  refine ww_sipush (pc := 4) g.1 (v := 512) d_Ro_addFirst_4 (by decide) ?_
  refine ww_icmp_ge (pc := 7) (tgt := 69) g.1 d_Ro_addFirst_7 (by decide) h (fun c h => ?_) (fun c h => ?_)
  · exact ww_vretH (pc := 69) g h hR d_Ro_addFirst_69
  · refine ww_aload_n (pc := 10) g.1 d_Ro_addFirst_10 rfl (lv_at hl 0 rfl) ?_
    refine ww_gR (pc := 11) g (k := 0) (cl_Ro hp0) (rok_p hp0).1 (by rw [(rok_f hp0).1.2.2]; decide) (Or.inl kw_903) (f := (128 * l0r + 0)) (t := l0r + 1) rfl (rok_f hp0).2.1.1 (rok_f hp0).2.1.2 d_Ro_addFirst_11 ?_
    refine ww_iconst (pc := 14) g.1 (v := 0) d_Ro_addFirst_14 (by decide) ?_
    refine ww_aload_n (pc := 15) g.1 d_Ro_addFirst_15 rfl (lv_at hl 0 rfl) ?_
    refine ww_gR (pc := 16) g (k := 0) (cl_Ro hp0) (rok_p hp0).1 (by rw [(rok_f hp0).1.2.2]; decide) (Or.inl kw_903) (f := (128 * l0r + 0)) (t := l0r + 1) rfl (rok_f hp0).2.1.1 (rok_f hp0).2.1.2 d_Ro_addFirst_16 ?_
    refine ww_iconst (pc := 19) g.1 (v := 1) d_Ro_addFirst_19 (by decide) ?_
    refine ww_aload_n (pc := 20) g.1 d_Ro_addFirst_20 rfl (lv_at hl 0 rfl) ?_
    refine ww_gI (pc := 21) g (k := 2) (cl_Ro hp0) (rok_p hp0).1 (by rw [(rok_f hp0).1.2.2]; decide) (Or.inl kw_718) (f := (128 * l0r + 2)) rfl (rok_f hp0).2.2.2.1 d_Ro_addFirst_21 h fun v21 h => ?_
    refine ww_ci (pc := 24) g (rok_p hp0).2.1 (rok_p hp0).2.1 ((rok_f hp0).2.2.2.2.1.trans (rok_f hp0).2.2.2.2.1.symm) (Or.inr (rok_f hp0).2.2.2.2.1) (rok_n hp0).1 (rok_n hp0).1 kw_935 kw_512 kw_513 kw_514 ⟨by decide, by decide⟩ hl.1 (Nat.le_of_ble_eq_true rfl) d_Ro_addFirst_24 h fun s hs h => ?_
    refine ww_aload_n (pc := 27) g.1 d_Ro_addFirst_27 rfl (lv_at hl 0 rfl) ?_
    refine ww_gR (pc := 28) g (k := 1) (cl_Ro hp0) (rok_p hp0).1 (by rw [(rok_f hp0).1.2.2]; decide) (Or.inl kw_904) (f := (128 * l0r + 1)) (t := l0r + 2) rfl (rok_f hp0).2.2.1.1 (rok_f hp0).2.2.1.2 d_Ro_addFirst_28 ?_
    refine ww_iconst (pc := 31) g.1 (v := 0) d_Ro_addFirst_31 (by decide) ?_
    refine ww_aload_n (pc := 32) g.1 d_Ro_addFirst_32 rfl (lv_at hl 0 rfl) ?_
    refine ww_gR (pc := 33) g (k := 1) (cl_Ro hp0) (rok_p hp0).1 (by rw [(rok_f hp0).1.2.2]; decide) (Or.inl kw_904) (f := (128 * l0r + 1)) (t := l0r + 2) rfl (rok_f hp0).2.2.1.1 (rok_f hp0).2.2.1.2 d_Ro_addFirst_33 ?_
    refine ww_iconst (pc := 36) g.1 (v := 1) d_Ro_addFirst_36 (by decide) ?_
    refine ww_aload_n (pc := 37) g.1 d_Ro_addFirst_37 rfl (lv_at hl 0 rfl) ?_
    refine ww_gI (pc := 38) g (k := 2) (cl_Ro hp0) (rok_p hp0).1 (by rw [(rok_f hp0).1.2.2]; decide) (Or.inl kw_718) (f := (128 * l0r + 2)) rfl (rok_f hp0).2.2.2.1 d_Ro_addFirst_38 h fun v38 h => ?_
    refine ww_cl (pc := 41) g (rok_p hp0).2.2 (rok_p hp0).2.2 (rok_f hp0).2.2.2.2.2 (rok_f hp0).2.2.2.2.2 (rok_n hp0).2 (rok_n hp0).2 kw_935 kw_512 kw_513 kw_514 ⟨by decide, by decide⟩ hl.1 (Nat.le_of_ble_eq_true rfl) d_Ro_addFirst_41 h fun s hs h => ?_
    refine ww_aload_n (pc := 44) g.1 d_Ro_addFirst_44 rfl (lv_at hl 0 rfl) ?_
    refine ww_gR (pc := 45) g (k := 0) (cl_Ro hp0) (rok_p hp0).1 (by rw [(rok_f hp0).1.2.2]; decide) (Or.inl kw_903) (f := (128 * l0r + 0)) (t := l0r + 1) rfl (rok_f hp0).2.1.1 (rok_f hp0).2.1.2 d_Ro_addFirst_45 ?_
    refine ww_iconst (pc := 48) g.1 (v := 0) d_Ro_addFirst_48 (by decide) ?_
    refine ww_iload_n (pc := 49) g.1 d_Ro_addFirst_49 rfl (lv_at hl 1 rfl) ?_
    refine ww_i2b (pc := 50) g.1 (v := l1.toInt8.toInt32) d_Ro_addFirst_50 rfl ?_
    refine ww_sb (pc := 51) g (rok_p hp0).2.1 (rok_f hp0).2.2.2.2.1 (rok_n hp0).1 d_Ro_addFirst_51 h fun s hs h => ?_
    refine ww_aload_n (pc := 52) g.1 d_Ro_addFirst_52 rfl (lv_at hl 0 rfl) ?_
    refine ww_gR (pc := 53) g (k := 1) (cl_Ro hp0) (rok_p hp0).1 (by rw [(rok_f hp0).1.2.2]; decide) (Or.inl kw_904) (f := (128 * l0r + 1)) (t := l0r + 2) rfl (rok_f hp0).2.2.1.1 (rok_f hp0).2.2.1.2 d_Ro_addFirst_53 ?_
    refine ww_iconst (pc := 56) g.1 (v := 0) d_Ro_addFirst_56 (by decide) ?_
    refine ww_lload_n (pc := 57) g.1 d_Ro_addFirst_57 rfl (lv_at hl 2 rfl) ?_
    refine ww_sl (pc := 58) g (rok_p hp0).2.2 (rok_f hp0).2.2.2.2.2 (rok_n hp0).2 d_Ro_addFirst_58 h fun s hs h => ?_
    refine ww_aload_n (pc := 59) g.1 d_Ro_addFirst_59 rfl (lv_at hl 0 rfl) ?_
    refine ww_dup (pc := 60) g.1 d_Ro_addFirst_60 rfl ?_
    refine ww_gI (pc := 61) g (k := 2) (cl_Ro hp0) (rok_p hp0).1 (by rw [(rok_f hp0).1.2.2]; decide) (Or.inl kw_718) (f := (128 * l0r + 2)) rfl (rok_f hp0).2.2.2.1 d_Ro_addFirst_61 h fun v61 h => ?_
    refine ww_iconst (pc := 64) g.1 (v := 1) d_Ro_addFirst_64 (by decide) ?_
    refine ww_iadd (pc := 65) g.1 d_Ro_addFirst_65 ?_
    refine ww_pI (pc := 66) g (k := 2) (cl_Ro hp0) (rok_p hp0).1 (by rw [(rok_f hp0).1.2.2]; decide) (Or.inl kw_718) rfl (f := (128 * l0r + 2)) rfl (rok_f hp0).2.2.2.1 rfl rfl d_Ro_addFirst_66 h fun s hs h => ?_
    exact ww_vretH (pc := 69) g h hR d_Ro_addFirst_69

abbrev b_Ma_coroutineOf : ByteArray := prog_7_method_15_code
def y_Ma_coroutineOf : MethodName := ⟨R_Ma, "coroutineOf", "(I)LLuaMachine$Coroutine;"⟩
abbrev w_Ma_coroutineOf : List Cond := .code y_Ma_coroutineOf b_Ma_coroutineOf 2 (some (.object "LuaMachine$Coroutine")) :: wA
theorem k_Ma_coroutineOf : Cond.code y_Ma_coroutineOf b_Ma_coroutineOf 2 (some (.object "LuaMachine$Coroutine")) ∈ wA := kinm (show _ ∈ tables_1 from (List.mem_append_right _ (List.mem_append_right _ (List.mem_append_right _ (List.mem_append_right _ (List.mem_append_right _ (List.mem_append_right _ (List.mem_append_left _ (List.mem_of_getElem? (l := tables_1_7) (i := 220) (by decide +kernel)))))))))) (by decide +kernel)
theorem d_Ma_coroutineOf_0 : decode b_Ma_coroutineOf 0 = .ok (.aload_n 0, 1) := by decide +kernel
theorem d_Ma_coroutineOf_1 : decode b_Ma_coroutineOf 1 = .ok (.getfield 31, 3) := by decide +kernel
theorem d_Ma_coroutineOf_4 : decode b_Ma_coroutineOf 4 = .ok (.getfield 165, 3) := by decide +kernel
theorem d_Ma_coroutineOf_7 : decode b_Ma_coroutineOf 7 = .ok (.aload_n 0, 1) := by decide +kernel
theorem d_Ma_coroutineOf_8 : decode b_Ma_coroutineOf 8 = .ok (.getfield 31, 3) := by decide +kernel
theorem d_Ma_coroutineOf_11 : decode b_Ma_coroutineOf 11 = .ok (.getfield 120, 3) := by decide +kernel
theorem d_Ma_coroutineOf_14 : decode b_Ma_coroutineOf 14 = .ok (.iload_n 1, 1) := by decide +kernel
theorem d_Ma_coroutineOf_15 : decode b_Ma_coroutineOf 15 = .ok (.aaload, 1) := by decide +kernel
theorem d_Ma_coroutineOf_16 : decode b_Ma_coroutineOf 16 = .ok (.getfield 169, 3) := by decide +kernel
theorem d_Ma_coroutineOf_19 : decode b_Ma_coroutineOf 19 = .ok (.aaload, 1) := by decide +kernel
theorem d_Ma_coroutineOf_20 : decode b_Ma_coroutineOf 20 = .ok (.areturn, 1) := by decide +kernel
theorem kw_938 : Cond.fieldLink R_Ma 31 "LuaMachine$Machine" "heap" "LLuaMachine$Heap;" ∈ wA := kinm (show _ ∈ tables_1 from (List.mem_append_right _ (List.mem_append_left _ (List.mem_of_getElem? (l := tables_1_2) (i := 54) (by decide +kernel))))) (by decide +kernel)
theorem kw_939 : Cond.fieldLink R_Ma 165 "LuaMachine$Heap" "coroutines" "[LLuaMachine$Coroutine;" ∈ wA := kinm (show _ ∈ tables_1 from (List.mem_append_left _ (List.mem_of_getElem? (l := tables_1_1) (i := 151) (by decide +kernel)))) (by decide +kernel)
theorem kw_940 : Cond.fieldLink R_Ma 120 "LuaMachine$Heap" "things" "[LLuaMachine$Thing;" ∈ wA := kinm (show _ ∈ tables_1 from (List.mem_append_left _ (List.mem_of_getElem? (l := tables_1_1) (i := 135) (by decide +kernel)))) (by decide +kernel)
theorem kw_941 : Cond.fieldLink R_Ma 169 "LuaMachine$Thing" "link" "I" ∈ wA := kinm (show _ ∈ tables_1 from (List.mem_append_right _ (List.mem_append_right _ (List.mem_append_right _ (List.mem_append_right _ (List.mem_append_left _ (List.mem_of_getElem? (l := tables_1_5) (i := 179) (by decide +kernel)))))))) (by decide +kernel)
theorem kw_942 : Cond.instanceMethod y_Ma_coroutineOf ∈ wA := kinm (show _ ∈ tables_1 from (List.mem_append_right _ (List.mem_append_right _ (List.mem_append_right _ (List.mem_append_right _ (List.mem_append_right _ (List.mem_append_right _ (List.mem_append_left _ (List.mem_of_getElem? (l := tables_1_7) (i := 218) (by decide +kernel)))))))))) (by decide +kernel)
theorem kw_943 : Cond.selects R_Ma y_Ma_coroutineOf y_Ma_coroutineOf ∈ wA := kinm (show _ ∈ tables_1 from (List.mem_append_right _ (List.mem_append_right _ (List.mem_append_right _ (List.mem_append_right _ (List.mem_append_right _ (List.mem_append_right _ (List.mem_append_left _ (List.mem_of_getElem? (l := tables_1_7) (i := 219) (by decide +kernel)))))))))) (by decide +kernel)
theorem cv_Ma_coroutineOf : CV y_Ma_coroutineOf b_Ma_coroutineOf 2 (some (.object "LuaMachine$Coroutine")) 1 := ⟨kw_942, kw_943, kw_838, k_Ma_coroutineOf, by decide +kernel⟩
theorem ct_Ma_coroutineOf {l : Launch} {P : PP} {q : PL} {s s' : S1} {l1 : Int32} {r : Int32} (h : M_Ma_coroutineOf l1 s = some (r, s')) : Ct l y_Ma_coroutineOf b_Ma_coroutineOf 2 (some (.object "LuaMachine$Coroutine")) 0 0 P q s [.ref (q.1 128 0), .int l1] (some (.ref (q.1 148 r))) q s' := by
  refine ct_of (by decide) (Nat.le_of_ble_eq_true rfl) fun X ls eP el g hR hl => ?_
  subst eP
  have hR : Rt X q ((r, s') : Int32 × S1).2 (some (.ref (q.1 148 ((r, s') : Int32 × S1).1))) := hR
  have hl : lv_has ls 2 [(0, .ref (q.1 128 0)), (1, .int l1)] := hl
  generalize (r, s') = o at h hR
  unfold M_Ma_coroutineOf at h
  refine ww_aload_n (pc := 0) g.1 d_Ma_coroutineOf_0 rfl (lv_at hl 0 rfl) ?_
  refine ww_gR (pc := 1) g (k := 1) cl_Ma (pz rfl (by decide)) (by decide) (Or.inl kw_938) (f := 16385) (t := 111) rfl rfl rfl d_Ma_coroutineOf_1 ?_
  refine ww_gR (pc := 4) g (k := 6) cl_He (pz rfl (by decide)) (by decide) (Or.inl kw_939) (f := 14214) (t := 116) rfl rfl rfl d_Ma_coroutineOf_4 ?_
  refine ww_aload_n (pc := 7) g.1 d_Ma_coroutineOf_7 rfl (lv_at hl 0 rfl) ?_
  refine ww_gR (pc := 8) g (k := 1) cl_Ma (pz rfl (by decide)) (by decide) (Or.inl kw_938) (f := 16385) (t := 111) rfl rfl rfl d_Ma_coroutineOf_8 ?_
  refine ww_gR (pc := 11) g (k := 0) cl_He (pz rfl (by decide)) (by decide) (Or.inl kw_940) (f := 14208) (t := 112) rfl rfl rfl d_Ma_coroutineOf_11 ?_
  refine ww_iload_n (pc := 14) g.1 d_Ma_coroutineOf_14 rfl (lv_at hl 1 rfl) ?_
  refine ww_a8 (pc := 15) g (t := 145) (n := 4000) (pz rfl (by decide)) rfl rfl rfl rfl d_Ma_coroutineOf_15 h fun pa15 h => ?_
  refine ww_gI (pc := 16) g (k := 4) cl_Tg pa15 (by decide) (Or.inl kw_941) (f := 18564) rfl rfl d_Ma_coroutineOf_16 h fun v16 h => ?_
  refine ww_a8 (pc := 19) g (t := 148) (n := 32) (pz rfl (by decide)) rfl rfl rfl rfl d_Ma_coroutineOf_19 h fun pa19 h => ?_
  exact ww_aretH (pc := 20) g rfl (by first | exact Or.inl ⟨_, rfl⟩ | exact Or.inr ⟨_, rfl⟩) h hR d_Ma_coroutineOf_20

abbrev b_Ro_takeAll : ByteArray := prog_9_method_6_code
def y_Ro_takeAll : MethodName := ⟨R_Ro, "takeAll", "(LLuaMachine$Row;)V"⟩
abbrev w_Ro_takeAll : List Cond := .code y_Ro_takeAll b_Ro_takeAll 2 none :: wA
theorem k_Ro_takeAll : Cond.code y_Ro_takeAll b_Ro_takeAll 2 none ∈ wA := kinm (show _ ∈ tables_1 from (List.mem_append_right _ (List.mem_append_right _ (List.mem_append_right _ (List.mem_append_right _ (List.mem_append_right _ (List.mem_append_right _ (List.mem_append_left _ (List.mem_of_getElem? (l := tables_1_7) (i := 228) (by decide +kernel)))))))))) (by decide +kernel)
theorem d_Ro_takeAll_0 : decode b_Ro_takeAll 0 = .ok (.aload_n 1, 1) := by decide +kernel
theorem d_Ro_takeAll_1 : decode b_Ro_takeAll 1 = .ok (.getfield 9, 3) := by decide +kernel
theorem d_Ro_takeAll_4 : decode b_Ro_takeAll 4 = .ok (.iconst 0, 1) := by decide +kernel
theorem d_Ro_takeAll_5 : decode b_Ro_takeAll 5 = .ok (.aload_n 0, 1) := by decide +kernel
theorem d_Ro_takeAll_6 : decode b_Ro_takeAll 6 = .ok (.getfield 9, 3) := by decide +kernel
theorem d_Ro_takeAll_9 : decode b_Ro_takeAll 9 = .ok (.iconst 0, 1) := by decide +kernel
theorem d_Ro_takeAll_10 : decode b_Ro_takeAll 10 = .ok (.aload_n 1, 1) := by decide +kernel
theorem d_Ro_takeAll_11 : decode b_Ro_takeAll 11 = .ok (.getfield 19, 3) := by decide +kernel
theorem d_Ro_takeAll_14 : decode b_Ro_takeAll 14 = .ok (.invokestatic 23, 3) := by decide +kernel
theorem d_Ro_takeAll_17 : decode b_Ro_takeAll 17 = .ok (.aload_n 1, 1) := by decide +kernel
theorem d_Ro_takeAll_18 : decode b_Ro_takeAll 18 = .ok (.getfield 15, 3) := by decide +kernel
theorem d_Ro_takeAll_21 : decode b_Ro_takeAll 21 = .ok (.iconst 0, 1) := by decide +kernel
theorem d_Ro_takeAll_22 : decode b_Ro_takeAll 22 = .ok (.aload_n 0, 1) := by decide +kernel
theorem d_Ro_takeAll_23 : decode b_Ro_takeAll 23 = .ok (.getfield 15, 3) := by decide +kernel
theorem d_Ro_takeAll_26 : decode b_Ro_takeAll 26 = .ok (.iconst 0, 1) := by decide +kernel
theorem d_Ro_takeAll_27 : decode b_Ro_takeAll 27 = .ok (.aload_n 1, 1) := by decide +kernel
theorem d_Ro_takeAll_28 : decode b_Ro_takeAll 28 = .ok (.getfield 19, 3) := by decide +kernel
theorem d_Ro_takeAll_31 : decode b_Ro_takeAll 31 = .ok (.invokestatic 23, 3) := by decide +kernel
theorem d_Ro_takeAll_34 : decode b_Ro_takeAll 34 = .ok (.aload_n 0, 1) := by decide +kernel
theorem d_Ro_takeAll_35 : decode b_Ro_takeAll 35 = .ok (.aload_n 1, 1) := by decide +kernel
theorem d_Ro_takeAll_36 : decode b_Ro_takeAll 36 = .ok (.getfield 19, 3) := by decide +kernel
theorem d_Ro_takeAll_39 : decode b_Ro_takeAll 39 = .ok (.putfield 19, 3) := by decide +kernel
theorem d_Ro_takeAll_42 : decode b_Ro_takeAll 42 = .ok (.aload_n 1, 1) := by decide +kernel
theorem d_Ro_takeAll_43 : decode b_Ro_takeAll 43 = .ok (.iconst 0, 1) := by decide +kernel
theorem d_Ro_takeAll_44 : decode b_Ro_takeAll 44 = .ok (.putfield 19, 3) := by decide +kernel
theorem d_Ro_takeAll_47 : decode b_Ro_takeAll 47 = .ok (.return_, 1) := by decide +kernel
theorem kw_944 : Cond.instanceMethod y_Ro_takeAll ∈ wA := kinm (show _ ∈ tables_1 from (List.mem_append_right _ (List.mem_append_right _ (List.mem_append_right _ (List.mem_append_right _ (List.mem_append_right _ (List.mem_append_right _ (List.mem_append_left _ (List.mem_of_getElem? (l := tables_1_7) (i := 226) (by decide +kernel)))))))))) (by decide +kernel)
theorem kw_945 : Cond.selects R_Ro y_Ro_takeAll y_Ro_takeAll ∈ wA := kinm (show _ ∈ tables_1 from (List.mem_append_right _ (List.mem_append_right _ (List.mem_append_right _ (List.mem_append_right _ (List.mem_append_right _ (List.mem_append_right _ (List.mem_append_left _ (List.mem_of_getElem? (l := tables_1_7) (i := 227) (by decide +kernel)))))))))) (by decide +kernel)
theorem cv_Ro_takeAll : CV y_Ro_takeAll b_Ro_takeAll 2 none 1 := ⟨kw_944, kw_945, kw_721, k_Ro_takeAll, by decide +kernel⟩
theorem ct_Ro_takeAll {l : Launch} {P : PP} {q : PL} {s s' : S1} {l0r : Nat} {l0 : Int32} {l1r : Nat} {l1 : Int32} (hp0 : ROK l0r l0) (hp1 : ROK l1r l1) {r : Unit} (h : M_Ro_takeAll l0r l0 l1r l1 s = some (r, s')) : Ct l y_Ro_takeAll b_Ro_takeAll 2 none 1 26 P q s [.ref (q.1 l0r l0), .ref (q.1 l1r l1)] none q s' := by
  refine ct_of (by decide) (Nat.le_of_ble_eq_true rfl) fun X ls eP el g hR hl => ?_
  subst eP
  have hR : Rt X q ((r, s') : Unit × S1).2 none := hR
  have hl : lv_has ls 2 [(0, .ref (q.1 l0r l0)), (1, .ref (q.1 l1r l1))] := hl
  generalize (r, s') = o at h hR
  unfold M_Ro_takeAll at h
  refine ww_aload_n (pc := 0) g.1 d_Ro_takeAll_0 rfl (lv_at hl 1 rfl) ?_
  refine ww_gR (pc := 1) g (k := 0) (cl_Ro hp1) (rok_p hp1).1 (by rw [(rok_f hp1).1.2.2]; decide) (Or.inl kw_903) (f := (128 * l1r + 0)) (t := l1r + 1) rfl (rok_f hp1).2.1.1 (rok_f hp1).2.1.2 d_Ro_takeAll_1 ?_
  refine ww_iconst (pc := 4) g.1 (v := 0) d_Ro_takeAll_4 (by decide) ?_
  refine ww_aload_n (pc := 5) g.1 d_Ro_takeAll_5 rfl (lv_at hl 0 rfl) ?_
  refine ww_gR (pc := 6) g (k := 0) (cl_Ro hp0) (rok_p hp0).1 (by rw [(rok_f hp0).1.2.2]; decide) (Or.inl kw_903) (f := (128 * l0r + 0)) (t := l0r + 1) rfl (rok_f hp0).2.1.1 (rok_f hp0).2.1.2 d_Ro_takeAll_6 ?_
  refine ww_iconst (pc := 9) g.1 (v := 0) d_Ro_takeAll_9 (by decide) ?_
  refine ww_aload_n (pc := 10) g.1 d_Ro_takeAll_10 rfl (lv_at hl 1 rfl) ?_
  refine ww_gI (pc := 11) g (k := 2) (cl_Ro hp1) (rok_p hp1).1 (by rw [(rok_f hp1).1.2.2]; decide) (Or.inl kw_718) (f := (128 * l1r + 2)) rfl (rok_f hp1).2.2.2.1 d_Ro_takeAll_11 h fun v11 h => ?_
  refine ww_ci (pc := 14) g (rok_p hp1).2.1 (rok_p hp0).2.1 ((rok_f hp1).2.2.2.2.1.trans (rok_f hp0).2.2.2.2.1.symm) (Or.inr (rok_f hp1).2.2.2.2.1) (rok_n hp1).1 (rok_n hp0).1 kw_935 kw_512 kw_513 kw_514 ⟨by decide, by decide⟩ hl.1 (Nat.le_of_ble_eq_true rfl) d_Ro_takeAll_14 h fun s hs h => ?_
  refine ww_aload_n (pc := 17) g.1 d_Ro_takeAll_17 rfl (lv_at hl 1 rfl) ?_
  refine ww_gR (pc := 18) g (k := 1) (cl_Ro hp1) (rok_p hp1).1 (by rw [(rok_f hp1).1.2.2]; decide) (Or.inl kw_904) (f := (128 * l1r + 1)) (t := l1r + 2) rfl (rok_f hp1).2.2.1.1 (rok_f hp1).2.2.1.2 d_Ro_takeAll_18 ?_
  refine ww_iconst (pc := 21) g.1 (v := 0) d_Ro_takeAll_21 (by decide) ?_
  refine ww_aload_n (pc := 22) g.1 d_Ro_takeAll_22 rfl (lv_at hl 0 rfl) ?_
  refine ww_gR (pc := 23) g (k := 1) (cl_Ro hp0) (rok_p hp0).1 (by rw [(rok_f hp0).1.2.2]; decide) (Or.inl kw_904) (f := (128 * l0r + 1)) (t := l0r + 2) rfl (rok_f hp0).2.2.1.1 (rok_f hp0).2.2.1.2 d_Ro_takeAll_23 ?_
  refine ww_iconst (pc := 26) g.1 (v := 0) d_Ro_takeAll_26 (by decide) ?_
  refine ww_aload_n (pc := 27) g.1 d_Ro_takeAll_27 rfl (lv_at hl 1 rfl) ?_
  refine ww_gI (pc := 28) g (k := 2) (cl_Ro hp1) (rok_p hp1).1 (by rw [(rok_f hp1).1.2.2]; decide) (Or.inl kw_718) (f := (128 * l1r + 2)) rfl (rok_f hp1).2.2.2.1 d_Ro_takeAll_28 h fun v28 h => ?_
  refine ww_cl (pc := 31) g (rok_p hp1).2.2 (rok_p hp0).2.2 (rok_f hp1).2.2.2.2.2 (rok_f hp0).2.2.2.2.2 (rok_n hp1).2 (rok_n hp0).2 kw_935 kw_512 kw_513 kw_514 ⟨by decide, by decide⟩ hl.1 (Nat.le_of_ble_eq_true rfl) d_Ro_takeAll_31 h fun s hs h => ?_
  refine ww_aload_n (pc := 34) g.1 d_Ro_takeAll_34 rfl (lv_at hl 0 rfl) ?_
  refine ww_aload_n (pc := 35) g.1 d_Ro_takeAll_35 rfl (lv_at hl 1 rfl) ?_
  refine ww_gI (pc := 36) g (k := 2) (cl_Ro hp1) (rok_p hp1).1 (by rw [(rok_f hp1).1.2.2]; decide) (Or.inl kw_718) (f := (128 * l1r + 2)) rfl (rok_f hp1).2.2.2.1 d_Ro_takeAll_36 h fun v36 h => ?_
  refine ww_pI (pc := 39) g (k := 2) (cl_Ro hp0) (rok_p hp0).1 (by rw [(rok_f hp0).1.2.2]; decide) (Or.inl kw_718) rfl (f := (128 * l0r + 2)) rfl (rok_f hp0).2.2.2.1 rfl rfl d_Ro_takeAll_39 h fun s hs h => ?_
  refine ww_aload_n (pc := 42) g.1 d_Ro_takeAll_42 rfl (lv_at hl 1 rfl) ?_
  refine ww_iconst (pc := 43) g.1 (v := 0) d_Ro_takeAll_43 (by decide) ?_
  refine ww_pI (pc := 44) g (k := 2) (cl_Ro hp1) (rok_p hp1).1 (by rw [(rok_f hp1).1.2.2]; decide) (Or.inl kw_718) rfl (f := (128 * l1r + 2)) rfl (rok_f hp1).2.2.2.1 rfl rfl d_Ro_takeAll_44 h fun s hs h => ?_
  exact ww_vretH (pc := 47) g h hR d_Ro_takeAll_47


