abbrev b_Mo_hash : ByteArray := prog_14_method_29_code
def y_Mo_hash : MethodName := ⟨R_Mo, "hash", "([BII)I"⟩
abbrev w_Mo_hash : List Cond := .code y_Mo_hash b_Mo_hash 6 (some .int) :: wA
theorem k_Mo_hash : Cond.code y_Mo_hash b_Mo_hash 6 (some .int) ∈ wA := kinm (show _ ∈ tables_1 from (List.mem_append_right _ (List.mem_append_right _ (List.mem_append_right _ (List.mem_append_right _ (List.mem_append_right _ (List.mem_append_right _ (List.mem_append_right _ (List.mem_append_right _ (List.mem_append_right _ (List.mem_append_right _ (List.mem_append_right _ (List.mem_append_left _ (List.mem_of_getElem? (l := tables_1_12) (i := 53) (by decide +kernel))))))))))))))) (by decide +kernel)
theorem d_Mo_hash_0 : decode b_Mo_hash 0 = .ok (.iload_n 3, 1) := by decide +kernel
theorem d_Mo_hash_1 : decode b_Mo_hash 1 = .ok (.istore 4, 2) := by decide +kernel
theorem d_Mo_hash_3 : decode b_Mo_hash 3 = .ok (.iconst 0, 1) := by decide +kernel
theorem d_Mo_hash_4 : decode b_Mo_hash 4 = .ok (.istore 5, 2) := by decide +kernel
theorem d_Mo_hash_6 : decode b_Mo_hash 6 = .ok (.iload 5, 2) := by decide +kernel
theorem d_Mo_hash_8 : decode b_Mo_hash 8 = .ok (.iload_n 3, 1) := by decide +kernel
theorem d_Mo_hash_9 : decode b_Mo_hash 9 = .ok (.if_icmp .ge 23, 3) := by decide +kernel
theorem d_Mo_hash_12 : decode b_Mo_hash 12 = .ok (.bipush 31, 2) := by decide +kernel
theorem d_Mo_hash_14 : decode b_Mo_hash 14 = .ok (.iload 4, 2) := by decide +kernel
theorem d_Mo_hash_16 : decode b_Mo_hash 16 = .ok (.imul, 1) := by decide +kernel
theorem d_Mo_hash_17 : decode b_Mo_hash 17 = .ok (.aload_n 1, 1) := by decide +kernel
theorem d_Mo_hash_18 : decode b_Mo_hash 18 = .ok (.iload_n 2, 1) := by decide +kernel
theorem d_Mo_hash_19 : decode b_Mo_hash 19 = .ok (.iload 5, 2) := by decide +kernel
theorem d_Mo_hash_21 : decode b_Mo_hash 21 = .ok (.iadd, 1) := by decide +kernel
theorem d_Mo_hash_22 : decode b_Mo_hash 22 = .ok (.baload, 1) := by decide +kernel
theorem d_Mo_hash_23 : decode b_Mo_hash 23 = .ok (.iadd, 1) := by decide +kernel
theorem d_Mo_hash_24 : decode b_Mo_hash 24 = .ok (.istore 4, 2) := by decide +kernel
theorem d_Mo_hash_26 : decode b_Mo_hash 26 = .ok (.iinc 5 1, 3) := by decide +kernel
theorem d_Mo_hash_29 : decode b_Mo_hash 29 = .ok (.goto (-23), 3) := by decide +kernel
theorem d_Mo_hash_32 : decode b_Mo_hash 32 = .ok (.iload 4, 2) := by decide +kernel
theorem d_Mo_hash_34 : decode b_Mo_hash 34 = .ok (.sipush 1023, 3) := by decide +kernel
theorem d_Mo_hash_37 : decode b_Mo_hash 37 = .ok (.iand, 1) := by decide +kernel
theorem d_Mo_hash_38 : decode b_Mo_hash 38 = .ok (.ireturn, 1) := by decide +kernel
theorem kw_102 : Cond.instanceMethod y_Mo_hash ∈ wA := kinm (show _ ∈ tables_1 from (List.mem_append_right _ (List.mem_append_right _ (List.mem_append_right _ (List.mem_append_right _ (List.mem_append_right _ (List.mem_append_right _ (List.mem_append_right _ (List.mem_append_right _ (List.mem_append_right _ (List.mem_append_right _ (List.mem_append_right _ (List.mem_append_left _ (List.mem_of_getElem? (l := tables_1_12) (i := 52) (by decide +kernel))))))))))))))) (by decide +kernel)
theorem kw_103 : Cond.selects R_Mo y_Mo_hash y_Mo_hash ∈ wA := kinp 139 (by decide +kernel) (by decide +kernel)
theorem cv_Mo_hash : CV y_Mo_hash b_Mo_hash 6 (some .int) 3 := ⟨kw_102, kw_103, kw_17, k_Mo_hash, by decide +kernel⟩
theorem lp_Mo_hash_L6 {X : Cx} {q : PL} (g : Gd X y_Mo_hash b_Mo_hash 6 (some .int) 0 0 R_Mo) (x : Nat × Int32 × Int32 × Int32 × Int32 × Int32) (s : S1) (o : ((Nat × Int32 × Int32 × Int32 × Int32 × Int32) ⊕ ((Int32))) × S1) (h : M_Mo_hash_L6 x s = some o) (hR : (Sum.elim (fun y : Nat × Int32 × Int32 × Int32 × Int32 × Int32 => ∀ ls : Array Slot, (AK 2 y.1) → (prs o.2 y.1 y.2.1) → lv_has ls 6 [(1, .ref (q.1 y.1 y.2.1)), (2, .int y.2.2.1), (3, .int y.2.2.2.1), (4, .int y.2.2.2.2.1), (5, .int y.2.2.2.2.2)] → WW X q o.2 6 ls []) (fun y : Int32 => ∀ ls : Array Slot, lv_has ls 6 [(4, .int y)] → WW X q o.2 32 ls []) o.1)) : ∀ ls : Array Slot, (AK 2 x.1) → (prs s x.1 x.2.1) → lv_has ls 6 [(1, .ref (q.1 x.1 x.2.1)), (2, .int x.2.2.1), (3, .int x.2.2.2.1), (4, .int x.2.2.2.2.1), (5, .int x.2.2.2.2.2)] → WW X q s 6 ls [] := by
  intro ls hp0 hp1 hl
  unfold M_Mo_hash_L6 at h
  refine ww_iload (pc := 6) g.1 d_Mo_hash_6 (lv_at hl 4 rfl) ?_
  refine ww_iload_n (pc := 8) g.1 d_Mo_hash_8 rfl (lv_at hl 2 rfl) ?_
  refine ww_icmp_ge (pc := 9) (tgt := 32) g.1 d_Mo_hash_9 (by decide) h (fun c h => ?_) (fun c h => ?_)
  · rw [oR_eq h] at hR
    exact hR ls (lv_sub hl [3] rfl)
  · refine ww_bipush (pc := 12) g.1 (v := 31) d_Mo_hash_12 (by decide) ?_
    refine ww_iload (pc := 14) g.1 d_Mo_hash_14 (lv_at hl 3 rfl) ?_
    refine ww_imul (pc := 16) g.1 d_Mo_hash_16 ?_
    refine ww_aload_n (pc := 17) g.1 d_Mo_hash_17 rfl (lv_at hl 0 rfl) ?_
    refine ww_iload_n (pc := 18) g.1 d_Mo_hash_18 rfl (lv_at hl 1 rfl) ?_
    refine ww_iload (pc := 19) g.1 d_Mo_hash_19 (lv_at hl 4 rfl) ?_
    refine ww_iadd (pc := 21) g.1 d_Mo_hash_21 ?_
    refine ww_ab (pc := 22) g hp1 hp0.1 (ak_n hp0) d_Mo_hash_22 h fun v22 h => ?_
    refine ww_iadd (pc := 23) g.1 d_Mo_hash_23 ?_
    refine ww_leti h fun l4_24 h => ?_
    refine ww_istore (pc := 24) (i := 4) g.1 (lv' := [(4, .int l4_24), (1, .ref (q.1 x.1 x.2.1)), (2, .int x.2.2.1), (3, .int x.2.2.2.1), (5, .int x.2.2.2.2.2)]) d_Mo_hash_24 hl (by decide) rfl fun ls hl => ?_
    refine ww_iinc (pc := 26) g.1 (v := x.2.2.2.2.2 + 1) (lv' := [(5, .int (x.2.2.2.2.2 + 1)), (4, .int l4_24), (1, .ref (q.1 x.1 x.2.1)), (2, .int x.2.2.1), (3, .int x.2.2.2.1)]) d_Mo_hash_26 hl (k := 4) rfl (by rfl) (by decide) rfl fun ls hl => ?_
    refine ww_goto (pc := 29) (tgt := 6) g.1 d_Mo_hash_29 (by decide) ?_
    rw [oR_eq h] at hR
    exact hR ls hp0 hp1 (lv_sub hl [2, 3, 4, 1, 0] rfl)

theorem ct_Mo_hash {l : Launch} {P : PP} {q : PL} {s s' : S1} {l1r : Nat} {l1 : Int32} {l2 : Int32} {l3 : Int32} (hp0 : AK 2 l1r) (hp1 : prs s l1r l1) {r : Int32} (h : M_Mo_hash l1r l1 l2 l3 s = some (r, s')) : Ct l y_Mo_hash b_Mo_hash 6 (some .int) 0 0 P q s [.ref (q.1 0 0), .ref (q.1 l1r l1), .int l2, .int l3] (some (.int r)) q s' := by
  refine ct_of (by decide) (Nat.le_of_ble_eq_true rfl) fun X ls eP el g hR hl => ?_
  subst eP
  have hR : Rt X q ((r, s') : Int32 × S1).2 (some (.int ((r, s') : Int32 × S1).1)) := hR
  have hl : lv_has ls 6 [(0, .ref (q.1 0 0)), (1, .ref (q.1 l1r l1)), (2, .int l2), (3, .int l3)] := hl
  generalize (r, s') = o at h hR
  unfold M_Mo_hash at h
  refine ww_iload_n (pc := 0) g.1 d_Mo_hash_0 rfl (lv_at hl 3 rfl) ?_
  refine ww_istore (pc := 1) (i := 4) g.1 (lv' := [(4, .int l3), (0, .ref (q.1 0 0)), (1, .ref (q.1 l1r l1)), (2, .int l2), (3, .int l3)]) d_Mo_hash_1 hl (by decide) rfl fun ls hl => ?_
  refine ww_iconst (pc := 3) g.1 (v := 0) d_Mo_hash_3 (by decide) ?_
  refine ww_istore (pc := 4) (i := 5) g.1 (lv' := [(5, .int 0), (4, .int l3), (0, .ref (q.1 0 0)), (1, .ref (q.1 l1r l1)), (2, .int l2), (3, .int l3)]) d_Mo_hash_4 hl (by decide) rfl fun ls hl => ?_
  obtain ⟨e6, s1, hw, h⟩ := oB_of h
  refine oW_rule (Wh := fun (x : Nat × Int32 × Int32 × Int32 × Int32 × Int32) (s : S1) => ∀ ls : Array Slot, (AK 2 x.1) → (prs s x.1 x.2.1) → lv_has ls 6 [(1, .ref (q.1 x.1 x.2.1)), (2, .int x.2.2.1), (3, .int x.2.2.2.1), (4, .int x.2.2.2.2.1), (5, .int x.2.2.2.2.2)] → WW X q s 6 ls []) (We := fun (e : (Int32)) (s : S1) => ∀ ls : Array Slot, lv_has ls 6 [(4, .int e)] → WW X q s 32 ls []) (fun x s o hb hc => lp_Mo_hash_L6 (q := q) g x s o hb hc) hw ?_ ls hp0 hp1 (lv_sub hl [3, 4, 5, 1, 0] rfl)
  clear hw hl
  clear ls
  intro ls hl
  generalize s1 = s at h ⊢
  refine ww_iload (pc := 32) g.1 d_Mo_hash_32 (lv_at hl 0 rfl) ?_
  refine ww_sipush (pc := 34) g.1 (v := 1023) d_Mo_hash_34 (by decide) ?_
  refine ww_iand (pc := 37) g.1 d_Mo_hash_37 ?_
  exact ww_iretH (pc := 38) g h hR d_Mo_hash_38

abbrev b_Mo_forget : ByteArray := prog_14_method_51_code
def y_Mo_forget : MethodName := ⟨R_Mo, "forget", "(LLuaMachineModel$Thread_;I)V"⟩
abbrev w_Mo_forget : List Cond := .code y_Mo_forget b_Mo_forget 5 none :: wA
theorem k_Mo_forget : Cond.code y_Mo_forget b_Mo_forget 5 none ∈ wA := kinm (show _ ∈ tables_1 from (List.mem_append_right _ (List.mem_append_right _ (List.mem_append_right _ (List.mem_append_right _ (List.mem_append_right _ (List.mem_append_right _ (List.mem_append_right _ (List.mem_append_right _ (List.mem_append_right _ (List.mem_append_right _ (List.mem_append_right _ (List.mem_append_left _ (List.mem_of_getElem? (l := tables_1_12) (i := 57) (by decide +kernel))))))))))))))) (by decide +kernel)
theorem d_Mo_forget_0 : decode b_Mo_forget 0 = .ok (.iconst 0, 1) := by decide +kernel
theorem d_Mo_forget_1 : decode b_Mo_forget 1 = .ok (.istore_n 3, 1) := by decide +kernel
theorem d_Mo_forget_2 : decode b_Mo_forget 2 = .ok (.iconst 0, 1) := by decide +kernel
theorem d_Mo_forget_3 : decode b_Mo_forget 3 = .ok (.istore 4, 2) := by decide +kernel
theorem d_Mo_forget_5 : decode b_Mo_forget 5 = .ok (.iload 4, 2) := by decide +kernel
theorem d_Mo_forget_7 : decode b_Mo_forget 7 = .ok (.aload_n 1, 1) := by decide +kernel
theorem d_Mo_forget_8 : decode b_Mo_forget 8 = .ok (.getfield 597, 3) := by decide +kernel
theorem d_Mo_forget_11 : decode b_Mo_forget 11 = .ok (.if_icmp .ge 36, 3) := by decide +kernel
theorem d_Mo_forget_14 : decode b_Mo_forget 14 = .ok (.aload_n 1, 1) := by decide +kernel
theorem d_Mo_forget_15 : decode b_Mo_forget 15 = .ok (.getfield 600, 3) := by decide +kernel
theorem d_Mo_forget_18 : decode b_Mo_forget 18 = .ok (.iload 4, 2) := by decide +kernel
theorem d_Mo_forget_20 : decode b_Mo_forget 20 = .ok (.iaload, 1) := by decide +kernel
theorem d_Mo_forget_21 : decode b_Mo_forget 21 = .ok (.iload_n 2, 1) := by decide +kernel
theorem d_Mo_forget_22 : decode b_Mo_forget 22 = .ok (.if_icmp .eq 19, 3) := by decide +kernel
theorem d_Mo_forget_25 : decode b_Mo_forget 25 = .ok (.aload_n 1, 1) := by decide +kernel
theorem d_Mo_forget_26 : decode b_Mo_forget 26 = .ok (.getfield 600, 3) := by decide +kernel
theorem d_Mo_forget_29 : decode b_Mo_forget 29 = .ok (.iload_n 3, 1) := by decide +kernel
theorem d_Mo_forget_30 : decode b_Mo_forget 30 = .ok (.iinc 3 1, 3) := by decide +kernel
theorem d_Mo_forget_33 : decode b_Mo_forget 33 = .ok (.aload_n 1, 1) := by decide +kernel
theorem d_Mo_forget_34 : decode b_Mo_forget 34 = .ok (.getfield 600, 3) := by decide +kernel
theorem d_Mo_forget_37 : decode b_Mo_forget 37 = .ok (.iload 4, 2) := by decide +kernel
theorem d_Mo_forget_39 : decode b_Mo_forget 39 = .ok (.iaload, 1) := by decide +kernel
theorem d_Mo_forget_40 : decode b_Mo_forget 40 = .ok (.iastore, 1) := by decide +kernel
theorem d_Mo_forget_41 : decode b_Mo_forget 41 = .ok (.iinc 4 1, 3) := by decide +kernel
theorem d_Mo_forget_44 : decode b_Mo_forget 44 = .ok (.goto (-39), 3) := by decide +kernel
theorem d_Mo_forget_47 : decode b_Mo_forget 47 = .ok (.aload_n 1, 1) := by decide +kernel
theorem d_Mo_forget_48 : decode b_Mo_forget 48 = .ok (.iload_n 3, 1) := by decide +kernel
theorem d_Mo_forget_49 : decode b_Mo_forget 49 = .ok (.putfield 597, 3) := by decide +kernel
theorem d_Mo_forget_52 : decode b_Mo_forget 52 = .ok (.return_, 1) := by decide +kernel
theorem kw_104 : Cond.fieldLink R_Mo 597 "LuaMachineModel$Thread_" "openCount" "I" ∈ wA := kinm (show _ ∈ tables_1 from (List.mem_append_right _ (List.mem_append_right _ (List.mem_append_right _ (List.mem_append_right _ (List.mem_append_right _ (List.mem_append_right _ (List.mem_append_right _ (List.mem_append_right _ (List.mem_append_left _ (List.mem_of_getElem? (l := tables_1_9) (i := 212) (by decide +kernel)))))))))))) (by decide +kernel)
theorem kw_105 : Cond.fieldLink R_Mo 600 "LuaMachineModel$Thread_" "open" "[I" ∈ wA := kinm (show _ ∈ tables_1 from (List.mem_append_right _ (List.mem_append_right _ (List.mem_append_right _ (List.mem_append_right _ (List.mem_append_right _ (List.mem_append_right _ (List.mem_append_right _ (List.mem_append_right _ (List.mem_append_left _ (List.mem_of_getElem? (l := tables_1_9) (i := 225) (by decide +kernel)))))))))))) (by decide +kernel)
theorem kw_106 : Cond.instanceMethod y_Mo_forget ∈ wA := kinm (show _ ∈ tables_1 from (List.mem_append_right _ (List.mem_append_right _ (List.mem_append_right _ (List.mem_append_right _ (List.mem_append_right _ (List.mem_append_right _ (List.mem_append_right _ (List.mem_append_right _ (List.mem_append_right _ (List.mem_append_right _ (List.mem_append_right _ (List.mem_append_left _ (List.mem_of_getElem? (l := tables_1_12) (i := 56) (by decide +kernel))))))))))))))) (by decide +kernel)
theorem kw_107 : Cond.selects R_Mo y_Mo_forget y_Mo_forget ∈ wA := kinp 140 (by decide +kernel) (by decide +kernel)
theorem cv_Mo_forget : CV y_Mo_forget b_Mo_forget 5 none 2 := ⟨kw_106, kw_107, kw_17, k_Mo_forget, by decide +kernel⟩
theorem j_Mo_forget_j41 {X : Cx} {q : PL} (g : Gd X y_Mo_forget b_Mo_forget 5 none 0 0 R_Mo) {o : ((Int32 × Int32 × Int32 × Int32) ⊕ ((Int32 × Int32))) × S1} (hR : (Sum.elim (fun y : Int32 × Int32 × Int32 × Int32 => ∀ ls : Array Slot, (0 ≤ y.1 ∧ y.1 < 33) → lv_has ls 5 [(1, .ref (q.1 28 y.1)), (2, .int y.2.1), (3, .int y.2.2.1), (4, .int y.2.2.2)] → WW X q o.2 5 ls []) (fun y : Int32 × Int32 => ∀ ls : Array Slot, (0 ≤ y.1 ∧ y.1 < 33) → lv_has ls 5 [(1, .ref (q.1 28 y.1)), (3, .int y.2)] → WW X q o.2 47 ls []) o.1)) (l1 : Int32) (l2 : Int32) (l3 : Int32) (l4 : Int32) (s : S1) (hp0 : 0 ≤ l1 ∧ l1 < 33) (ls : Array Slot) (hl : lv_has ls 5 [(1, .ref (q.1 28 l1)), (2, .int l2), (3, .int l3), (4, .int l4)]) (h : M_Mo_forget_j41 l1 l2 l3 l4 s = some o) : WW X q s 41 ls [] := by
  unfold M_Mo_forget_j41 at h
  refine ww_iinc (pc := 41) g.1 (v := l4 + 1) (lv' := [(4, .int (l4 + 1)), (1, .ref (q.1 28 l1)), (2, .int l2), (3, .int l3)]) d_Mo_forget_41 hl (k := 3) rfl (by rfl) (by decide) rfl fun ls hl => ?_
  refine ww_goto (pc := 44) (tgt := 5) g.1 d_Mo_forget_44 (by decide) ?_
  rw [oR_eq h] at hR
  exact hR ls hp0 (lv_sub hl [1, 2, 3, 0] rfl)

theorem lp_Mo_forget_L5 {X : Cx} {q : PL} (g : Gd X y_Mo_forget b_Mo_forget 5 none 0 0 R_Mo) (x : Int32 × Int32 × Int32 × Int32) (s : S1) (o : ((Int32 × Int32 × Int32 × Int32) ⊕ ((Int32 × Int32))) × S1) (h : M_Mo_forget_L5 x s = some o) (hR : (Sum.elim (fun y : Int32 × Int32 × Int32 × Int32 => ∀ ls : Array Slot, (0 ≤ y.1 ∧ y.1 < 33) → lv_has ls 5 [(1, .ref (q.1 28 y.1)), (2, .int y.2.1), (3, .int y.2.2.1), (4, .int y.2.2.2)] → WW X q o.2 5 ls []) (fun y : Int32 × Int32 => ∀ ls : Array Slot, (0 ≤ y.1 ∧ y.1 < 33) → lv_has ls 5 [(1, .ref (q.1 28 y.1)), (3, .int y.2)] → WW X q o.2 47 ls []) o.1)) : ∀ ls : Array Slot, (0 ≤ x.1 ∧ x.1 < 33) → lv_has ls 5 [(1, .ref (q.1 28 x.1)), (2, .int x.2.1), (3, .int x.2.2.1), (4, .int x.2.2.2)] → WW X q s 5 ls [] := by
  intro ls hp0 hl
  unfold M_Mo_forget_L5 at h
  refine ww_iload (pc := 5) g.1 d_Mo_forget_5 (lv_at hl 3 rfl) ?_
  refine ww_aload_n (pc := 7) g.1 d_Mo_forget_7 rfl (lv_at hl 0 rfl) ?_
  refine ww_gI (pc := 8) g (k := 3) cl_Th (pt rfl rfl hp0) (by decide) (Or.inl kw_104) (f := 3587) rfl rfl d_Mo_forget_8 h fun v8 h => ?_
  refine ww_icmp_ge (pc := 11) (tgt := 47) g.1 d_Mo_forget_11 (by decide) h (fun c h => ?_) (fun c h => ?_)
  · rw [oR_eq h] at hR
    exact hR ls hp0 (lv_sub hl [0, 2] rfl)
  · refine ww_aload_n (pc := 14) g.1 d_Mo_forget_14 rfl (lv_at hl 0 rfl) ?_
    refine ww_gR (pc := 15) g (k := 10) cl_Th (pt rfl rfl hp0) (by decide) (Or.inl kw_105) (f := 3594) (t := 29) rfl rfl rfl d_Mo_forget_15 ?_
    refine ww_iload (pc := 18) g.1 d_Mo_forget_18 (lv_at hl 3 rfl) ?_
    refine ww_ai (pc := 20) g (pt rfl rfl hp0) rfl rfl d_Mo_forget_20 h fun v20 h => ?_
    refine ww_iload_n (pc := 21) g.1 d_Mo_forget_21 rfl (lv_at hl 1 rfl) ?_
    refine ww_icmp_eq (pc := 22) (tgt := 41) g.1 d_Mo_forget_22 (by decide) h (fun c h => ?_) (fun c h => ?_)
    · exact j_Mo_forget_j41 g hR x.1 x.2.1 x.2.2.1 x.2.2.2 s hp0 ls (lv_sub hl [0, 1, 2, 3] rfl) h
    · refine ww_aload_n (pc := 25) g.1 d_Mo_forget_25 rfl (lv_at hl 0 rfl) ?_
      refine ww_gR (pc := 26) g (k := 10) cl_Th (pt rfl rfl hp0) (by decide) (Or.inl kw_105) (f := 3594) (t := 29) rfl rfl rfl d_Mo_forget_26 ?_
      refine ww_iload_n (pc := 29) g.1 d_Mo_forget_29 rfl (lv_at hl 2 rfl) ?_
      refine ww_iinc (pc := 30) g.1 (v := x.2.2.1 + 1) (lv' := [(3, .int (x.2.2.1 + 1)), (1, .ref (q.1 28 x.1)), (2, .int x.2.1), (4, .int x.2.2.2)]) d_Mo_forget_30 hl (k := 2) rfl (by rfl) (by decide) rfl fun ls hl => ?_
      refine ww_aload_n (pc := 33) g.1 d_Mo_forget_33 rfl (lv_at hl 1 rfl) ?_
      refine ww_gR (pc := 34) g (k := 10) cl_Th (pt rfl rfl hp0) (by decide) (Or.inl kw_105) (f := 3594) (t := 29) rfl rfl rfl d_Mo_forget_34 ?_
      refine ww_iload (pc := 37) g.1 d_Mo_forget_37 (lv_at hl 3 rfl) ?_
      refine ww_ai (pc := 39) g (pt rfl rfl hp0) rfl rfl d_Mo_forget_39 h fun v39 h => ?_
      refine ww_si (pc := 40) g (pt rfl rfl hp0) rfl rfl d_Mo_forget_40 h fun s hs h => ?_
      exact j_Mo_forget_j41 g hR x.1 x.2.1 (x.2.2.1 + 1) x.2.2.2 s hp0 ls (lv_sub hl [1, 2, 0, 3] rfl) h

theorem ct_Mo_forget {l : Launch} {P : PP} {q : PL} {s s' : S1} {l1 : Int32} {l2 : Int32} (hp0 : 0 ≤ l1 ∧ l1 < 33) {r : Unit} (h : M_Mo_forget l1 l2 s = some (r, s')) : Ct l y_Mo_forget b_Mo_forget 5 none 0 0 P q s [.ref (q.1 0 0), .ref (q.1 28 l1), .int l2] none q s' := by
  refine ct_of (by decide) (Nat.le_of_ble_eq_true rfl) fun X ls eP el g hR hl => ?_
  subst eP
  have hR : Rt X q ((r, s') : Unit × S1).2 none := hR
  have hl : lv_has ls 5 [(0, .ref (q.1 0 0)), (1, .ref (q.1 28 l1)), (2, .int l2)] := hl
  generalize (r, s') = o at h hR
  unfold M_Mo_forget at h
  refine ww_iconst (pc := 0) g.1 (v := 0) d_Mo_forget_0 (by decide) ?_
  refine ww_istore_n (pc := 1) (i := 3) g.1 (lv' := [(3, .int 0), (0, .ref (q.1 0 0)), (1, .ref (q.1 28 l1)), (2, .int l2)]) d_Mo_forget_1 rfl hl (by decide) rfl fun ls hl => ?_
  refine ww_iconst (pc := 2) g.1 (v := 0) d_Mo_forget_2 (by decide) ?_
  refine ww_istore (pc := 3) (i := 4) g.1 (lv' := [(4, .int 0), (3, .int 0), (0, .ref (q.1 0 0)), (1, .ref (q.1 28 l1)), (2, .int l2)]) d_Mo_forget_3 hl (by decide) rfl fun ls hl => ?_
  obtain ⟨e5, s1, hw, h⟩ := oB_of h
  refine oW_rule (Wh := fun (x : Int32 × Int32 × Int32 × Int32) (s : S1) => ∀ ls : Array Slot, (0 ≤ x.1 ∧ x.1 < 33) → lv_has ls 5 [(1, .ref (q.1 28 x.1)), (2, .int x.2.1), (3, .int x.2.2.1), (4, .int x.2.2.2)] → WW X q s 5 ls []) (We := fun (e : (Int32 × Int32)) (s : S1) => ∀ ls : Array Slot, (0 ≤ e.1 ∧ e.1 < 33) → lv_has ls 5 [(1, .ref (q.1 28 e.1)), (3, .int e.2)] → WW X q s 47 ls []) (fun x s o hb hc => lp_Mo_forget_L5 (q := q) g x s o hb hc) hw ?_ ls hp0 (lv_sub hl [3, 4, 1, 0] rfl)
  clear hw hl
  clear ls
  intro ls hq5_0 hl
  generalize s1 = s at h ⊢
  refine ww_aload_n (pc := 47) g.1 d_Mo_forget_47 rfl (lv_at hl 0 rfl) ?_
  refine ww_iload_n (pc := 48) g.1 d_Mo_forget_48 rfl (lv_at hl 1 rfl) ?_
  refine ww_pI (pc := 49) g (k := 3) cl_Th (pt rfl rfl hq5_0) (by decide) (Or.inl kw_104) rfl (f := 3587) rfl rfl rfl rfl d_Mo_forget_49 h fun s hs h => ?_
  exact ww_vretH (pc := 52) g h hR d_Mo_forget_52

abbrev b_Mo_object : ByteArray := prog_14_method_28_code
def y_Mo_object : MethodName := ⟨R_Mo, "object", "(I)I"⟩
abbrev w_Mo_object : List Cond := .code y_Mo_object b_Mo_object 3 (some .int) :: wA
theorem k_Mo_object : Cond.code y_Mo_object b_Mo_object 3 (some .int) ∈ wA := kinm (show _ ∈ tables_1 from (List.mem_append_right _ (List.mem_append_right _ (List.mem_append_right _ (List.mem_append_right _ (List.mem_append_right _ (List.mem_append_right _ (List.mem_append_right _ (List.mem_append_right _ (List.mem_append_right _ (List.mem_append_right _ (List.mem_append_right _ (List.mem_append_left _ (List.mem_of_getElem? (l := tables_1_12) (i := 61) (by decide +kernel))))))))))))))) (by decide +kernel)
theorem d_Mo_object_0 : decode b_Mo_object 0 = .ok (.aload_n 0, 1) := by decide +kernel
theorem d_Mo_object_1 : decode b_Mo_object 1 = .ok (.getfield 183, 3) := by decide +kernel
theorem d_Mo_object_4 : decode b_Mo_object 4 = .ok (.ifCond .le 22, 3) := by decide +kernel
theorem d_Mo_object_7 : decode b_Mo_object 7 = .ok (.aload_n 0, 1) := by decide +kernel
theorem d_Mo_object_8 : decode b_Mo_object 8 = .ok (.getfield 180, 3) := by decide +kernel
theorem d_Mo_object_11 : decode b_Mo_object 11 = .ok (.aload_n 0, 1) := by decide +kernel
theorem d_Mo_object_12 : decode b_Mo_object 12 = .ok (.dup, 1) := by decide +kernel
theorem d_Mo_object_13 : decode b_Mo_object 13 = .ok (.getfield 183, 3) := by decide +kernel
theorem d_Mo_object_16 : decode b_Mo_object 16 = .ok (.iconst 1, 1) := by decide +kernel
theorem d_Mo_object_17 : decode b_Mo_object 17 = .ok (.isub, 1) := by decide +kernel
theorem d_Mo_object_18 : decode b_Mo_object 18 = .ok (.dup_x1, 1) := by decide +kernel
theorem d_Mo_object_19 : decode b_Mo_object 19 = .ok (.putfield 183, 3) := by decide +kernel
theorem d_Mo_object_22 : decode b_Mo_object 22 = .ok (.iaload, 1) := by decide +kernel
theorem d_Mo_object_23 : decode b_Mo_object 23 = .ok (.goto 14, 3) := by decide +kernel
theorem d_Mo_object_26 : decode b_Mo_object 26 = .ok (.aload_n 0, 1) := by decide +kernel
theorem d_Mo_object_27 : decode b_Mo_object 27 = .ok (.dup, 1) := by decide +kernel
theorem d_Mo_object_28 : decode b_Mo_object 28 = .ok (.getfield 140, 3) := by decide +kernel
theorem d_Mo_object_31 : decode b_Mo_object 31 = .ok (.dup_x1, 1) := by decide +kernel
theorem d_Mo_object_32 : decode b_Mo_object 32 = .ok (.iconst 1, 1) := by decide +kernel
theorem d_Mo_object_33 : decode b_Mo_object 33 = .ok (.iadd, 1) := by decide +kernel
theorem d_Mo_object_34 : decode b_Mo_object 34 = .ok (.putfield 140, 3) := by decide +kernel
theorem d_Mo_object_37 : decode b_Mo_object 37 = .ok (.istore_n 2, 1) := by decide +kernel
theorem d_Mo_object_38 : decode b_Mo_object 38 = .ok (.aload_n 0, 1) := by decide +kernel
theorem d_Mo_object_39 : decode b_Mo_object 39 = .ok (.getfield 155, 3) := by decide +kernel
theorem d_Mo_object_42 : decode b_Mo_object 42 = .ok (.iload_n 2, 1) := by decide +kernel
theorem d_Mo_object_43 : decode b_Mo_object 43 = .ok (.iload_n 1, 1) := by decide +kernel
theorem d_Mo_object_44 : decode b_Mo_object 44 = .ok (.i2b, 1) := by decide +kernel
theorem d_Mo_object_45 : decode b_Mo_object 45 = .ok (.bastore, 1) := by decide +kernel
theorem d_Mo_object_46 : decode b_Mo_object 46 = .ok (.aload_n 0, 1) := by decide +kernel
theorem d_Mo_object_47 : decode b_Mo_object 47 = .ok (.getfield 162, 3) := by decide +kernel
theorem d_Mo_object_50 : decode b_Mo_object 50 = .ok (.iload_n 2, 1) := by decide +kernel
theorem d_Mo_object_51 : decode b_Mo_object 51 = .ok (.iconst 0, 1) := by decide +kernel
theorem d_Mo_object_52 : decode b_Mo_object 52 = .ok (.bastore, 1) := by decide +kernel
theorem d_Mo_object_53 : decode b_Mo_object 53 = .ok (.aload_n 0, 1) := by decide +kernel
theorem d_Mo_object_54 : decode b_Mo_object 54 = .ok (.getfield 165, 3) := by decide +kernel
theorem d_Mo_object_57 : decode b_Mo_object 57 = .ok (.iload_n 2, 1) := by decide +kernel
theorem d_Mo_object_58 : decode b_Mo_object 58 = .ok (.aload_n 0, 1) := by decide +kernel
theorem d_Mo_object_59 : decode b_Mo_object 59 = .ok (.dup, 1) := by decide +kernel
theorem d_Mo_object_60 : decode b_Mo_object 60 = .ok (.getfield 119, 3) := by decide +kernel
theorem d_Mo_object_63 : decode b_Mo_object 63 = .ok (.dup_x1, 1) := by decide +kernel
theorem d_Mo_object_64 : decode b_Mo_object 64 = .ok (.iconst 1, 1) := by decide +kernel
theorem d_Mo_object_65 : decode b_Mo_object 65 = .ok (.iadd, 1) := by decide +kernel
theorem d_Mo_object_66 : decode b_Mo_object 66 = .ok (.putfield 119, 3) := by decide +kernel
theorem d_Mo_object_69 : decode b_Mo_object 69 = .ok (.iastore, 1) := by decide +kernel
theorem d_Mo_object_70 : decode b_Mo_object 70 = .ok (.aload_n 0, 1) := by decide +kernel
theorem d_Mo_object_71 : decode b_Mo_object 71 = .ok (.dup, 1) := by decide +kernel
theorem d_Mo_object_72 : decode b_Mo_object 72 = .ok (.getfield 146, 3) := by decide +kernel
theorem d_Mo_object_75 : decode b_Mo_object 75 = .ok (.iconst 1, 1) := by decide +kernel
theorem d_Mo_object_76 : decode b_Mo_object 76 = .ok (.iadd, 1) := by decide +kernel
theorem d_Mo_object_77 : decode b_Mo_object 77 = .ok (.putfield 146, 3) := by decide +kernel
theorem d_Mo_object_80 : decode b_Mo_object 80 = .ok (.aload_n 0, 1) := by decide +kernel
theorem d_Mo_object_81 : decode b_Mo_object 81 = .ok (.dup, 1) := by decide +kernel
theorem d_Mo_object_82 : decode b_Mo_object 82 = .ok (.getfield 122, 3) := by decide +kernel
theorem d_Mo_object_85 : decode b_Mo_object 85 = .ok (.iconst 1, 1) := by decide +kernel
theorem d_Mo_object_86 : decode b_Mo_object 86 = .ok (.iadd, 1) := by decide +kernel
theorem d_Mo_object_87 : decode b_Mo_object 87 = .ok (.putfield 122, 3) := by decide +kernel
theorem d_Mo_object_90 : decode b_Mo_object 90 = .ok (.iload_n 2, 1) := by decide +kernel
theorem d_Mo_object_91 : decode b_Mo_object 91 = .ok (.ireturn, 1) := by decide +kernel
theorem kw_108 : Cond.fieldLink R_Mo 183 "LuaMachineModel" "freed" "I" ∈ wA := kinm (show _ ∈ tables_1 from (List.mem_append_right _ (List.mem_append_right _ (List.mem_append_right _ (List.mem_append_right _ (List.mem_append_right _ (List.mem_append_right _ (List.mem_append_right _ (List.mem_append_right _ (List.mem_append_right _ (List.mem_append_left _ (List.mem_of_getElem? (l := tables_1_10) (i := 110) (by decide +kernel))))))))))))) (by decide +kernel)
theorem kw_109 : Cond.fieldLink R_Mo 140 "LuaMachineModel" "used" "I" ∈ wA := kinm (show _ ∈ tables_1 from (List.mem_append_right _ (List.mem_append_right _ (List.mem_append_right _ (List.mem_append_right _ (List.mem_append_right _ (List.mem_append_right _ (List.mem_append_right _ (List.mem_append_right _ (List.mem_append_right _ (List.mem_append_left _ (List.mem_of_getElem? (l := tables_1_10) (i := 95) (by decide +kernel))))))))))))) (by decide +kernel)
theorem kw_110 : Cond.fieldLink R_Mo 155 "LuaMachineModel" "sort" "[B" ∈ wA := kinm (show _ ∈ tables_1 from (List.mem_append_right _ (List.mem_append_right _ (List.mem_append_right _ (List.mem_append_right _ (List.mem_append_right _ (List.mem_append_right _ (List.mem_append_right _ (List.mem_append_right _ (List.mem_append_right _ (List.mem_append_left _ (List.mem_of_getElem? (l := tables_1_10) (i := 100) (by decide +kernel))))))))))))) (by decide +kernel)
theorem kw_111 : Cond.fieldLink R_Mo 162 "LuaMachineModel" "fixed" "[Z" ∈ wA := kinm (show _ ∈ tables_1 from (List.mem_append_right _ (List.mem_append_right _ (List.mem_append_right _ (List.mem_append_right _ (List.mem_append_right _ (List.mem_append_right _ (List.mem_append_right _ (List.mem_append_right _ (List.mem_append_right _ (List.mem_append_left _ (List.mem_of_getElem? (l := tables_1_10) (i := 102) (by decide +kernel))))))))))))) (by decide +kernel)
theorem kw_112 : Cond.fieldLink R_Mo 165 "LuaMachineModel" "tag" "[I" ∈ wA := kinm (show _ ∈ tables_1 from (List.mem_append_right _ (List.mem_append_right _ (List.mem_append_right _ (List.mem_append_right _ (List.mem_append_right _ (List.mem_append_right _ (List.mem_append_right _ (List.mem_append_right _ (List.mem_append_right _ (List.mem_append_left _ (List.mem_of_getElem? (l := tables_1_10) (i := 103) (by decide +kernel))))))))))))) (by decide +kernel)
theorem kw_113 : Cond.fieldLink R_Mo 119 "LuaMachineModel" "made" "I" ∈ wA := kinm (show _ ∈ tables_1 from (List.mem_append_right _ (List.mem_append_right _ (List.mem_append_right _ (List.mem_append_right _ (List.mem_append_right _ (List.mem_append_right _ (List.mem_append_right _ (List.mem_append_right _ (List.mem_append_right _ (List.mem_append_left _ (List.mem_of_getElem? (l := tables_1_10) (i := 88) (by decide +kernel))))))))))))) (by decide +kernel)
theorem kw_114 : Cond.fieldLink R_Mo 146 "LuaMachineModel" "madeAll" "I" ∈ wA := kinm (show _ ∈ tables_1 from (List.mem_append_right _ (List.mem_append_right _ (List.mem_append_right _ (List.mem_append_right _ (List.mem_append_right _ (List.mem_append_right _ (List.mem_append_right _ (List.mem_append_right _ (List.mem_append_right _ (List.mem_append_left _ (List.mem_of_getElem? (l := tables_1_10) (i := 97) (by decide +kernel))))))))))))) (by decide +kernel)
theorem kw_115 : Cond.fieldLink R_Mo 122 "LuaMachineModel" "existing" "I" ∈ wA := kinm (show _ ∈ tables_1 from (List.mem_append_right _ (List.mem_append_right _ (List.mem_append_right _ (List.mem_append_right _ (List.mem_append_right _ (List.mem_append_right _ (List.mem_append_right _ (List.mem_append_right _ (List.mem_append_right _ (List.mem_append_left _ (List.mem_of_getElem? (l := tables_1_10) (i := 89) (by decide +kernel))))))))))))) (by decide +kernel)
theorem kw_116 : Cond.fieldLink R_Mo 180 "LuaMachineModel" "free" "[I" ∈ wA := kinm (show _ ∈ tables_1 from (List.mem_append_right _ (List.mem_append_right _ (List.mem_append_right _ (List.mem_append_right _ (List.mem_append_right _ (List.mem_append_right _ (List.mem_append_right _ (List.mem_append_right _ (List.mem_append_right _ (List.mem_append_left _ (List.mem_of_getElem? (l := tables_1_10) (i := 109) (by decide +kernel))))))))))))) (by decide +kernel)
theorem kw_117 : Cond.instanceMethod y_Mo_object ∈ wA := kinm (show _ ∈ tables_1 from (List.mem_append_right _ (List.mem_append_right _ (List.mem_append_right _ (List.mem_append_right _ (List.mem_append_right _ (List.mem_append_right _ (List.mem_append_right _ (List.mem_append_right _ (List.mem_append_right _ (List.mem_append_right _ (List.mem_append_right _ (List.mem_append_left _ (List.mem_of_getElem? (l := tables_1_12) (i := 60) (by decide +kernel))))))))))))))) (by decide +kernel)
theorem kw_118 : Cond.selects R_Mo y_Mo_object y_Mo_object ∈ wA := kinp 141 (by decide +kernel) (by decide +kernel)
theorem cv_Mo_object : CV y_Mo_object b_Mo_object 3 (some .int) 1 := ⟨kw_117, kw_118, kw_17, k_Mo_object, by decide +kernel⟩
theorem j_Mo_object_j37 {X : Cx} {q : PL} (g : Gd X y_Mo_object b_Mo_object 3 (some .int) 0 0 R_Mo) {o : (Int32) × S1} (hR : Rt X q o.2 (some (.int o.1))) (l1 : Int32) (k0 : Int32) (s : S1) (ls : Array Slot) (hl : lv_has ls 3 [(0, .ref (q.1 0 0)), (1, .int l1)]) (h : M_Mo_object_j37 l1 k0 s = some o) : WW X q s 37 ls [.int k0] := by
  unfold M_Mo_object_j37 at h
  refine ww_istore_n (pc := 37) (i := 2) g.1 (lv' := [(2, .int k0), (0, .ref (q.1 0 0)), (1, .int l1)]) d_Mo_object_37 rfl hl (by decide) rfl fun ls hl => ?_
  refine ww_aload_n (pc := 38) g.1 d_Mo_object_38 rfl (lv_at hl 1 rfl) ?_
  refine ww_gR (pc := 39) g (k := 45) cl_Mo (pz rfl (by decide)) (by decide) (Or.inl kw_110) (f := 45) (t := 58) rfl rfl rfl d_Mo_object_39 ?_
  refine ww_iload_n (pc := 42) g.1 d_Mo_object_42 rfl (lv_at hl 0 rfl) ?_
  refine ww_iload_n (pc := 43) g.1 d_Mo_object_43 rfl (lv_at hl 2 rfl) ?_
  refine ww_i2b (pc := 44) g.1 (v := l1.toInt8.toInt32) d_Mo_object_44 rfl ?_
  refine ww_sb (pc := 45) g (pz rfl (by decide)) rfl rfl d_Mo_object_45 h fun s hs h => ?_
  refine ww_aload_n (pc := 46) g.1 d_Mo_object_46 rfl (lv_at hl 1 rfl) ?_
  refine ww_gR (pc := 47) g (k := 47) cl_Mo (pz rfl (by decide)) (by decide) (Or.inl kw_111) (f := 47) (t := 60) rfl rfl rfl d_Mo_object_47 ?_
  refine ww_iload_n (pc := 50) g.1 d_Mo_object_50 rfl (lv_at hl 0 rfl) ?_
  refine ww_iconst (pc := 51) g.1 (v := 0) d_Mo_object_51 (by decide) ?_
  refine ww_sz (pc := 52) g (pz rfl (by decide)) rfl rfl d_Mo_object_52 h fun s hs h => ?_
  refine ww_aload_n (pc := 53) g.1 d_Mo_object_53 rfl (lv_at hl 1 rfl) ?_
  refine ww_gR (pc := 54) g (k := 48) cl_Mo (pz rfl (by decide)) (by decide) (Or.inl kw_112) (f := 48) (t := 61) rfl rfl rfl d_Mo_object_54 ?_
  refine ww_iload_n (pc := 57) g.1 d_Mo_object_57 rfl (lv_at hl 0 rfl) ?_
  refine ww_aload_n (pc := 58) g.1 d_Mo_object_58 rfl (lv_at hl 1 rfl) ?_
  refine ww_dup (pc := 59) g.1 d_Mo_object_59 rfl ?_
  refine ww_gI (pc := 60) g (k := 33) cl_Mo (pz rfl (by decide)) (by decide) (Or.inl kw_113) (f := 33) rfl rfl d_Mo_object_60 h fun v60 h => ?_
  refine ww_dup_x1 (pc := 63) g.1 d_Mo_object_63 rfl rfl ?_
  refine ww_iconst (pc := 64) g.1 (v := 1) d_Mo_object_64 (by decide) ?_
  refine ww_iadd (pc := 65) g.1 d_Mo_object_65 ?_
  refine ww_pI (pc := 66) g (k := 33) cl_Mo (pz rfl (by decide)) (by decide) (Or.inl kw_113) rfl (f := 33) rfl rfl rfl rfl d_Mo_object_66 h fun s hs h => ?_
  refine ww_si (pc := 69) g (pz rfl (by decide)) rfl rfl d_Mo_object_69 h fun s hs h => ?_
  refine ww_aload_n (pc := 70) g.1 d_Mo_object_70 rfl (lv_at hl 1 rfl) ?_
  refine ww_dup (pc := 71) g.1 d_Mo_object_71 rfl ?_
  refine ww_gI (pc := 72) g (k := 42) cl_Mo (pz rfl (by decide)) (by decide) (Or.inl kw_114) (f := 42) rfl rfl d_Mo_object_72 h fun v72 h => ?_
  refine ww_iconst (pc := 75) g.1 (v := 1) d_Mo_object_75 (by decide) ?_
  refine ww_iadd (pc := 76) g.1 d_Mo_object_76 ?_
  refine ww_pI (pc := 77) g (k := 42) cl_Mo (pz rfl (by decide)) (by decide) (Or.inl kw_114) rfl (f := 42) rfl rfl rfl rfl d_Mo_object_77 h fun s hs h => ?_
  refine ww_aload_n (pc := 80) g.1 d_Mo_object_80 rfl (lv_at hl 1 rfl) ?_
  refine ww_dup (pc := 81) g.1 d_Mo_object_81 rfl ?_
  refine ww_gI (pc := 82) g (k := 34) cl_Mo (pz rfl (by decide)) (by decide) (Or.inl kw_115) (f := 34) rfl rfl d_Mo_object_82 h fun v82 h => ?_
  refine ww_iconst (pc := 85) g.1 (v := 1) d_Mo_object_85 (by decide) ?_
  refine ww_iadd (pc := 86) g.1 d_Mo_object_86 ?_
  refine ww_pI (pc := 87) g (k := 34) cl_Mo (pz rfl (by decide)) (by decide) (Or.inl kw_115) rfl (f := 34) rfl rfl rfl rfl d_Mo_object_87 h fun s hs h => ?_
  refine ww_iload_n (pc := 90) g.1 d_Mo_object_90 rfl (lv_at hl 0 rfl) ?_
  exact ww_iretH (pc := 91) g h hR d_Mo_object_91

theorem ct_Mo_object {l : Launch} {P : PP} {q : PL} {s s' : S1} {l1 : Int32} {r : Int32} (h : M_Mo_object l1 s = some (r, s')) : Ct l y_Mo_object b_Mo_object 3 (some .int) 0 0 P q s [.ref (q.1 0 0), .int l1] (some (.int r)) q s' := by
  refine ct_of (by decide) (Nat.le_of_ble_eq_true rfl) fun X ls eP el g hR hl => ?_
  subst eP
  have hR : Rt X q ((r, s') : Int32 × S1).2 (some (.int ((r, s') : Int32 × S1).1)) := hR
  have hl : lv_has ls 3 [(0, .ref (q.1 0 0)), (1, .int l1)] := hl
  generalize (r, s') = o at h hR
  unfold M_Mo_object at h
  refine ww_aload_n (pc := 0) g.1 d_Mo_object_0 rfl (lv_at hl 0 rfl) ?_
  refine ww_gI (pc := 1) g (k := 54) cl_Mo (pz rfl (by decide)) (by decide) (Or.inl kw_108) (f := 54) rfl rfl d_Mo_object_1 h fun v1 h => ?_
  refine ww_if_le (pc := 4) (tgt := 26) g.1 d_Mo_object_4 (by decide) h (fun c h => ?_) (fun c h => ?_)
  · refine ww_aload_n (pc := 26) g.1 d_Mo_object_26 rfl (lv_at hl 0 rfl) ?_
    refine ww_dup (pc := 27) g.1 d_Mo_object_27 rfl ?_
    refine ww_gI (pc := 28) g (k := 40) cl_Mo (pz rfl (by decide)) (by decide) (Or.inl kw_109) (f := 40) rfl rfl d_Mo_object_28 h fun v28 h => ?_
    refine ww_dup_x1 (pc := 31) g.1 d_Mo_object_31 rfl rfl ?_
    refine ww_iconst (pc := 32) g.1 (v := 1) d_Mo_object_32 (by decide) ?_
    refine ww_iadd (pc := 33) g.1 d_Mo_object_33 ?_
    refine ww_pI (pc := 34) g (k := 40) cl_Mo (pz rfl (by decide)) (by decide) (Or.inl kw_109) rfl (f := 40) rfl rfl rfl rfl d_Mo_object_34 h fun s hs h => ?_
    exact j_Mo_object_j37 g hR l1 v28 s ls (lv_sub hl [0, 1] rfl) h
  · refine ww_aload_n (pc := 7) g.1 d_Mo_object_7 rfl (lv_at hl 0 rfl) ?_
    refine ww_gR (pc := 8) g (k := 53) cl_Mo (pz rfl (by decide)) (by decide) (Or.inl kw_116) (f := 53) (t := 66) rfl rfl rfl d_Mo_object_8 ?_
    refine ww_aload_n (pc := 11) g.1 d_Mo_object_11 rfl (lv_at hl 0 rfl) ?_
    refine ww_dup (pc := 12) g.1 d_Mo_object_12 rfl ?_
    refine ww_gI (pc := 13) g (k := 54) cl_Mo (pz rfl (by decide)) (by decide) (Or.inl kw_108) (f := 54) rfl rfl d_Mo_object_13 h fun v13 h => ?_
    refine ww_iconst (pc := 16) g.1 (v := 1) d_Mo_object_16 (by decide) ?_
    refine ww_isub (pc := 17) g.1 d_Mo_object_17 ?_
    refine ww_dup_x1 (pc := 18) g.1 d_Mo_object_18 rfl rfl ?_
    refine ww_pI (pc := 19) g (k := 54) cl_Mo (pz rfl (by decide)) (by decide) (Or.inl kw_108) rfl (f := 54) rfl rfl rfl rfl d_Mo_object_19 h fun s hs h => ?_
    refine ww_ai (pc := 22) g (pz rfl (by decide)) rfl rfl d_Mo_object_22 h fun v22 h => ?_
    refine ww_goto (pc := 23) (tgt := 37) g.1 d_Mo_object_23 (by decide) ?_
    exact j_Mo_object_j37 g hR l1 v22 s ls (lv_sub hl [0, 1] rfl) h

abbrev b_Mo_slot : ByteArray := prog_14_method_32_code
def y_Mo_slot : MethodName := ⟨R_Mo, "slot", "(IIJ)I"⟩
abbrev w_Mo_slot : List Cond := .code y_Mo_slot b_Mo_slot 5 (some .int) :: wA
theorem k_Mo_slot : Cond.code y_Mo_slot b_Mo_slot 5 (some .int) ∈ wA := kinm (show _ ∈ tables_1 from (List.mem_append_right _ (List.mem_append_right _ (List.mem_append_right _ (List.mem_append_right _ (List.mem_append_right _ (List.mem_append_right _ (List.mem_append_right _ (List.mem_append_right _ (List.mem_append_right _ (List.mem_append_right _ (List.mem_append_right _ (List.mem_append_left _ (List.mem_of_getElem? (l := tables_1_12) (i := 92) (by decide +kernel))))))))))))))) (by decide +kernel)
theorem d_Mo_slot_0 : decode b_Mo_slot 0 = .ok (.lload_n 3, 1) := by decide +kernel
theorem d_Mo_slot_1 : decode b_Mo_slot 1 = .ok (.ldc2_w 540, 3) := by decide +kernel
theorem d_Mo_slot_4 : decode b_Mo_slot 4 = .ok (.lmul, 1) := by decide +kernel
theorem d_Mo_slot_5 : decode b_Mo_slot 5 = .ok (.iload_n 2, 1) := by decide +kernel
theorem d_Mo_slot_6 : decode b_Mo_slot 6 = .ok (.i2l, 1) := by decide +kernel
theorem d_Mo_slot_7 : decode b_Mo_slot 7 = .ok (.ladd, 1) := by decide +kernel
theorem d_Mo_slot_8 : decode b_Mo_slot 8 = .ok (.lload_n 3, 1) := by decide +kernel
theorem d_Mo_slot_9 : decode b_Mo_slot 9 = .ok (.bipush 17, 2) := by decide +kernel
theorem d_Mo_slot_11 : decode b_Mo_slot 11 = .ok (.lushr, 1) := by decide +kernel
theorem d_Mo_slot_12 : decode b_Mo_slot 12 = .ok (.ladd, 1) := by decide +kernel
theorem d_Mo_slot_13 : decode b_Mo_slot 13 = .ok (.iload_n 1, 1) := by decide +kernel
theorem d_Mo_slot_14 : decode b_Mo_slot 14 = .ok (.i2l, 1) := by decide +kernel
theorem d_Mo_slot_15 : decode b_Mo_slot 15 = .ok (.invokestatic 542, 3) := by decide +kernel
theorem d_Mo_slot_18 : decode b_Mo_slot 18 = .ok (.l2i, 1) := by decide +kernel
theorem d_Mo_slot_19 : decode b_Mo_slot 19 = .ok (.ireturn, 1) := by decide +kernel
theorem kw_119 : Cond.constantLong R_Mo 540 31 ∈ wA := kinm (show _ ∈ tables_1 from (List.mem_append_right _ (List.mem_append_right _ (List.mem_append_right _ (List.mem_append_right _ (List.mem_append_right _ (List.mem_append_right _ (List.mem_append_right _ (List.mem_append_right _ (List.mem_append_right _ (List.mem_append_right _ (List.mem_append_right _ (List.mem_append_left _ (List.mem_of_getElem? (l := tables_1_12) (i := 93) (by decide +kernel))))))))))))))) (by decide +kernel)
theorem kw_120 : Cond.methodLink R_Mo 542 y_Mth_floorMod ∈ wA := kinm (show _ ∈ tables_1 from (List.mem_append_right _ (List.mem_append_right _ (List.mem_append_right _ (List.mem_append_right _ (List.mem_append_right _ (List.mem_append_right _ (List.mem_append_right _ (List.mem_append_right _ (List.mem_append_right _ (List.mem_append_right _ (List.mem_append_right _ (List.mem_append_left _ (List.mem_of_getElem? (l := tables_1_12) (i := 94) (by decide +kernel))))))))))))))) (by decide +kernel)
theorem kw_121 : Cond.instanceMethod y_Mo_slot ∈ wA := kinm (show _ ∈ tables_1 from (List.mem_append_right _ (List.mem_append_right _ (List.mem_append_right _ (List.mem_append_right _ (List.mem_append_right _ (List.mem_append_right _ (List.mem_append_right _ (List.mem_append_right _ (List.mem_append_right _ (List.mem_append_right _ (List.mem_append_right _ (List.mem_append_left _ (List.mem_of_getElem? (l := tables_1_12) (i := 91) (by decide +kernel))))))))))))))) (by decide +kernel)
theorem kw_122 : Cond.selects R_Mo y_Mo_slot y_Mo_slot ∈ wA := kinp 148 (by decide +kernel) (by decide +kernel)
theorem cv_Mo_slot : CV y_Mo_slot b_Mo_slot 5 (some .int) 3 := ⟨kw_121, kw_122, kw_17, k_Mo_slot, by decide +kernel⟩
theorem ct_Mo_slot {l : Launch} {P : PP} {q : PL} {s s' : S1} {l1 : Int32} {l2 : Int32} {l3 : Int64} {r : Int32} (h : M_Mo_slot l1 l2 l3 s = some (r, s')) : Ct l y_Mo_slot b_Mo_slot 5 (some .int) 1 25 P q s [.ref (q.1 0 0), .int l1, .int l2, .long l3] (some (.int r)) q s' := by
  refine ct_of (by decide) (Nat.le_of_ble_eq_true rfl) fun X ls eP el g hR hl => ?_
  subst eP
  have hR : Rt X q ((r, s') : Int32 × S1).2 (some (.int ((r, s') : Int32 × S1).1)) := hR
  have hl : lv_has ls 5 [(0, .ref (q.1 0 0)), (1, .int l1), (2, .int l2), (3, .long l3)] := hl
  generalize (r, s') = o at h hR
  unfold M_Mo_slot at h
  refine ww_lload_n (pc := 0) g.1 d_Mo_slot_0 rfl (lv_at hl 3 rfl) ?_
  refine ww_ldc2 (pc := 1) g (v := 31) kw_119 d_Mo_slot_1 ?_
  refine ww_lmul (pc := 4) g.1 d_Mo_slot_4 ?_
  refine ww_iload_n (pc := 5) g.1 d_Mo_slot_5 rfl (lv_at hl 2 rfl) ?_
  refine ww_i2l (pc := 6) g.1 (v := l2.toInt64) d_Mo_slot_6 rfl ?_
  refine ww_ladd (pc := 7) g.1 d_Mo_slot_7 ?_
  refine ww_lload_n (pc := 8) g.1 d_Mo_slot_8 rfl (lv_at hl 3 rfl) ?_
  refine ww_bipush (pc := 9) g.1 (v := 17) d_Mo_slot_9 (by decide) ?_
  refine ww_lushr (pc := 11) g.1 (v := lushr l3 (17 : Int32)) d_Mo_slot_11 rfl ?_
  refine ww_ladd (pc := 12) g.1 d_Mo_slot_12 ?_
  refine ww_iload_n (pc := 13) g.1 d_Mo_slot_13 rfl (lv_at hl 1 rfl) ?_
  refine ww_i2l (pc := 14) g.1 (v := l1.toInt64) d_Mo_slot_14 rfl ?_
  obtain ⟨v15, s, hc15, h⟩ := oB_of h
  refine ww_callS (pc := 15) (rest := []) g cs_Mth_floorMod (Or.inl kw_120) (ct_Mth_floorMod hc15) ⟨by decide, by decide⟩ rfl hl.1 (Nat.le_of_ble_eq_true rfl) d_Mo_slot_15 rfl ?_
  refine ww_st (st' := [.long v15]) rfl ?_
  refine ww_l2i (pc := 18) g.1 (v := v15.toInt32) d_Mo_slot_18 rfl ?_
  exact ww_iretH (pc := 19) g h hR d_Mo_slot_19

abbrev b_Mo_append : ByteArray := prog_14_method_35_code
def y_Mo_append : MethodName := ⟨R_Mo, "append", "(IIJIJ)V"⟩
abbrev w_Mo_append : List Cond := .code y_Mo_append b_Mo_append 11 none :: wA
theorem k_Mo_append : Cond.code y_Mo_append b_Mo_append 11 none ∈ wA := kinm (show _ ∈ tables_1 from (List.mem_append_right _ (List.mem_append_right _ (List.mem_append_right _ (List.mem_append_right _ (List.mem_append_right _ (List.mem_append_right _ (List.mem_append_right _ (List.mem_append_right _ (List.mem_append_right _ (List.mem_append_right _ (List.mem_append_right _ (List.mem_append_left _ (List.mem_of_getElem? (l := tables_1_12) (i := 103) (by decide +kernel))))))))))))))) (by decide +kernel)
theorem d_Mo_append_0 : decode b_Mo_append 0 = .ok (.aload_n 0, 1) := by decide +kernel
theorem d_Mo_append_1 : decode b_Mo_append 1 = .ok (.getfield 174, 3) := by decide +kernel
theorem d_Mo_append_4 : decode b_Mo_append 4 = .ok (.iload_n 1, 1) := by decide +kernel
theorem d_Mo_append_5 : decode b_Mo_append 5 = .ok (.dup2, 1) := by decide +kernel
theorem d_Mo_append_6 : decode b_Mo_append 6 = .ok (.iaload, 1) := by decide +kernel
theorem d_Mo_append_7 : decode b_Mo_append 7 = .ok (.dup_x2, 1) := by decide +kernel
theorem d_Mo_append_8 : decode b_Mo_append 8 = .ok (.iconst 1, 1) := by decide +kernel
theorem d_Mo_append_9 : decode b_Mo_append 9 = .ok (.iadd, 1) := by decide +kernel
theorem d_Mo_append_10 : decode b_Mo_append 10 = .ok (.iastore, 1) := by decide +kernel
theorem d_Mo_append_11 : decode b_Mo_append 11 = .ok (.istore 8, 2) := by decide +kernel
theorem d_Mo_append_13 : decode b_Mo_append 13 = .ok (.aload_n 0, 1) := by decide +kernel
theorem d_Mo_append_14 : decode b_Mo_append 14 = .ok (.getfield 168, 3) := by decide +kernel
theorem d_Mo_append_17 : decode b_Mo_append 17 = .ok (.iload_n 1, 1) := by decide +kernel
theorem d_Mo_append_18 : decode b_Mo_append 18 = .ok (.iaload, 1) := by decide +kernel
theorem d_Mo_append_19 : decode b_Mo_append 19 = .ok (.iload 8, 2) := by decide +kernel
theorem d_Mo_append_21 : decode b_Mo_append 21 = .ok (.iadd, 1) := by decide +kernel
theorem d_Mo_append_22 : decode b_Mo_append 22 = .ok (.istore 9, 2) := by decide +kernel
theorem d_Mo_append_24 : decode b_Mo_append 24 = .ok (.aload_n 0, 1) := by decide +kernel
theorem d_Mo_append_25 : decode b_Mo_append 25 = .ok (.getfield 193, 3) := by decide +kernel
theorem d_Mo_append_28 : decode b_Mo_append 28 = .ok (.iload 9, 2) := by decide +kernel
theorem d_Mo_append_30 : decode b_Mo_append 30 = .ok (.iload_n 2, 1) := by decide +kernel
theorem d_Mo_append_31 : decode b_Mo_append 31 = .ok (.i2b, 1) := by decide +kernel
theorem d_Mo_append_32 : decode b_Mo_append 32 = .ok (.bastore, 1) := by decide +kernel
theorem d_Mo_append_33 : decode b_Mo_append 33 = .ok (.aload_n 0, 1) := by decide +kernel
theorem d_Mo_append_34 : decode b_Mo_append 34 = .ok (.getfield 199, 3) := by decide +kernel
theorem d_Mo_append_37 : decode b_Mo_append 37 = .ok (.iload 9, 2) := by decide +kernel
theorem d_Mo_append_39 : decode b_Mo_append 39 = .ok (.lload_n 3, 1) := by decide +kernel
theorem d_Mo_append_40 : decode b_Mo_append 40 = .ok (.lastore, 1) := by decide +kernel
theorem d_Mo_append_41 : decode b_Mo_append 41 = .ok (.aload_n 0, 1) := by decide +kernel
theorem d_Mo_append_42 : decode b_Mo_append 42 = .ok (.getfield 196, 3) := by decide +kernel
theorem d_Mo_append_45 : decode b_Mo_append 45 = .ok (.iload 9, 2) := by decide +kernel
theorem d_Mo_append_47 : decode b_Mo_append 47 = .ok (.iload 5, 2) := by decide +kernel
theorem d_Mo_append_49 : decode b_Mo_append 49 = .ok (.i2b, 1) := by decide +kernel
theorem d_Mo_append_50 : decode b_Mo_append 50 = .ok (.bastore, 1) := by decide +kernel
theorem d_Mo_append_51 : decode b_Mo_append 51 = .ok (.aload_n 0, 1) := by decide +kernel
theorem d_Mo_append_52 : decode b_Mo_append 52 = .ok (.getfield 203, 3) := by decide +kernel
theorem d_Mo_append_55 : decode b_Mo_append 55 = .ok (.iload 9, 2) := by decide +kernel
theorem d_Mo_append_57 : decode b_Mo_append 57 = .ok (.lload 6, 2) := by decide +kernel
theorem d_Mo_append_59 : decode b_Mo_append 59 = .ok (.lastore, 1) := by decide +kernel
theorem d_Mo_append_60 : decode b_Mo_append 60 = .ok (.aload_n 0, 1) := by decide +kernel
theorem d_Mo_append_61 : decode b_Mo_append 61 = .ok (.getfield 168, 3) := by decide +kernel
theorem d_Mo_append_64 : decode b_Mo_append 64 = .ok (.iload_n 1, 1) := by decide +kernel
theorem d_Mo_append_65 : decode b_Mo_append 65 = .ok (.iaload, 1) := by decide +kernel
theorem d_Mo_append_66 : decode b_Mo_append 66 = .ok (.aload_n 0, 1) := by decide +kernel
theorem d_Mo_append_67 : decode b_Mo_append 67 = .ok (.aload_n 0, 1) := by decide +kernel
theorem d_Mo_append_68 : decode b_Mo_append 68 = .ok (.getfield 171, 3) := by decide +kernel
theorem d_Mo_append_71 : decode b_Mo_append 71 = .ok (.iload_n 1, 1) := by decide +kernel
theorem d_Mo_append_72 : decode b_Mo_append 72 = .ok (.iaload, 1) := by decide +kernel
theorem d_Mo_append_73 : decode b_Mo_append 73 = .ok (.iload_n 2, 1) := by decide +kernel
theorem d_Mo_append_74 : decode b_Mo_append 74 = .ok (.lload_n 3, 1) := by decide +kernel
theorem d_Mo_append_75 : decode b_Mo_append 75 = .ok (.invokevirtual 548, 3) := by decide +kernel
theorem d_Mo_append_78 : decode b_Mo_append 78 = .ok (.iadd, 1) := by decide +kernel
theorem d_Mo_append_79 : decode b_Mo_append 79 = .ok (.istore 10, 2) := by decide +kernel
theorem d_Mo_append_81 : decode b_Mo_append 81 = .ok (.aload_n 0, 1) := by decide +kernel
theorem d_Mo_append_82 : decode b_Mo_append 82 = .ok (.getfield 206, 3) := by decide +kernel
theorem d_Mo_append_85 : decode b_Mo_append 85 = .ok (.iload 9, 2) := by decide +kernel
theorem d_Mo_append_87 : decode b_Mo_append 87 = .ok (.aload_n 0, 1) := by decide +kernel
theorem d_Mo_append_88 : decode b_Mo_append 88 = .ok (.getfield 209, 3) := by decide +kernel
theorem d_Mo_append_91 : decode b_Mo_append 91 = .ok (.iload 10, 2) := by decide +kernel
theorem d_Mo_append_93 : decode b_Mo_append 93 = .ok (.iaload, 1) := by decide +kernel
theorem d_Mo_append_94 : decode b_Mo_append 94 = .ok (.iastore, 1) := by decide +kernel
theorem d_Mo_append_95 : decode b_Mo_append 95 = .ok (.aload_n 0, 1) := by decide +kernel
theorem d_Mo_append_96 : decode b_Mo_append 96 = .ok (.getfield 209, 3) := by decide +kernel
theorem d_Mo_append_99 : decode b_Mo_append 99 = .ok (.iload 10, 2) := by decide +kernel
theorem d_Mo_append_101 : decode b_Mo_append 101 = .ok (.iload 8, 2) := by decide +kernel
theorem d_Mo_append_103 : decode b_Mo_append 103 = .ok (.iconst 1, 1) := by decide +kernel
theorem d_Mo_append_104 : decode b_Mo_append 104 = .ok (.iadd, 1) := by decide +kernel
theorem d_Mo_append_105 : decode b_Mo_append 105 = .ok (.iastore, 1) := by decide +kernel
theorem d_Mo_append_106 : decode b_Mo_append 106 = .ok (.return_, 1) := by decide +kernel
theorem kw_123 : Cond.fieldLink R_Mo 174 "LuaMachineModel" "third" "[I" ∈ wA := kinm (show _ ∈ tables_1 from (List.mem_append_right _ (List.mem_append_right _ (List.mem_append_right _ (List.mem_append_right _ (List.mem_append_right _ (List.mem_append_right _ (List.mem_append_right _ (List.mem_append_right _ (List.mem_append_right _ (List.mem_append_left _ (List.mem_of_getElem? (l := tables_1_10) (i := 107) (by decide +kernel))))))))))))) (by decide +kernel)
theorem kw_124 : Cond.fieldLink R_Mo 193 "LuaMachineModel" "ek" "[B" ∈ wA := kinm (show _ ∈ tables_1 from (List.mem_append_right _ (List.mem_append_right _ (List.mem_append_right _ (List.mem_append_right _ (List.mem_append_right _ (List.mem_append_right _ (List.mem_append_right _ (List.mem_append_right _ (List.mem_append_right _ (List.mem_append_left _ (List.mem_of_getElem? (l := tables_1_10) (i := 113) (by decide +kernel))))))))))))) (by decide +kernel)
theorem kw_125 : Cond.fieldLink R_Mo 199 "LuaMachineModel" "ev" "[J" ∈ wA := kinm (show _ ∈ tables_1 from (List.mem_append_right _ (List.mem_append_right _ (List.mem_append_right _ (List.mem_append_right _ (List.mem_append_right _ (List.mem_append_right _ (List.mem_append_right _ (List.mem_append_right _ (List.mem_append_right _ (List.mem_append_left _ (List.mem_of_getElem? (l := tables_1_10) (i := 115) (by decide +kernel))))))))))))) (by decide +kernel)
theorem kw_126 : Cond.fieldLink R_Mo 196 "LuaMachineModel" "vk" "[B" ∈ wA := kinm (show _ ∈ tables_1 from (List.mem_append_right _ (List.mem_append_right _ (List.mem_append_right _ (List.mem_append_right _ (List.mem_append_right _ (List.mem_append_right _ (List.mem_append_right _ (List.mem_append_right _ (List.mem_append_right _ (List.mem_append_left _ (List.mem_of_getElem? (l := tables_1_10) (i := 114) (by decide +kernel))))))))))))) (by decide +kernel)
theorem kw_127 : Cond.fieldLink R_Mo 203 "LuaMachineModel" "vv" "[J" ∈ wA := kinm (show _ ∈ tables_1 from (List.mem_append_right _ (List.mem_append_right _ (List.mem_append_right _ (List.mem_append_right _ (List.mem_append_right _ (List.mem_append_right _ (List.mem_append_right _ (List.mem_append_right _ (List.mem_append_right _ (List.mem_append_left _ (List.mem_of_getElem? (l := tables_1_10) (i := 116) (by decide +kernel))))))))))))) (by decide +kernel)
theorem kw_128 : Cond.methodLink R_Mo 548 y_Mo_slot ∈ wA := kinm (show _ ∈ tables_1 from (List.mem_append_right _ (List.mem_append_right _ (List.mem_append_right _ (List.mem_append_right _ (List.mem_append_right _ (List.mem_append_right _ (List.mem_append_right _ (List.mem_append_right _ (List.mem_append_right _ (List.mem_append_right _ (List.mem_append_right _ (List.mem_append_left _ (List.mem_of_getElem? (l := tables_1_12) (i := 89) (by decide +kernel))))))))))))))) (by decide +kernel)
theorem kw_129 : Cond.fieldLink R_Mo 206 "LuaMachineModel" "follow" "[I" ∈ wA := kinm (show _ ∈ tables_1 from (List.mem_append_right _ (List.mem_append_right _ (List.mem_append_right _ (List.mem_append_right _ (List.mem_append_right _ (List.mem_append_right _ (List.mem_append_right _ (List.mem_append_right _ (List.mem_append_right _ (List.mem_append_left _ (List.mem_of_getElem? (l := tables_1_10) (i := 117) (by decide +kernel))))))))))))) (by decide +kernel)
theorem kw_130 : Cond.fieldLink R_Mo 209 "LuaMachineModel" "bucket" "[I" ∈ wA := kinm (show _ ∈ tables_1 from (List.mem_append_right _ (List.mem_append_right _ (List.mem_append_right _ (List.mem_append_right _ (List.mem_append_right _ (List.mem_append_right _ (List.mem_append_right _ (List.mem_append_right _ (List.mem_append_right _ (List.mem_append_left _ (List.mem_of_getElem? (l := tables_1_10) (i := 118) (by decide +kernel))))))))))))) (by decide +kernel)
theorem kw_131 : Cond.instanceMethod y_Mo_append ∈ wA := kinm (show _ ∈ tables_1 from (List.mem_append_right _ (List.mem_append_right _ (List.mem_append_right _ (List.mem_append_right _ (List.mem_append_right _ (List.mem_append_right _ (List.mem_append_right _ (List.mem_append_right _ (List.mem_append_right _ (List.mem_append_right _ (List.mem_append_right _ (List.mem_append_left _ (List.mem_of_getElem? (l := tables_1_12) (i := 102) (by decide +kernel))))))))))))))) (by decide +kernel)
theorem kw_132 : Cond.selects R_Mo y_Mo_append y_Mo_append ∈ wA := kinp 150 (by decide +kernel) (by decide +kernel)
theorem cv_Mo_append : CV y_Mo_append b_Mo_append 11 none 5 := ⟨kw_131, kw_132, kw_17, k_Mo_append, by decide +kernel⟩
theorem ct_Mo_append {l : Launch} {P : PP} {q : PL} {s s' : S1} {l1 : Int32} {l2 : Int32} {l3 : Int64} {l5 : Int32} {l6 : Int64} {r : Unit} (h : M_Mo_append l1 l2 l3 l5 l6 s = some (r, s')) : Ct l y_Mo_append b_Mo_append 11 none 2 49 P q s [.ref (q.1 0 0), .int l1, .int l2, .long l3, .int l5, .long l6] none q s' := by
  refine ct_of (by decide) (Nat.le_of_ble_eq_true rfl) fun X ls eP el g hR hl => ?_
  subst eP
  have hR : Rt X q ((r, s') : Unit × S1).2 none := hR
  have hl : lv_has ls 11 [(0, .ref (q.1 0 0)), (1, .int l1), (2, .int l2), (3, .long l3), (5, .int l5), (6, .long l6)] := hl
  generalize (r, s') = o at h hR
  unfold M_Mo_append at h
  refine ww_aload_n (pc := 0) g.1 d_Mo_append_0 rfl (lv_at hl 0 rfl) ?_
  refine ww_gR (pc := 1) g (k := 51) cl_Mo (pz rfl (by decide)) (by decide) (Or.inl kw_123) (f := 51) (t := 64) rfl rfl rfl d_Mo_append_1 ?_
  refine ww_iload_n (pc := 4) g.1 d_Mo_append_4 rfl (lv_at hl 1 rfl) ?_
  refine ww_dup2_11 (pc := 5) g.1 d_Mo_append_5 rfl rfl ?_
  refine ww_ai (pc := 6) g (pz rfl (by decide)) rfl rfl d_Mo_append_6 h fun v6 h => ?_
  refine ww_dup_x2 (pc := 7) g.1 d_Mo_append_7 rfl rfl rfl ?_
  refine ww_iconst (pc := 8) g.1 (v := 1) d_Mo_append_8 (by decide) ?_
  refine ww_iadd (pc := 9) g.1 d_Mo_append_9 ?_
  refine ww_si (pc := 10) g (pz rfl (by decide)) rfl rfl d_Mo_append_10 h fun s hs h => ?_
  refine ww_istore (pc := 11) (i := 8) g.1 (lv' := [(8, .int v6), (0, .ref (q.1 0 0)), (1, .int l1), (2, .int l2), (3, .long l3), (5, .int l5), (6, .long l6)]) d_Mo_append_11 hl (by decide) rfl fun ls hl => ?_
  refine ww_aload_n (pc := 13) g.1 d_Mo_append_13 rfl (lv_at hl 1 rfl) ?_
  refine ww_gR (pc := 14) g (k := 49) cl_Mo (pz rfl (by decide)) (by decide) (Or.inl kw_87) (f := 49) (t := 62) rfl rfl rfl d_Mo_append_14 ?_
  refine ww_iload_n (pc := 17) g.1 d_Mo_append_17 rfl (lv_at hl 2 rfl) ?_
  refine ww_ai (pc := 18) g (pz rfl (by decide)) rfl rfl d_Mo_append_18 h fun v18 h => ?_
  refine ww_iload (pc := 19) g.1 d_Mo_append_19 (lv_at hl 0 rfl) ?_
  refine ww_iadd (pc := 21) g.1 d_Mo_append_21 ?_
  refine ww_leti h fun l9_22 h => ?_
  refine ww_istore (pc := 22) (i := 9) g.1 (lv' := [(9, .int l9_22), (8, .int v6), (0, .ref (q.1 0 0)), (1, .int l1), (2, .int l2), (3, .long l3), (5, .int l5), (6, .long l6)]) d_Mo_append_22 hl (by decide) rfl fun ls hl => ?_
  refine ww_aload_n (pc := 24) g.1 d_Mo_append_24 rfl (lv_at hl 2 rfl) ?_
  refine ww_g5 (pc := 25) g (k := 57) cl_Mo (pz rfl (by decide)) (by decide) (Or.inl kw_124) (f := 57) (t := 69) (f2 := 8959) rfl rfl rfl rfl d_Mo_append_25 h fun v25 hv25 h => ?_
  refine ww_ok h fun cv25 h => ?_
  refine ww_dn cv25 ?_
  have pd25 : prs s 69 0 := pd (f := 8959) rfl (by decide) hv25 cv25
  refine ww_iload (pc := 28) g.1 d_Mo_append_28 (lv_at hl 0 rfl) ?_
  refine ww_iload_n (pc := 30) g.1 d_Mo_append_30 rfl (lv_at hl 4 rfl) ?_
  refine ww_i2b (pc := 31) g.1 (v := l2.toInt8.toInt32) d_Mo_append_31 rfl ?_
  refine ww_sb (pc := 32) g pd25 rfl rfl d_Mo_append_32 h fun s hs h => ?_
  refine ww_aload_n (pc := 33) g.1 d_Mo_append_33 rfl (lv_at hl 2 rfl) ?_
  refine ww_g5 (pc := 34) g (k := 59) cl_Mo (pz rfl (by decide)) (by decide) (Or.inl kw_125) (f := 59) (t := 71) (f2 := 9215) rfl rfl rfl rfl d_Mo_append_34 h fun v34 hv34 h => ?_
  refine ww_ok h fun cv34 h => ?_
  refine ww_dn cv34 ?_
  have pd34 : prs s 71 0 := pd (f := 9215) rfl (by decide) hv34 cv34
  refine ww_iload (pc := 37) g.1 d_Mo_append_37 (lv_at hl 0 rfl) ?_
  refine ww_lload_n (pc := 39) g.1 d_Mo_append_39 rfl (lv_at hl 5 rfl) ?_
  refine ww_sl (pc := 40) g pd34 rfl rfl d_Mo_append_40 h fun s hs h => ?_
  refine ww_aload_n (pc := 41) g.1 d_Mo_append_41 rfl (lv_at hl 2 rfl) ?_
  refine ww_g5 (pc := 42) g (k := 58) cl_Mo (pz rfl (by decide)) (by decide) (Or.inl kw_126) (f := 58) (t := 70) (f2 := 9087) rfl rfl rfl rfl d_Mo_append_42 h fun v42 hv42 h => ?_
  refine ww_ok h fun cv42 h => ?_
  refine ww_dn cv42 ?_
  have pd42 : prs s 70 0 := pd (f := 9087) rfl (by decide) hv42 cv42
  refine ww_iload (pc := 45) g.1 d_Mo_append_45 (lv_at hl 0 rfl) ?_
  refine ww_iload (pc := 47) g.1 d_Mo_append_47 (lv_at hl 6 rfl) ?_
  refine ww_i2b (pc := 49) g.1 (v := l5.toInt8.toInt32) d_Mo_append_49 rfl ?_
  refine ww_sb (pc := 50) g pd42 rfl rfl d_Mo_append_50 h fun s hs h => ?_
  refine ww_aload_n (pc := 51) g.1 d_Mo_append_51 rfl (lv_at hl 2 rfl) ?_
  refine ww_g5 (pc := 52) g (k := 60) cl_Mo (pz rfl (by decide)) (by decide) (Or.inl kw_127) (f := 60) (t := 72) (f2 := 9343) rfl rfl rfl rfl d_Mo_append_52 h fun v52 hv52 h => ?_
  refine ww_ok h fun cv52 h => ?_
  refine ww_dn cv52 ?_
  have pd52 : prs s 72 0 := pd (f := 9343) rfl (by decide) hv52 cv52
  refine ww_iload (pc := 55) g.1 d_Mo_append_55 (lv_at hl 0 rfl) ?_
  refine ww_lload (pc := 57) g.1 d_Mo_append_57 (lv_at hl 7 rfl) ?_
  refine ww_sl (pc := 59) g pd52 rfl rfl d_Mo_append_59 h fun s hs h => ?_
  refine ww_aload_n (pc := 60) g.1 d_Mo_append_60 rfl (lv_at hl 2 rfl) ?_
  refine ww_gR (pc := 61) g (k := 49) cl_Mo (pz rfl (by decide)) (by decide) (Or.inl kw_87) (f := 49) (t := 62) rfl rfl rfl d_Mo_append_61 ?_
  refine ww_iload_n (pc := 64) g.1 d_Mo_append_64 rfl (lv_at hl 3 rfl) ?_
  refine ww_ai (pc := 65) g (pz rfl (by decide)) rfl rfl d_Mo_append_65 h fun v65 h => ?_
  refine ww_aload_n (pc := 66) g.1 d_Mo_append_66 rfl (lv_at hl 2 rfl) ?_
  refine ww_aload_n (pc := 67) g.1 d_Mo_append_67 rfl (lv_at hl 2 rfl) ?_
  refine ww_gR (pc := 68) g (k := 50) cl_Mo (pz rfl (by decide)) (by decide) (Or.inl kw_91) (f := 50) (t := 63) rfl rfl rfl d_Mo_append_68 ?_
  refine ww_iload_n (pc := 71) g.1 d_Mo_append_71 rfl (lv_at hl 3 rfl) ?_
  refine ww_ai (pc := 72) g (pz rfl (by decide)) rfl rfl d_Mo_append_72 h fun v72 h => ?_
  refine ww_iload_n (pc := 73) g.1 d_Mo_append_73 rfl (lv_at hl 4 rfl) ?_
  refine ww_lload_n (pc := 74) g.1 d_Mo_append_74 rfl (lv_at hl 5 rfl) ?_
  obtain ⟨v75, s, hc75, h⟩ := oB_of h
  refine ww_callV (pc := 75) (rest := [.int v65]) g cv_Mo_slot (Or.inl kw_128) cl_Mo (pz rfl (by decide)) (ct_Mo_slot hc75) ⟨by decide, by decide⟩ rfl hl.1 (Nat.le_of_ble_eq_true rfl) d_Mo_append_75 rfl ?_
  refine ww_st (st' := [.int v75, .int v65]) rfl ?_
  refine ww_iadd (pc := 78) g.1 d_Mo_append_78 ?_
  refine ww_leti h fun l10_79 h => ?_
  refine ww_istore (pc := 79) (i := 10) g.1 (lv' := [(10, .int l10_79), (9, .int l9_22), (8, .int v6), (0, .ref (q.1 0 0)), (1, .int l1), (2, .int l2), (3, .long l3), (5, .int l5), (6, .long l6)]) d_Mo_append_79 hl (by decide) rfl fun ls hl => ?_
  refine ww_aload_n (pc := 81) g.1 d_Mo_append_81 rfl (lv_at hl 3 rfl) ?_
  refine ww_g5 (pc := 82) g (k := 61) cl_Mo (pz rfl (by decide)) (by decide) (Or.inl kw_129) (f := 61) (t := 73) (f2 := 9471) rfl rfl rfl rfl d_Mo_append_82 h fun v82 hv82 h => ?_
  refine ww_ok h fun cv82 h => ?_
  refine ww_dn cv82 ?_
  have pd82 : prs s 73 0 := pd (f := 9471) rfl (by decide) hv82 cv82
  refine ww_iload (pc := 85) g.1 d_Mo_append_85 (lv_at hl 1 rfl) ?_
  refine ww_aload_n (pc := 87) g.1 d_Mo_append_87 rfl (lv_at hl 3 rfl) ?_
  refine ww_g5 (pc := 88) g (k := 62) cl_Mo (pz rfl (by decide)) (by decide) (Or.inl kw_130) (f := 62) (t := 74) (f2 := 9599) rfl rfl rfl rfl d_Mo_append_88 h fun v88 hv88 h => ?_
  refine ww_ok h fun cv88 h => ?_
  refine ww_dn cv88 ?_
  have pd88 : prs s 74 0 := pd (f := 9599) rfl (by decide) hv88 cv88
  refine ww_iload (pc := 91) g.1 d_Mo_append_91 (lv_at hl 0 rfl) ?_
  refine ww_ai (pc := 93) g pd88 rfl rfl d_Mo_append_93 h fun v93 h => ?_
  refine ww_si (pc := 94) g pd82 rfl rfl d_Mo_append_94 h fun s hs h => ?_
  refine ww_aload_n (pc := 95) g.1 d_Mo_append_95 rfl (lv_at hl 3 rfl) ?_
  refine ww_g5 (pc := 96) g (k := 62) cl_Mo (pz rfl (by decide)) (by decide) (Or.inl kw_130) (f := 62) (t := 74) (f2 := 9599) rfl rfl rfl rfl d_Mo_append_96 h fun v96 hv96 h => ?_
  refine ww_ok h fun cv96 h => ?_
  refine ww_dn cv96 ?_
  have pd96 : prs s 74 0 := pd (f := 9599) rfl (by decide) hv96 cv96
  refine ww_iload (pc := 99) g.1 d_Mo_append_99 (lv_at hl 0 rfl) ?_
  refine ww_iload (pc := 101) g.1 d_Mo_append_101 (lv_at hl 2 rfl) ?_
  refine ww_iconst (pc := 103) g.1 (v := 1) d_Mo_append_103 (by decide) ?_
  refine ww_iadd (pc := 104) g.1 d_Mo_append_104 ?_
  refine ww_si (pc := 105) g pd96 rfl rfl d_Mo_append_105 h fun s hs h => ?_
  exact ww_vretH (pc := 106) g h hR d_Mo_append_106

abbrev b_Va_add : ByteArray := prog_16_method_2_code
def y_Va_add : MethodName := ⟨R_Va, "add", "(IJ)V"⟩
abbrev w_Va_add : List Cond := .code y_Va_add b_Va_add 4 none :: wA
theorem k_Va_add : Cond.code y_Va_add b_Va_add 4 none ∈ wA := kinm (show _ ∈ tables_1 from (List.mem_append_right _ (List.mem_append_right _ (List.mem_append_right _ (List.mem_append_right _ (List.mem_append_right _ (List.mem_append_right _ (List.mem_append_right _ (List.mem_append_right _ (List.mem_append_right _ (List.mem_append_right _ (List.mem_append_right _ (List.mem_append_left _ (List.mem_of_getElem? (l := tables_1_12) (i := 107) (by decide +kernel))))))))))))))) (by decide +kernel)
theorem d_Va_add_0 : decode b_Va_add 0 = .ok (.aload_n 0, 1) := by decide +kernel
theorem d_Va_add_1 : decode b_Va_add 1 = .ok (.getfield 13, 3) := by decide +kernel
theorem d_Va_add_4 : decode b_Va_add 4 = .ok (.aload_n 0, 1) := by decide +kernel
theorem d_Va_add_5 : decode b_Va_add 5 = .ok (.getfield 7, 3) := by decide +kernel
theorem d_Va_add_8 : decode b_Va_add 8 = .ok (.iload_n 1, 1) := by decide +kernel
theorem d_Va_add_9 : decode b_Va_add 9 = .ok (.i2b, 1) := by decide +kernel
theorem d_Va_add_10 : decode b_Va_add 10 = .ok (.bastore, 1) := by decide +kernel
theorem d_Va_add_11 : decode b_Va_add 11 = .ok (.aload_n 0, 1) := by decide +kernel
theorem d_Va_add_12 : decode b_Va_add 12 = .ok (.getfield 17, 3) := by decide +kernel
theorem d_Va_add_15 : decode b_Va_add 15 = .ok (.aload_n 0, 1) := by decide +kernel
theorem d_Va_add_16 : decode b_Va_add 16 = .ok (.dup, 1) := by decide +kernel
theorem d_Va_add_17 : decode b_Va_add 17 = .ok (.getfield 7, 3) := by decide +kernel
theorem d_Va_add_20 : decode b_Va_add 20 = .ok (.dup_x1, 1) := by decide +kernel
theorem d_Va_add_21 : decode b_Va_add 21 = .ok (.iconst 1, 1) := by decide +kernel
theorem d_Va_add_22 : decode b_Va_add 22 = .ok (.iadd, 1) := by decide +kernel
theorem d_Va_add_23 : decode b_Va_add 23 = .ok (.putfield 7, 3) := by decide +kernel
theorem d_Va_add_26 : decode b_Va_add 26 = .ok (.lload_n 2, 1) := by decide +kernel
theorem d_Va_add_27 : decode b_Va_add 27 = .ok (.lastore, 1) := by decide +kernel
theorem d_Va_add_28 : decode b_Va_add 28 = .ok (.return_, 1) := by decide +kernel
theorem kw_133 : Cond.fieldLink R_Va 7 "LuaMachineModel$Values" "n" "I" ∈ wA := kinm (show _ ∈ tables_1 from (List.mem_append_right _ (List.mem_append_right _ (List.mem_append_right _ (List.mem_append_right _ (List.mem_append_right _ (List.mem_append_right _ (List.mem_append_right _ (List.mem_append_right _ (List.mem_append_left _ (List.mem_of_getElem? (l := tables_1_9) (i := 126) (by decide +kernel)))))))))))) (by decide +kernel)
theorem kw_134 : Cond.instanceMethod y_Va_add ∈ wA := kinm (show _ ∈ tables_1 from (List.mem_append_right _ (List.mem_append_right _ (List.mem_append_right _ (List.mem_append_right _ (List.mem_append_right _ (List.mem_append_right _ (List.mem_append_right _ (List.mem_append_right _ (List.mem_append_right _ (List.mem_append_right _ (List.mem_append_right _ (List.mem_append_left _ (List.mem_of_getElem? (l := tables_1_12) (i := 105) (by decide +kernel))))))))))))))) (by decide +kernel)
theorem kw_135 : Cond.selects R_Va y_Va_add y_Va_add ∈ wA := kinm (show _ ∈ tables_1 from (List.mem_append_right _ (List.mem_append_right _ (List.mem_append_right _ (List.mem_append_right _ (List.mem_append_right _ (List.mem_append_right _ (List.mem_append_right _ (List.mem_append_right _ (List.mem_append_right _ (List.mem_append_right _ (List.mem_append_right _ (List.mem_append_left _ (List.mem_of_getElem? (l := tables_1_12) (i := 106) (by decide +kernel))))))))))))))) (by decide +kernel)
theorem cv_Va_add : CV y_Va_add b_Va_add 4 none 2 := ⟨kw_134, kw_135, kw_48, k_Va_add, by decide +kernel⟩
theorem ct_Va_add {l : Launch} {P : PP} {q : PL} {s s' : S1} {l0r : Nat} {l0 : Int32} {l1 : Int32} {l2 : Int64} (hp0 : VOK l0r l0) {r : Unit} (h : M_Va_add l0r l0 l1 l2 s = some (r, s')) : Ct l y_Va_add b_Va_add 4 none 0 0 P q s [.ref (q.1 l0r l0), .int l1, .long l2] none q s' := by
  refine ct_of (by decide) (Nat.le_of_ble_eq_true rfl) fun X ls eP el g hR hl => ?_
  subst eP
  have hR : Rt X q ((r, s') : Unit × S1).2 none := hR
  have hl : lv_has ls 4 [(0, .ref (q.1 l0r l0)), (1, .int l1), (2, .long l2)] := hl
  generalize (r, s') = o at h hR
  unfold M_Va_add at h
  refine ww_aload_n (pc := 0) g.1 d_Va_add_0 rfl (lv_at hl 0 rfl) ?_
  refine ww_gR (pc := 1) g (k := 0) (cl_Va hp0) (vok_p hp0).1 (by rw [(vok_f hp0).1.2.2]; decide) (Or.inl kw_44) (f := (128 * l0r + 0)) (t := l0r + 1) rfl (vok_f hp0).2.1.1 (vok_f hp0).2.1.2 d_Va_add_1 ?_
  refine ww_aload_n (pc := 4) g.1 d_Va_add_4 rfl (lv_at hl 0 rfl) ?_
  refine ww_gI (pc := 5) g (k := 2) (cl_Va hp0) (vok_p hp0).1 (by rw [(vok_f hp0).1.2.2]; decide) (Or.inl kw_133) (f := (128 * l0r + 2)) rfl (vok_f hp0).2.2.2.1 d_Va_add_5 h fun v5 h => ?_
  refine ww_iload_n (pc := 8) g.1 d_Va_add_8 rfl (lv_at hl 1 rfl) ?_
  refine ww_i2b (pc := 9) g.1 (v := l1.toInt8.toInt32) d_Va_add_9 rfl ?_
  refine ww_sb (pc := 10) g (vok_p hp0).2.1 (vok_f hp0).2.2.2.2.1 (vok_n hp0).1 d_Va_add_10 h fun s hs h => ?_
  refine ww_aload_n (pc := 11) g.1 d_Va_add_11 rfl (lv_at hl 0 rfl) ?_
  refine ww_gR (pc := 12) g (k := 1) (cl_Va hp0) (vok_p hp0).1 (by rw [(vok_f hp0).1.2.2]; decide) (Or.inl kw_45) (f := (128 * l0r + 1)) (t := l0r + 2) rfl (vok_f hp0).2.2.1.1 (vok_f hp0).2.2.1.2 d_Va_add_12 ?_
  refine ww_aload_n (pc := 15) g.1 d_Va_add_15 rfl (lv_at hl 0 rfl) ?_
  refine ww_dup (pc := 16) g.1 d_Va_add_16 rfl ?_
  refine ww_gI (pc := 17) g (k := 2) (cl_Va hp0) (vok_p hp0).1 (by rw [(vok_f hp0).1.2.2]; decide) (Or.inl kw_133) (f := (128 * l0r + 2)) rfl (vok_f hp0).2.2.2.1 d_Va_add_17 h fun v17 h => ?_
  refine ww_dup_x1 (pc := 20) g.1 d_Va_add_20 rfl rfl ?_
  refine ww_iconst (pc := 21) g.1 (v := 1) d_Va_add_21 (by decide) ?_
  refine ww_iadd (pc := 22) g.1 d_Va_add_22 ?_
  refine ww_pI (pc := 23) g (k := 2) (cl_Va hp0) (vok_p hp0).1 (by rw [(vok_f hp0).1.2.2]; decide) (Or.inl kw_133) rfl (f := (128 * l0r + 2)) rfl (vok_f hp0).2.2.2.1 rfl rfl d_Va_add_23 h fun s hs h => ?_
  refine ww_lload_n (pc := 26) g.1 d_Va_add_26 rfl (lv_at hl 2 rfl) ?_
  refine ww_sl (pc := 27) g (vok_p hp0).2.2 (vok_f hp0).2.2.2.2.2 (vok_n hp0).2 d_Va_add_27 h fun s hs h => ?_
  exact ww_vretH (pc := 28) g h hR d_Va_add_28


