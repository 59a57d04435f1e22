abbrev b_Mo_unchain : ByteArray := prog_14_method_52_code
def y_Mo_unchain : MethodName := ⟨R_Mo, "unchain", "(I)V"⟩
abbrev w_Mo_unchain : List Cond := .code y_Mo_unchain b_Mo_unchain 4 none :: wA
theorem k_Mo_unchain : Cond.code y_Mo_unchain b_Mo_unchain 4 none ∈ wA := kinm (show _ ∈ tables_1 from (List.mem_append_right _ (List.mem_append_right _ (List.mem_append_right _ (List.mem_append_right _ (List.mem_append_right _ (List.mem_append_right _ (List.mem_append_right _ (List.mem_append_right _ (List.mem_append_right _ (List.mem_append_right _ (List.mem_append_right _ (List.mem_append_left _ (List.mem_of_getElem? (l := tables_1_12) (i := 49) (by decide +kernel))))))))))))))) (by decide +kernel)
theorem d_Mo_unchain_0 : decode b_Mo_unchain 0 = .ok (.aload_n 0, 1) := by decide +kernel
theorem d_Mo_unchain_1 : decode b_Mo_unchain 1 = .ok (.aload_n 0, 1) := by decide +kernel
theorem d_Mo_unchain_2 : decode b_Mo_unchain 2 = .ok (.getfield 187, 3) := by decide +kernel
theorem d_Mo_unchain_5 : decode b_Mo_unchain 5 = .ok (.aload_n 0, 1) := by decide +kernel
theorem d_Mo_unchain_6 : decode b_Mo_unchain 6 = .ok (.getfield 168, 3) := by decide +kernel
theorem d_Mo_unchain_9 : decode b_Mo_unchain 9 = .ok (.iload_n 1, 1) := by decide +kernel
theorem d_Mo_unchain_10 : decode b_Mo_unchain 10 = .ok (.iaload, 1) := by decide +kernel
theorem d_Mo_unchain_11 : decode b_Mo_unchain 11 = .ok (.aload_n 0, 1) := by decide +kernel
theorem d_Mo_unchain_12 : decode b_Mo_unchain 12 = .ok (.getfield 171, 3) := by decide +kernel
theorem d_Mo_unchain_15 : decode b_Mo_unchain 15 = .ok (.iload_n 1, 1) := by decide +kernel
theorem d_Mo_unchain_16 : decode b_Mo_unchain 16 = .ok (.iaload, 1) := by decide +kernel
theorem d_Mo_unchain_17 : decode b_Mo_unchain 17 = .ok (.invokevirtual 523, 3) := by decide +kernel
theorem d_Mo_unchain_20 : decode b_Mo_unchain 20 = .ok (.istore_n 2, 1) := by decide +kernel
theorem d_Mo_unchain_21 : decode b_Mo_unchain 21 = .ok (.aload_n 0, 1) := by decide +kernel
theorem d_Mo_unchain_22 : decode b_Mo_unchain 22 = .ok (.getfield 190, 3) := by decide +kernel
theorem d_Mo_unchain_25 : decode b_Mo_unchain 25 = .ok (.iload_n 2, 1) := by decide +kernel
theorem d_Mo_unchain_26 : decode b_Mo_unchain 26 = .ok (.iaload, 1) := by decide +kernel
theorem d_Mo_unchain_27 : decode b_Mo_unchain 27 = .ok (.iconst 1, 1) := by decide +kernel
theorem d_Mo_unchain_28 : decode b_Mo_unchain 28 = .ok (.isub, 1) := by decide +kernel
theorem d_Mo_unchain_29 : decode b_Mo_unchain 29 = .ok (.istore_n 3, 1) := by decide +kernel
theorem d_Mo_unchain_30 : decode b_Mo_unchain 30 = .ok (.iload_n 3, 1) := by decide +kernel
theorem d_Mo_unchain_31 : decode b_Mo_unchain 31 = .ok (.iload_n 1, 1) := by decide +kernel
theorem d_Mo_unchain_32 : decode b_Mo_unchain 32 = .ok (.if_icmp .ne 16, 3) := by decide +kernel
theorem d_Mo_unchain_35 : decode b_Mo_unchain 35 = .ok (.aload_n 0, 1) := by decide +kernel
theorem d_Mo_unchain_36 : decode b_Mo_unchain 36 = .ok (.getfield 190, 3) := by decide +kernel
theorem d_Mo_unchain_39 : decode b_Mo_unchain 39 = .ok (.iload_n 2, 1) := by decide +kernel
theorem d_Mo_unchain_40 : decode b_Mo_unchain 40 = .ok (.aload_n 0, 1) := by decide +kernel
theorem d_Mo_unchain_41 : decode b_Mo_unchain 41 = .ok (.getfield 177, 3) := by decide +kernel
theorem d_Mo_unchain_44 : decode b_Mo_unchain 44 = .ok (.iload_n 1, 1) := by decide +kernel
theorem d_Mo_unchain_45 : decode b_Mo_unchain 45 = .ok (.iaload, 1) := by decide +kernel
theorem d_Mo_unchain_46 : decode b_Mo_unchain 46 = .ok (.iastore, 1) := by decide +kernel
theorem d_Mo_unchain_47 : decode b_Mo_unchain 47 = .ok (.return_, 1) := by decide +kernel
theorem d_Mo_unchain_48 : decode b_Mo_unchain 48 = .ok (.aload_n 0, 1) := by decide +kernel
theorem d_Mo_unchain_49 : decode b_Mo_unchain 49 = .ok (.getfield 177, 3) := by decide +kernel
theorem d_Mo_unchain_52 : decode b_Mo_unchain 52 = .ok (.iload_n 3, 1) := by decide +kernel
theorem d_Mo_unchain_53 : decode b_Mo_unchain 53 = .ok (.iaload, 1) := by decide +kernel
theorem d_Mo_unchain_54 : decode b_Mo_unchain 54 = .ok (.iconst 1, 1) := by decide +kernel
theorem d_Mo_unchain_55 : decode b_Mo_unchain 55 = .ok (.isub, 1) := by decide +kernel
theorem d_Mo_unchain_56 : decode b_Mo_unchain 56 = .ok (.iload_n 1, 1) := by decide +kernel
theorem d_Mo_unchain_57 : decode b_Mo_unchain 57 = .ok (.if_icmp .eq 15, 3) := by decide +kernel
theorem d_Mo_unchain_60 : decode b_Mo_unchain 60 = .ok (.aload_n 0, 1) := by decide +kernel
theorem d_Mo_unchain_61 : decode b_Mo_unchain 61 = .ok (.getfield 177, 3) := by decide +kernel
theorem d_Mo_unchain_64 : decode b_Mo_unchain 64 = .ok (.iload_n 3, 1) := by decide +kernel
theorem d_Mo_unchain_65 : decode b_Mo_unchain 65 = .ok (.iaload, 1) := by decide +kernel
theorem d_Mo_unchain_66 : decode b_Mo_unchain 66 = .ok (.iconst 1, 1) := by decide +kernel
theorem d_Mo_unchain_67 : decode b_Mo_unchain 67 = .ok (.isub, 1) := by decide +kernel
theorem d_Mo_unchain_68 : decode b_Mo_unchain 68 = .ok (.istore_n 3, 1) := by decide +kernel
theorem d_Mo_unchain_69 : decode b_Mo_unchain 69 = .ok (.goto (-21), 3) := by decide +kernel
theorem d_Mo_unchain_72 : decode b_Mo_unchain 72 = .ok (.aload_n 0, 1) := by decide +kernel
theorem d_Mo_unchain_73 : decode b_Mo_unchain 73 = .ok (.getfield 177, 3) := by decide +kernel
theorem d_Mo_unchain_76 : decode b_Mo_unchain 76 = .ok (.iload_n 3, 1) := by decide +kernel
theorem d_Mo_unchain_77 : decode b_Mo_unchain 77 = .ok (.aload_n 0, 1) := by decide +kernel
theorem d_Mo_unchain_78 : decode b_Mo_unchain 78 = .ok (.getfield 177, 3) := by decide +kernel
theorem d_Mo_unchain_81 : decode b_Mo_unchain 81 = .ok (.iload_n 1, 1) := by decide +kernel
theorem d_Mo_unchain_82 : decode b_Mo_unchain 82 = .ok (.iaload, 1) := by decide +kernel
theorem d_Mo_unchain_83 : decode b_Mo_unchain 83 = .ok (.iastore, 1) := by decide +kernel
theorem d_Mo_unchain_84 : decode b_Mo_unchain 84 = .ok (.return_, 1) := by decide +kernel
abbrev b_Mo_hash : ByteArray := prog_14_method_29_code
def y_Mo_hash : MethodName := ⟨R_Mo, "hash", "([BII)I"⟩
abbrev w_Mo_hash : List Cond := .code y_Mo_hash b_Mo_hash 6 (some .int) :: wA
theorem k_Mo_hash : Cond.code y_Mo_hash b_Mo_hash 6 (some .int) ∈ wA := kinm (show _ ∈ tables_1 from (List.mem_append_right _ (List.mem_append_right _ (List.mem_append_right _ (List.mem_append_right _ (List.mem_append_right _ (List.mem_append_right _ (List.mem_append_right _ (List.mem_append_right _ (List.mem_append_right _ (List.mem_append_right _ (List.mem_append_right _ (List.mem_append_left _ (List.mem_of_getElem? (l := tables_1_12) (i := 53) (by decide +kernel))))))))))))))) (by decide +kernel)
theorem d_Mo_hash_0 : decode b_Mo_hash 0 = .ok (.iload_n 3, 1) := by decide +kernel
theorem d_Mo_hash_1 : decode b_Mo_hash 1 = .ok (.istore 4, 2) := by decide +kernel
theorem d_Mo_hash_3 : decode b_Mo_hash 3 = .ok (.iconst 0, 1) := by decide +kernel
theorem d_Mo_hash_4 : decode b_Mo_hash 4 = .ok (.istore 5, 2) := by decide +kernel
theorem d_Mo_hash_6 : decode b_Mo_hash 6 = .ok (.iload 5, 2) := by decide +kernel
theorem d_Mo_hash_8 : decode b_Mo_hash 8 = .ok (.iload_n 3, 1) := by decide +kernel
theorem d_Mo_hash_9 : decode b_Mo_hash 9 = .ok (.if_icmp .ge 23, 3) := by decide +kernel
theorem d_Mo_hash_12 : decode b_Mo_hash 12 = .ok (.bipush 31, 2) := by decide +kernel
theorem d_Mo_hash_14 : decode b_Mo_hash 14 = .ok (.iload 4, 2) := by decide +kernel
theorem d_Mo_hash_16 : decode b_Mo_hash 16 = .ok (.imul, 1) := by decide +kernel
theorem d_Mo_hash_17 : decode b_Mo_hash 17 = .ok (.aload_n 1, 1) := by decide +kernel
theorem d_Mo_hash_18 : decode b_Mo_hash 18 = .ok (.iload_n 2, 1) := by decide +kernel
theorem d_Mo_hash_19 : decode b_Mo_hash 19 = .ok (.iload 5, 2) := by decide +kernel
theorem d_Mo_hash_21 : decode b_Mo_hash 21 = .ok (.iadd, 1) := by decide +kernel
theorem d_Mo_hash_22 : decode b_Mo_hash 22 = .ok (.baload, 1) := by decide +kernel
theorem d_Mo_hash_23 : decode b_Mo_hash 23 = .ok (.iadd, 1) := by decide +kernel
theorem d_Mo_hash_24 : decode b_Mo_hash 24 = .ok (.istore 4, 2) := by decide +kernel
theorem d_Mo_hash_26 : decode b_Mo_hash 26 = .ok (.iinc 5 1, 3) := by decide +kernel
theorem d_Mo_hash_29 : decode b_Mo_hash 29 = .ok (.goto (-23), 3) := by decide +kernel
theorem d_Mo_hash_32 : decode b_Mo_hash 32 = .ok (.iload 4, 2) := by decide +kernel
theorem d_Mo_hash_34 : decode b_Mo_hash 34 = .ok (.sipush 1023, 3) := by decide +kernel
theorem d_Mo_hash_37 : decode b_Mo_hash 37 = .ok (.iand, 1) := by decide +kernel
theorem d_Mo_hash_38 : decode b_Mo_hash 38 = .ok (.ireturn, 1) := by decide +kernel
theorem kw_104 : Cond.instanceMethod y_Mo_hash ∈ wA := kinm (show _ ∈ tables_1 from (List.mem_append_right _ (List.mem_append_right _ (List.mem_append_right _ (List.mem_append_right _ (List.mem_append_right _ (List.mem_append_right _ (List.mem_append_right _ (List.mem_append_right _ (List.mem_append_right _ (List.mem_append_right _ (List.mem_append_right _ (List.mem_append_left _ (List.mem_of_getElem? (l := tables_1_12) (i := 52) (by decide +kernel))))))))))))))) (by decide +kernel)
theorem kw_105 : Cond.selects R_Mo y_Mo_hash y_Mo_hash ∈ wA := kinp 139 (by decide +kernel) (by decide +kernel)
def M_Mo_hash_L6 : (Nat × Int32 × Int32 × Int32 × Int32 × Int32) → M ((Nat × Int32 × Int32 × Int32 × Int32 × Int32) ⊕ ((Int32))) := fun x =>
  oC (x.2.2.2.1 ≤ x.2.2.2.2.2)
    (oR (Sum.inr x.2.2.2.2.1))
    (oB (oAI x.1 (lnI x.1) x.2.1 (x.2.2.1 + x.2.2.2.2.2)) fun v22 =>
    oL ((31 * x.2.2.2.2.1) + v22) fun l4_24 =>
    oR (Sum.inl (x.1, x.2.1, x.2.2.1, x.2.2.2.1, l4_24, x.2.2.2.2.2 + 1)))

def M_Mo_hash (l1r : Nat) (l1 : Int32) (l2 : Int32) (l3 : Int32) : M (Int32) :=
  oB (oW M_Mo_hash_L6 (l1r, l1, l2, l3, l3, 0)) fun e6 =>
  oR (e6 &&& 1023)

theorem cv_Mo_hash : CV y_Mo_hash b_Mo_hash 6 (some .int) 3 := ⟨kw_104, kw_105, kw_17, k_Mo_hash, by decide +kernel⟩
theorem lp_Mo_hash_L6 {X : Cx} {q : PL} (g : Gd X y_Mo_hash b_Mo_hash 6 (some .int) 0 0 R_Mo) (x : Nat × Int32 × Int32 × Int32 × Int32 × Int32) (s : S1) (o : ((Nat × Int32 × Int32 × Int32 × Int32 × Int32) ⊕ ((Int32))) × S1) (h : M_Mo_hash_L6 x s = some o) (hR : (Sum.elim (fun y : Nat × Int32 × Int32 × Int32 × Int32 × Int32 => ∀ ls : Array Slot, (AK 2 y.1) → (prs o.2 y.1 y.2.1) → lv_has ls 6 [(1, .ref (q.1 y.1 y.2.1)), (2, .int y.2.2.1), (3, .int y.2.2.2.1), (4, .int y.2.2.2.2.1), (5, .int y.2.2.2.2.2)] → WW X q o.2 6 ls []) (fun y : Int32 => ∀ ls : Array Slot, lv_has ls 6 [(4, .int y)] → WW X q o.2 32 ls []) o.1)) : ∀ ls : Array Slot, (AK 2 x.1) → (prs s x.1 x.2.1) → lv_has ls 6 [(1, .ref (q.1 x.1 x.2.1)), (2, .int x.2.2.1), (3, .int x.2.2.2.1), (4, .int x.2.2.2.2.1), (5, .int x.2.2.2.2.2)] → WW X q s 6 ls [] := by
  intro ls hp0 hp1 hl
  unfold M_Mo_hash_L6 at h
  refine ww_iload (pc := 6) g.1 d_Mo_hash_6 (lv_at hl 4 rfl) ?_
  refine ww_iload_n (pc := 8) g.1 d_Mo_hash_8 rfl (lv_at hl 2 rfl) ?_
  refine ww_icmp_ge (pc := 9) (tgt := 32) g.1 d_Mo_hash_9 (by decide) h (fun c h => ?_) (fun c h => ?_)
  · rw [oR_eq h] at hR
    exact hR ls (lv_sub hl [3] rfl)
  · refine ww_bipush (pc := 12) g.1 (v := 31) d_Mo_hash_12 (by decide) ?_
    refine ww_iload (pc := 14) g.1 d_Mo_hash_14 (lv_at hl 3 rfl) ?_
    refine ww_imul (pc := 16) g.1 d_Mo_hash_16 ?_
    refine ww_aload_n (pc := 17) g.1 d_Mo_hash_17 rfl (lv_at hl 0 rfl) ?_
    refine ww_iload_n (pc := 18) g.1 d_Mo_hash_18 rfl (lv_at hl 1 rfl) ?_
    refine ww_iload (pc := 19) g.1 d_Mo_hash_19 (lv_at hl 4 rfl) ?_
    refine ww_iadd (pc := 21) g.1 d_Mo_hash_21 ?_
    refine ww_ab (pc := 22) g hp1 hp0.1 (ak_n hp0) d_Mo_hash_22 h fun v22 h => ?_
    refine ww_iadd (pc := 23) g.1 d_Mo_hash_23 ?_
    refine ww_leti h fun l4_24 h => ?_
    refine ww_istore (pc := 24) g.1 (lv' := [(4, .int l4_24), (1, .ref (q.1 x.1 x.2.1)), (2, .int x.2.2.1), (3, .int x.2.2.2.1), (5, .int x.2.2.2.2.2)]) d_Mo_hash_24 hl (by decide) rfl fun ls hl => ?_
    refine ww_iinc (pc := 26) g.1 (v := x.2.2.2.2.2 + 1) (lv' := [(5, .int (x.2.2.2.2.2 + 1)), (4, .int l4_24), (1, .ref (q.1 x.1 x.2.1)), (2, .int x.2.2.1), (3, .int x.2.2.2.1)]) d_Mo_hash_26 hl (k := 4) rfl (by rfl) (by decide) rfl fun ls hl => ?_
    refine ww_goto (pc := 29) (tgt := 6) g.1 d_Mo_hash_29 (by decide) ?_
    rw [oR_eq h] at hR
    exact hR ls hp0 hp1 (lv_sub hl [2, 3, 4, 1, 0] rfl)

theorem ct_Mo_hash {l : Launch} {P : PP} {q : PL} {s s' : S1} {l1r : Nat} {l1 : Int32} {l2 : Int32} {l3 : Int32} (hp0 : AK 2 l1r) (hp1 : prs s l1r l1) {r : Int32} (h : M_Mo_hash l1r l1 l2 l3 s = some (r, s')) : Ct l y_Mo_hash b_Mo_hash 6 (some .int) 0 0 P q s [.ref (q.1 0 0), .ref (q.1 l1r l1), .int l2, .int l3] (some (.int r)) q s' := by
  refine ct_of (by decide) (Nat.le_of_ble_eq_true rfl) fun X ls eP el g hR hl => ?_
  have hR : Rt X q ((r, s') : Int32 × S1).2 (some (.int ((r, s') : Int32 × S1).1)) := hR
  have hl : lv_has ls 6 [(0, .ref (q.1 0 0)), (1, .ref (q.1 l1r l1)), (2, .int l2), (3, .int l3)] := hl
  generalize (r, s') = o at h hR
  unfold M_Mo_hash at h
  refine ww_iload_n (pc := 0) g.1 d_Mo_hash_0 rfl (lv_at hl 3 rfl) ?_
  refine ww_istore (pc := 1) g.1 (lv' := [(4, .int l3), (0, .ref (q.1 0 0)), (1, .ref (q.1 l1r l1)), (2, .int l2), (3, .int l3)]) d_Mo_hash_1 hl (by decide) rfl fun ls hl => ?_
  refine ww_iconst (pc := 3) g.1 (v := 0) d_Mo_hash_3 (by decide) ?_
  refine ww_istore (pc := 4) g.1 (lv' := [(5, .int 0), (4, .int l3), (0, .ref (q.1 0 0)), (1, .ref (q.1 l1r l1)), (2, .int l2), (3, .int l3)]) d_Mo_hash_4 hl (by decide) rfl fun ls hl => ?_
  obtain ⟨e6, s1, hw, h⟩ := oB_of h
  refine oW_rule (Wh := fun (x : Nat × Int32 × Int32 × Int32 × Int32 × Int32) (s : S1) => ∀ ls : Array Slot, (AK 2 x.1) → (prs s x.1 x.2.1) → lv_has ls 6 [(1, .ref (q.1 x.1 x.2.1)), (2, .int x.2.2.1), (3, .int x.2.2.2.1), (4, .int x.2.2.2.2.1), (5, .int x.2.2.2.2.2)] → WW X q s 6 ls []) (We := fun (e : (Int32)) (s : S1) => ∀ ls : Array Slot, lv_has ls 6 [(4, .int e)] → WW X q s 32 ls []) (fun x s o hb hc => lp_Mo_hash_L6 (q := q) g x s o hb hc) hw ?_ ls hp0 hp1 (lv_sub hl [3, 4, 5, 1, 0] rfl)
  clear hw hl
  clear ls
  intro ls hl
  generalize s1 = s at h ⊢
  refine ww_iload (pc := 32) g.1 d_Mo_hash_32 (lv_at hl 0 rfl) ?_
  refine ww_sipush (pc := 34) g.1 (v := 1023) d_Mo_hash_34 (by decide) ?_
  refine ww_iand (pc := 37) g.1 d_Mo_hash_37 ?_
  exact ww_iretH (pc := 38) g h hR d_Mo_hash_38

abbrev b_Mo_forget : ByteArray := prog_14_method_51_code
def y_Mo_forget : MethodName := ⟨R_Mo, "forget", "(LLuaMachineModel$Thread_;I)V"⟩
abbrev w_Mo_forget : List Cond := .code y_Mo_forget b_Mo_forget 5 none :: wA
theorem k_Mo_forget : Cond.code y_Mo_forget b_Mo_forget 5 none ∈ wA := kinm (show _ ∈ tables_1 from (List.mem_append_right _ (List.mem_append_right _ (List.mem_append_right _ (List.mem_append_right _ (List.mem_append_right _ (List.mem_append_right _ (List.mem_append_right _ (List.mem_append_right _ (List.mem_append_right _ (List.mem_append_right _ (List.mem_append_right _ (List.mem_append_left _ (List.mem_of_getElem? (l := tables_1_12) (i := 57) (by decide +kernel))))))))))))))) (by decide +kernel)
theorem d_Mo_forget_0 : decode b_Mo_forget 0 = .ok (.iconst 0, 1) := by decide +kernel
theorem d_Mo_forget_1 : decode b_Mo_forget 1 = .ok (.istore_n 3, 1) := by decide +kernel
theorem d_Mo_forget_2 : decode b_Mo_forget 2 = .ok (.iconst 0, 1) := by decide +kernel
theorem d_Mo_forget_3 : decode b_Mo_forget 3 = .ok (.istore 4, 2) := by decide +kernel
theorem d_Mo_forget_5 : decode b_Mo_forget 5 = .ok (.iload 4, 2) := by decide +kernel
theorem d_Mo_forget_7 : decode b_Mo_forget 7 = .ok (.aload_n 1, 1) := by decide +kernel
theorem d_Mo_forget_8 : decode b_Mo_forget 8 = .ok (.getfield 597, 3) := by decide +kernel
theorem d_Mo_forget_11 : decode b_Mo_forget 11 = .ok (.if_icmp .ge 36, 3) := by decide +kernel
theorem d_Mo_forget_14 : decode b_Mo_forget 14 = .ok (.aload_n 1, 1) := by decide +kernel
theorem d_Mo_forget_15 : decode b_Mo_forget 15 = .ok (.getfield 600, 3) := by decide +kernel
theorem d_Mo_forget_18 : decode b_Mo_forget 18 = .ok (.iload 4, 2) := by decide +kernel
theorem d_Mo_forget_20 : decode b_Mo_forget 20 = .ok (.iaload, 1) := by decide +kernel
theorem d_Mo_forget_21 : decode b_Mo_forget 21 = .ok (.iload_n 2, 1) := by decide +kernel
theorem d_Mo_forget_22 : decode b_Mo_forget 22 = .ok (.if_icmp .eq 19, 3) := by decide +kernel
theorem d_Mo_forget_25 : decode b_Mo_forget 25 = .ok (.aload_n 1, 1) := by decide +kernel
theorem d_Mo_forget_26 : decode b_Mo_forget 26 = .ok (.getfield 600, 3) := by decide +kernel
theorem d_Mo_forget_29 : decode b_Mo_forget 29 = .ok (.iload_n 3, 1) := by decide +kernel
theorem d_Mo_forget_30 : decode b_Mo_forget 30 = .ok (.iinc 3 1, 3) := by decide +kernel
theorem d_Mo_forget_33 : decode b_Mo_forget 33 = .ok (.aload_n 1, 1) := by decide +kernel
theorem d_Mo_forget_34 : decode b_Mo_forget 34 = .ok (.getfield 600, 3) := by decide +kernel
theorem d_Mo_forget_37 : decode b_Mo_forget 37 = .ok (.iload 4, 2) := by decide +kernel
theorem d_Mo_forget_39 : decode b_Mo_forget 39 = .ok (.iaload, 1) := by decide +kernel
theorem d_Mo_forget_40 : decode b_Mo_forget 40 = .ok (.iastore, 1) := by decide +kernel
theorem d_Mo_forget_41 : decode b_Mo_forget 41 = .ok (.iinc 4 1, 3) := by decide +kernel
theorem d_Mo_forget_44 : decode b_Mo_forget 44 = .ok (.goto (-39), 3) := by decide +kernel
theorem d_Mo_forget_47 : decode b_Mo_forget 47 = .ok (.aload_n 1, 1) := by decide +kernel
theorem d_Mo_forget_48 : decode b_Mo_forget 48 = .ok (.iload_n 3, 1) := by decide +kernel
theorem d_Mo_forget_49 : decode b_Mo_forget 49 = .ok (.putfield 597, 3) := by decide +kernel
theorem d_Mo_forget_52 : decode b_Mo_forget 52 = .ok (.return_, 1) := by decide +kernel
theorem kw_106 : Cond.fieldLink R_Mo 597 "LuaMachineModel$Thread_" "openCount" "I" ∈ wA := kinm (show _ ∈ tables_1 from (List.mem_append_right _ (List.mem_append_right _ (List.mem_append_right _ (List.mem_append_right _ (List.mem_append_right _ (List.mem_append_right _ (List.mem_append_right _ (List.mem_append_right _ (List.mem_append_left _ (List.mem_of_getElem? (l := tables_1_9) (i := 212) (by decide +kernel)))))))))))) (by decide +kernel)
theorem kw_107 : Cond.fieldLink R_Mo 600 "LuaMachineModel$Thread_" "open" "[I" ∈ wA := kinm (show _ ∈ tables_1 from (List.mem_append_right _ (List.mem_append_right _ (List.mem_append_right _ (List.mem_append_right _ (List.mem_append_right _ (List.mem_append_right _ (List.mem_append_right _ (List.mem_append_right _ (List.mem_append_left _ (List.mem_of_getElem? (l := tables_1_9) (i := 225) (by decide +kernel)))))))))))) (by decide +kernel)
theorem kw_108 : Cond.instanceMethod y_Mo_forget ∈ wA := kinm (show _ ∈ tables_1 from (List.mem_append_right _ (List.mem_append_right _ (List.mem_append_right _ (List.mem_append_right _ (List.mem_append_right _ (List.mem_append_right _ (List.mem_append_right _ (List.mem_append_right _ (List.mem_append_right _ (List.mem_append_right _ (List.mem_append_right _ (List.mem_append_left _ (List.mem_of_getElem? (l := tables_1_12) (i := 56) (by decide +kernel))))))))))))))) (by decide +kernel)
theorem kw_109 : Cond.selects R_Mo y_Mo_forget y_Mo_forget ∈ wA := kinp 140 (by decide +kernel) (by decide +kernel)
def M_Mo_forget_j41 (l1 : Int32) (l2 : Int32) (l3 : Int32) (l4 : Int32) : M ((Int32 × Int32 × Int32 × Int32) ⊕ ((Int32 × Int32))) :=
  oR (Sum.inl (l1, l2, l3, l4 + 1))

def M_Mo_forget_L5 : (Int32 × Int32 × Int32 × Int32) → M ((Int32 × Int32 × Int32 × Int32) ⊕ ((Int32 × Int32))) := fun x =>
  oB (oGI 3587 x.1) fun v8 =>
  oC (v8 ≤ x.2.2.2)
    (oR (Sum.inr (x.1, x.2.2.1)))
    (oB (oAI 29 4100 x.1 x.2.2.2) fun v20 =>
    oC (v20 = x.2.1)
      (M_Mo_forget_j41 x.1 x.2.1 x.2.2.1 x.2.2.2)
      (oB (oAI 29 4100 x.1 x.2.2.2) fun v39 =>
      oB (oSI 29 4100 x.1 x.2.2.1 v39) fun _ =>
      M_Mo_forget_j41 x.1 x.2.1 (x.2.2.1 + 1) x.2.2.2))

def M_Mo_forget (l1 : Int32) (l2 : Int32) : M (Unit) :=
  oB (oW M_Mo_forget_L5 (l1, l2, 0, 0)) fun e5 =>
  oB (oPI 3587 e5.1 e5.2) fun _ =>
  oR ()

theorem cv_Mo_forget : CV y_Mo_forget b_Mo_forget 5 none 2 := ⟨kw_108, kw_109, kw_17, k_Mo_forget, by decide +kernel⟩
theorem j_Mo_forget_j41 {X : Cx} {q : PL} (g : Gd X y_Mo_forget b_Mo_forget 5 none 0 0 R_Mo) {o : ((Int32 × Int32 × Int32 × Int32) ⊕ ((Int32 × Int32))) × S1} (hR : (Sum.elim (fun y : Int32 × Int32 × Int32 × Int32 => ∀ ls : Array Slot, (0 ≤ y.1 ∧ y.1 < 33) → lv_has ls 5 [(1, .ref (q.1 28 y.1)), (2, .int y.2.1), (3, .int y.2.2.1), (4, .int y.2.2.2)] → WW X q o.2 5 ls []) (fun y : Int32 × Int32 => ∀ ls : Array Slot, (0 ≤ y.1 ∧ y.1 < 33) → lv_has ls 5 [(1, .ref (q.1 28 y.1)), (3, .int y.2)] → WW X q o.2 47 ls []) o.1)) (l1 : Int32) (l2 : Int32) (l3 : Int32) (l4 : Int32) (s : S1) (hp0 : 0 ≤ l1 ∧ l1 < 33) (ls : Array Slot) (hl : lv_has ls 5 [(1, .ref (q.1 28 l1)), (2, .int l2), (3, .int l3), (4, .int l4)]) (h : M_Mo_forget_j41 l1 l2 l3 l4 s = some o) : WW X q s 41 ls [] := by
  unfold M_Mo_forget_j41 at h
  refine ww_iinc (pc := 41) g.1 (v := l4 + 1) (lv' := [(4, .int (l4 + 1)), (1, .ref (q.1 28 l1)), (2, .int l2), (3, .int l3)]) d_Mo_forget_41 hl (k := 3) rfl (by rfl) (by decide) rfl fun ls hl => ?_
  refine ww_goto (pc := 44) (tgt := 5) g.1 d_Mo_forget_44 (by decide) ?_
  rw [oR_eq h] at hR
  exact hR ls hp0 (lv_sub hl [1, 2, 3, 0] rfl)

theorem lp_Mo_forget_L5 {X : Cx} {q : PL} (g : Gd X y_Mo_forget b_Mo_forget 5 none 0 0 R_Mo) (x : Int32 × Int32 × Int32 × Int32) (s : S1) (o : ((Int32 × Int32 × Int32 × Int32) ⊕ ((Int32 × Int32))) × S1) (h : M_Mo_forget_L5 x s = some o) (hR : (Sum.elim (fun y : Int32 × Int32 × Int32 × Int32 => ∀ ls : Array Slot, (0 ≤ y.1 ∧ y.1 < 33) → lv_has ls 5 [(1, .ref (q.1 28 y.1)), (2, .int y.2.1), (3, .int y.2.2.1), (4, .int y.2.2.2)] → WW X q o.2 5 ls []) (fun y : Int32 × Int32 => ∀ ls : Array Slot, (0 ≤ y.1 ∧ y.1 < 33) → lv_has ls 5 [(1, .ref (q.1 28 y.1)), (3, .int y.2)] → WW X q o.2 47 ls []) o.1)) : ∀ ls : Array Slot, (0 ≤ x.1 ∧ x.1 < 33) → lv_has ls 5 [(1, .ref (q.1 28 x.1)), (2, .int x.2.1), (3, .int x.2.2.1), (4, .int x.2.2.2)] → WW X q s 5 ls [] := by
  intro ls hp0 hl
  unfold M_Mo_forget_L5 at h
  refine ww_iload (pc := 5) g.1 d_Mo_forget_5 (lv_at hl 3 rfl) ?_
  refine ww_aload_n (pc := 7) g.1 d_Mo_forget_7 rfl (lv_at hl 0 rfl) ?_
  refine ww_gI (pc := 8) g (k := 3) cl_Th (pt rfl rfl hp0) (by decide) (Or.inl kw_106) (f := 3587) rfl rfl d_Mo_forget_8 h fun v8 h => ?_
  refine ww_icmp_ge (pc := 11) (tgt := 47) g.1 d_Mo_forget_11 (by decide) h (fun c h => ?_) (fun c h => ?_)
  · rw [oR_eq h] at hR
    exact hR ls hp0 (lv_sub hl [0, 2] rfl)
  · refine ww_aload_n (pc := 14) g.1 d_Mo_forget_14 rfl (lv_at hl 0 rfl) ?_
    refine ww_gR (pc := 15) g (k := 10) cl_Th (pt rfl rfl hp0) (by decide) (Or.inl kw_107) (f := 3594) (t := 29) rfl rfl rfl d_Mo_forget_15 ?_
    refine ww_iload (pc := 18) g.1 d_Mo_forget_18 (lv_at hl 3 rfl) ?_
    refine ww_ai (pc := 20) g (pt rfl rfl hp0) rfl rfl d_Mo_forget_20 h fun v20 h => ?_
    refine ww_iload_n (pc := 21) g.1 d_Mo_forget_21 rfl (lv_at hl 1 rfl) ?_
    refine ww_icmp_eq (pc := 22) (tgt := 41) g.1 d_Mo_forget_22 (by decide) h (fun c h => ?_) (fun c h => ?_)
    · exact j_Mo_forget_j41 g hR x.1 x.2.1 x.2.2.1 x.2.2.2 s hp0 ls (lv_sub hl [0, 1, 2, 3] rfl) h
    · refine ww_aload_n (pc := 25) g.1 d_Mo_forget_25 rfl (lv_at hl 0 rfl) ?_
      refine ww_gR (pc := 26) g (k := 10) cl_Th (pt rfl rfl hp0) (by decide) (Or.inl kw_107) (f := 3594) (t := 29) rfl rfl rfl d_Mo_forget_26 ?_
      refine ww_iload_n (pc := 29) g.1 d_Mo_forget_29 rfl (lv_at hl 2 rfl) ?_
      refine ww_iinc (pc := 30) g.1 (v := x.2.2.1 + 1) (lv' := [(3, .int (x.2.2.1 + 1)), (1, .ref (q.1 28 x.1)), (2, .int x.2.1), (4, .int x.2.2.2)]) d_Mo_forget_30 hl (k := 2) rfl (by rfl) (by decide) rfl fun ls hl => ?_
      refine ww_aload_n (pc := 33) g.1 d_Mo_forget_33 rfl (lv_at hl 1 rfl) ?_
      refine ww_gR (pc := 34) g (k := 10) cl_Th (pt rfl rfl hp0) (by decide) (Or.inl kw_107) (f := 3594) (t := 29) rfl rfl rfl d_Mo_forget_34 ?_
      refine ww_iload (pc := 37) g.1 d_Mo_forget_37 (lv_at hl 3 rfl) ?_
      refine ww_ai (pc := 39) g (pt rfl rfl hp0) rfl rfl d_Mo_forget_39 h fun v39 h => ?_
      refine ww_si (pc := 40) g (pt rfl rfl hp0) rfl rfl d_Mo_forget_40 h fun s hs h => ?_
      exact j_Mo_forget_j41 g hR x.1 x.2.1 (x.2.2.1 + 1) x.2.2.2 s hp0 ls (lv_sub hl [1, 2, 0, 3] rfl) h

theorem ct_Mo_forget {l : Launch} {P : PP} {q : PL} {s s' : S1} {l1 : Int32} {l2 : Int32} (hp0 : 0 ≤ l1 ∧ l1 < 33) {r : Unit} (h : M_Mo_forget l1 l2 s = some (r, s')) : Ct l y_Mo_forget b_Mo_forget 5 none 0 0 P q s [.ref (q.1 0 0), .ref (q.1 28 l1), .int l2] none q s' := by
  refine ct_of (by decide) (Nat.le_of_ble_eq_true rfl) fun X ls eP el g hR hl => ?_
  have hR : Rt X q ((r, s') : Unit × S1).2 none := hR
  have hl : lv_has ls 5 [(0, .ref (q.1 0 0)), (1, .ref (q.1 28 l1)), (2, .int l2)] := hl
  generalize (r, s') = o at h hR
  unfold M_Mo_forget at h
  refine ww_iconst (pc := 0) g.1 (v := 0) d_Mo_forget_0 (by decide) ?_
  refine ww_istore_n (pc := 1) g.1 (lv' := [(3, .int 0), (0, .ref (q.1 0 0)), (1, .ref (q.1 28 l1)), (2, .int l2)]) d_Mo_forget_1 rfl hl (by decide) rfl fun ls hl => ?_
  refine ww_iconst (pc := 2) g.1 (v := 0) d_Mo_forget_2 (by decide) ?_
  refine ww_istore (pc := 3) g.1 (lv' := [(4, .int 0), (3, .int 0), (0, .ref (q.1 0 0)), (1, .ref (q.1 28 l1)), (2, .int l2)]) d_Mo_forget_3 hl (by decide) rfl fun ls hl => ?_
  obtain ⟨e5, s1, hw, h⟩ := oB_of h
  refine oW_rule (Wh := fun (x : Int32 × Int32 × Int32 × Int32) (s : S1) => ∀ ls : Array Slot, (0 ≤ x.1 ∧ x.1 < 33) → lv_has ls 5 [(1, .ref (q.1 28 x.1)), (2, .int x.2.1), (3, .int x.2.2.1), (4, .int x.2.2.2)] → WW X q s 5 ls []) (We := fun (e : (Int32 × Int32)) (s : S1) => ∀ ls : Array Slot, (0 ≤ e.1 ∧ e.1 < 33) → lv_has ls 5 [(1, .ref (q.1 28 e.1)), (3, .int e.2)] → WW X q s 47 ls []) (fun x s o hb hc => lp_Mo_forget_L5 (q := q) g x s o hb hc) hw ?_ ls hp0 (lv_sub hl [3, 4, 1, 0] rfl)
  clear hw hl
  clear ls
  intro ls hq5_0 hl
  generalize s1 = s at h ⊢
  refine ww_aload_n (pc := 47) g.1 d_Mo_forget_47 rfl (lv_at hl 0 rfl) ?_
  refine ww_iload_n (pc := 48) g.1 d_Mo_forget_48 rfl (lv_at hl 1 rfl) ?_
  refine ww_pI (pc := 49) g (k := 3) cl_Th (pt rfl rfl hq5_0) (by decide) (Or.inl kw_106) rfl (f := 3587) rfl rfl rfl rfl d_Mo_forget_49 h fun s hs h => ?_
  exact ww_vretH (pc := 52) g h hR d_Mo_forget_52

abbrev b_Mo_object : ByteArray := prog_14_method_28_code
def y_Mo_object : MethodName := ⟨R_Mo, "object", "(I)I"⟩
abbrev w_Mo_object : List Cond := .code y_Mo_object b_Mo_object 3 (some .int) :: wA
theorem k_Mo_object : Cond.code y_Mo_object b_Mo_object 3 (some .int) ∈ wA := kinm (show _ ∈ tables_1 from (List.mem_append_right _ (List.mem_append_right _ (List.mem_append_right _ (List.mem_append_right _ (List.mem_append_right _ (List.mem_append_right _ (List.mem_append_right _ (List.mem_append_right _ (List.mem_append_right _ (List.mem_append_right _ (List.mem_append_right _ (List.mem_append_left _ (List.mem_of_getElem? (l := tables_1_12) (i := 61) (by decide +kernel))))))))))))))) (by decide +kernel)
theorem d_Mo_object_0 : decode b_Mo_object 0 = .ok (.aload_n 0, 1) := by decide +kernel
theorem d_Mo_object_1 : decode b_Mo_object 1 = .ok (.getfield 183, 3) := by decide +kernel
theorem d_Mo_object_4 : decode b_Mo_object 4 = .ok (.ifCond .le 22, 3) := by decide +kernel
theorem d_Mo_object_7 : decode b_Mo_object 7 = .ok (.aload_n 0, 1) := by decide +kernel
theorem d_Mo_object_8 : decode b_Mo_object 8 = .ok (.getfield 180, 3) := by decide +kernel
theorem d_Mo_object_11 : decode b_Mo_object 11 = .ok (.aload_n 0, 1) := by decide +kernel
theorem d_Mo_object_12 : decode b_Mo_object 12 = .ok (.dup, 1) := by decide +kernel
theorem d_Mo_object_13 : decode b_Mo_object 13 = .ok (.getfield 183, 3) := by decide +kernel
theorem d_Mo_object_16 : decode b_Mo_object 16 = .ok (.iconst 1, 1) := by decide +kernel
theorem d_Mo_object_17 : decode b_Mo_object 17 = .ok (.isub, 1) := by decide +kernel
theorem d_Mo_object_18 : decode b_Mo_object 18 = .ok (.dup_x1, 1) := by decide +kernel
theorem d_Mo_object_19 : decode b_Mo_object 19 = .ok (.putfield 183, 3) := by decide +kernel
theorem d_Mo_object_22 : decode b_Mo_object 22 = .ok (.iaload, 1) := by decide +kernel
theorem d_Mo_object_23 : decode b_Mo_object 23 = .ok (.goto 14, 3) := by decide +kernel
theorem d_Mo_object_26 : decode b_Mo_object 26 = .ok (.aload_n 0, 1) := by decide +kernel
theorem d_Mo_object_27 : decode b_Mo_object 27 = .ok (.dup, 1) := by decide +kernel
theorem d_Mo_object_28 : decode b_Mo_object 28 = .ok (.getfield 140, 3) := by decide +kernel
theorem d_Mo_object_31 : decode b_Mo_object 31 = .ok (.dup_x1, 1) := by decide +kernel
theorem d_Mo_object_32 : decode b_Mo_object 32 = .ok (.iconst 1, 1) := by decide +kernel
theorem d_Mo_object_33 : decode b_Mo_object 33 = .ok (.iadd, 1) := by decide +kernel
theorem d_Mo_object_34 : decode b_Mo_object 34 = .ok (.putfield 140, 3) := by decide +kernel
theorem d_Mo_object_37 : decode b_Mo_object 37 = .ok (.istore_n 2, 1) := by decide +kernel
theorem d_Mo_object_38 : decode b_Mo_object 38 = .ok (.aload_n 0, 1) := by decide +kernel
theorem d_Mo_object_39 : decode b_Mo_object 39 = .ok (.getfield 155, 3) := by decide +kernel
theorem d_Mo_object_42 : decode b_Mo_object 42 = .ok (.iload_n 2, 1) := by decide +kernel
theorem d_Mo_object_43 : decode b_Mo_object 43 = .ok (.iload_n 1, 1) := by decide +kernel
theorem d_Mo_object_44 : decode b_Mo_object 44 = .ok (.i2b, 1) := by decide +kernel
theorem d_Mo_object_45 : decode b_Mo_object 45 = .ok (.bastore, 1) := by decide +kernel
theorem d_Mo_object_46 : decode b_Mo_object 46 = .ok (.aload_n 0, 1) := by decide +kernel
theorem d_Mo_object_47 : decode b_Mo_object 47 = .ok (.getfield 162, 3) := by decide +kernel
theorem d_Mo_object_50 : decode b_Mo_object 50 = .ok (.iload_n 2, 1) := by decide +kernel
theorem d_Mo_object_51 : decode b_Mo_object 51 = .ok (.iconst 0, 1) := by decide +kernel
theorem d_Mo_object_52 : decode b_Mo_object 52 = .ok (.bastore, 1) := by decide +kernel
theorem d_Mo_object_53 : decode b_Mo_object 53 = .ok (.aload_n 0, 1) := by decide +kernel
theorem d_Mo_object_54 : decode b_Mo_object 54 = .ok (.getfield 165, 3) := by decide +kernel
theorem d_Mo_object_57 : decode b_Mo_object 57 = .ok (.iload_n 2, 1) := by decide +kernel
theorem d_Mo_object_58 : decode b_Mo_object 58 = .ok (.aload_n 0, 1) := by decide +kernel
theorem d_Mo_object_59 : decode b_Mo_object 59 = .ok (.dup, 1) := by decide +kernel
theorem d_Mo_object_60 : decode b_Mo_object 60 = .ok (.getfield 119, 3) := by decide +kernel
theorem d_Mo_object_63 : decode b_Mo_object 63 = .ok (.dup_x1, 1) := by decide +kernel
theorem d_Mo_object_64 : decode b_Mo_object 64 = .ok (.iconst 1, 1) := by decide +kernel
theorem d_Mo_object_65 : decode b_Mo_object 65 = .ok (.iadd, 1) := by decide +kernel
theorem d_Mo_object_66 : decode b_Mo_object 66 = .ok (.putfield 119, 3) := by decide +kernel
theorem d_Mo_object_69 : decode b_Mo_object 69 = .ok (.iastore, 1) := by decide +kernel
theorem d_Mo_object_70 : decode b_Mo_object 70 = .ok (.aload_n 0, 1) := by decide +kernel
theorem d_Mo_object_71 : decode b_Mo_object 71 = .ok (.dup, 1) := by decide +kernel
theorem d_Mo_object_72 : decode b_Mo_object 72 = .ok (.getfield 146, 3) := by decide +kernel
theorem d_Mo_object_75 : decode b_Mo_object 75 = .ok (.iconst 1, 1) := by decide +kernel
theorem d_Mo_object_76 : decode b_Mo_object 76 = .ok (.iadd, 1) := by decide +kernel
theorem d_Mo_object_77 : decode b_Mo_object 77 = .ok (.putfield 146, 3) := by decide +kernel
theorem d_Mo_object_80 : decode b_Mo_object 80 = .ok (.aload_n 0, 1) := by decide +kernel
theorem d_Mo_object_81 : decode b_Mo_object 81 = .ok (.dup, 1) := by decide +kernel
theorem d_Mo_object_82 : decode b_Mo_object 82 = .ok (.getfield 122, 3) := by decide +kernel
theorem d_Mo_object_85 : decode b_Mo_object 85 = .ok (.iconst 1, 1) := by decide +kernel
theorem d_Mo_object_86 : decode b_Mo_object 86 = .ok (.iadd, 1) := by decide +kernel
theorem d_Mo_object_87 : decode b_Mo_object 87 = .ok (.putfield 122, 3) := by decide +kernel
theorem d_Mo_object_90 : decode b_Mo_object 90 = .ok (.iload_n 2, 1) := by decide +kernel
theorem d_Mo_object_91 : decode b_Mo_object 91 = .ok (.ireturn, 1) := by decide +kernel
theorem kw_110 : Cond.fieldLink R_Mo 183 "LuaMachineModel" "freed" "I" ∈ wA := kinm (show _ ∈ tables_1 from (List.mem_append_right _ (List.mem_append_right _ (List.mem_append_right _ (List.mem_append_right _ (List.mem_append_right _ (List.mem_append_right _ (List.mem_append_right _ (List.mem_append_right _ (List.mem_append_right _ (List.mem_append_left _ (List.mem_of_getElem? (l := tables_1_10) (i := 110) (by decide +kernel))))))))))))) (by decide +kernel)
theorem kw_111 : Cond.fieldLink R_Mo 140 "LuaMachineModel" "used" "I" ∈ wA := kinm (show _ ∈ tables_1 from (List.mem_append_right _ (List.mem_append_right _ (List.mem_append_right _ (List.mem_append_right _ (List.mem_append_right _ (List.mem_append_right _ (List.mem_append_right _ (List.mem_append_right _ (List.mem_append_right _ (List.mem_append_left _ (List.mem_of_getElem? (l := tables_1_10) (i := 95) (by decide +kernel))))))))))))) (by decide +kernel)
theorem kw_112 : Cond.fieldLink R_Mo 155 "LuaMachineModel" "sort" "[B" ∈ wA := kinm (show _ ∈ tables_1 from (List.mem_append_right _ (List.mem_append_right _ (List.mem_append_right _ (List.mem_append_right _ (List.mem_append_right _ (List.mem_append_right _ (List.mem_append_right _ (List.mem_append_right _ (List.mem_append_right _ (List.mem_append_left _ (List.mem_of_getElem? (l := tables_1_10) (i := 100) (by decide +kernel))))))))))))) (by decide +kernel)
theorem kw_113 : Cond.fieldLink R_Mo 162 "LuaMachineModel" "fixed" "[Z" ∈ wA := kinm (show _ ∈ tables_1 from (List.mem_append_right _ (List.mem_append_right _ (List.mem_append_right _ (List.mem_append_right _ (List.mem_append_right _ (List.mem_append_right _ (List.mem_append_right _ (List.mem_append_right _ (List.mem_append_right _ (List.mem_append_left _ (List.mem_of_getElem? (l := tables_1_10) (i := 102) (by decide +kernel))))))))))))) (by decide +kernel)
theorem kw_114 : Cond.fieldLink R_Mo 165 "LuaMachineModel" "tag" "[I" ∈ wA := kinm (show _ ∈ tables_1 from (List.mem_append_right _ (List.mem_append_right _ (List.mem_append_right _ (List.mem_append_right _ (List.mem_append_right _ (List.mem_append_right _ (List.mem_append_right _ (List.mem_append_right _ (List.mem_append_right _ (List.mem_append_left _ (List.mem_of_getElem? (l := tables_1_10) (i := 103) (by decide +kernel))))))))))))) (by decide +kernel)
theorem kw_115 : Cond.fieldLink R_Mo 119 "LuaMachineModel" "made" "I" ∈ wA := kinm (show _ ∈ tables_1 from (List.mem_append_right _ (List.mem_append_right _ (List.mem_append_right _ (List.mem_append_right _ (List.mem_append_right _ (List.mem_append_right _ (List.mem_append_right _ (List.mem_append_right _ (List.mem_append_right _ (List.mem_append_left _ (List.mem_of_getElem? (l := tables_1_10) (i := 88) (by decide +kernel))))))))))))) (by decide +kernel)
theorem kw_116 : Cond.fieldLink R_Mo 146 "LuaMachineModel" "madeAll" "I" ∈ wA := kinm (show _ ∈ tables_1 from (List.mem_append_right _ (List.mem_append_right _ (List.mem_append_right _ (List.mem_append_right _ (List.mem_append_right _ (List.mem_append_right _ (List.mem_append_right _ (List.mem_append_right _ (List.mem_append_right _ (List.mem_append_left _ (List.mem_of_getElem? (l := tables_1_10) (i := 97) (by decide +kernel))))))))))))) (by decide +kernel)
theorem kw_117 : Cond.fieldLink R_Mo 122 "LuaMachineModel" "existing" "I" ∈ wA := kinm (show _ ∈ tables_1 from (List.mem_append_right _ (List.mem_append_right _ (List.mem_append_right _ (List.mem_append_right _ (List.mem_append_right _ (List.mem_append_right _ (List.mem_append_right _ (List.mem_append_right _ (List.mem_append_right _ (List.mem_append_left _ (List.mem_of_getElem? (l := tables_1_10) (i := 89) (by decide +kernel))))))))))))) (by decide +kernel)
theorem kw_118 : Cond.fieldLink R_Mo 180 "LuaMachineModel" "free" "[I" ∈ wA := kinm (show _ ∈ tables_1 from (List.mem_append_right _ (List.mem_append_right _ (List.mem_append_right _ (List.mem_append_right _ (List.mem_append_right _ (List.mem_append_right _ (List.mem_append_right _ (List.mem_append_right _ (List.mem_append_right _ (List.mem_append_left _ (List.mem_of_getElem? (l := tables_1_10) (i := 109) (by decide +kernel))))))))))))) (by decide +kernel)
theorem kw_119 : Cond.instanceMethod y_Mo_object ∈ wA := kinm (show _ ∈ tables_1 from (List.mem_append_right _ (List.mem_append_right _ (List.mem_append_right _ (List.mem_append_right _ (List.mem_append_right _ (List.mem_append_right _ (List.mem_append_right _ (List.mem_append_right _ (List.mem_append_right _ (List.mem_append_right _ (List.mem_append_right _ (List.mem_append_left _ (List.mem_of_getElem? (l := tables_1_12) (i := 60) (by decide +kernel))))))))))))))) (by decide +kernel)
theorem kw_120 : Cond.selects R_Mo y_Mo_object y_Mo_object ∈ wA := kinp 141 (by decide +kernel) (by decide +kernel)
def M_Mo_object_j37 (l1 : Int32) (k0 : Int32) : M (Int32) :=
  oB (oSI 58 4100 0 k0 l1.toInt8.toInt32.toInt8.toInt32) fun _ =>
  oB (oSI 60 4100 0 k0 (vp_nar .boolean 0)) fun _ =>
  oB (oGI 33 0) fun v60 =>
  oB (oPI 33 0 (v60 + 1)) fun _ =>
  oB (oSI 61 4100 0 k0 v60) fun _ =>
  oB (oGI 42 0) fun v72 =>
  oB (oPI 42 0 (v72 + 1)) fun _ =>
  oB (oGI 34 0) fun v82 =>
  oB (oPI 34 0 (v82 + 1)) fun _ =>
  oR k0

def M_Mo_object (l1 : Int32) : M (Int32) :=
  oB (oGI 54 0) fun v1 =>
  oC (v1 ≤ 0)
    (oB (oGI 40 0) fun v28 =>
    oB (oPI 40 0 (v28 + 1)) fun _ =>
    M_Mo_object_j37 l1 v28)
    (oB (oGI 54 0) fun v13 =>
    oB (oPI 54 0 (v13 - 1)) fun _ =>
    oB (oAI 66 4100 0 (v13 - 1)) fun v22 =>
    M_Mo_object_j37 l1 v22)

theorem cv_Mo_object : CV y_Mo_object b_Mo_object 3 (some .int) 1 := ⟨kw_119, kw_120, kw_17, k_Mo_object, by decide +kernel⟩
theorem j_Mo_object_j37 {X : Cx} {q : PL} (g : Gd X y_Mo_object b_Mo_object 3 (some .int) 0 0 R_Mo) {o : (Int32) × S1} (hR : Rt X q o.2 (some (.int o.1))) (l1 : Int32) (k0 : Int32) (s : S1) (ls : Array Slot) (hl : lv_has ls 3 [(0, .ref (q.1 0 0)), (1, .int l1)]) (h : M_Mo_object_j37 l1 k0 s = some o) : WW X q s 37 ls [.int k0] := by
  unfold M_Mo_object_j37 at h
  refine ww_istore_n (pc := 37) g.1 (lv' := [(2, .int k0), (0, .ref (q.1 0 0)), (1, .int l1)]) d_Mo_object_37 rfl hl (by decide) rfl fun ls hl => ?_
  refine ww_aload_n (pc := 38) g.1 d_Mo_object_38 rfl (lv_at hl 1 rfl) ?_
  refine ww_gR (pc := 39) g (k := 45) cl_Mo (pz rfl (by decide)) (by decide) (Or.inl kw_112) (f := 45) (t := 58) rfl rfl rfl d_Mo_object_39 ?_
  refine ww_iload_n (pc := 42) g.1 d_Mo_object_42 rfl (lv_at hl 0 rfl) ?_
  refine ww_iload_n (pc := 43) g.1 d_Mo_object_43 rfl (lv_at hl 2 rfl) ?_
  refine ww_i2b (pc := 44) g.1 (v := l1.toInt8.toInt32) d_Mo_object_44 rfl ?_
  refine ww_sb (pc := 45) g (pz rfl (by decide)) rfl rfl d_Mo_object_45 h fun s hs h => ?_
  refine ww_aload_n (pc := 46) g.1 d_Mo_object_46 rfl (lv_at hl 1 rfl) ?_
  refine ww_gR (pc := 47) g (k := 47) cl_Mo (pz rfl (by decide)) (by decide) (Or.inl kw_113) (f := 47) (t := 60) rfl rfl rfl d_Mo_object_47 ?_
  refine ww_iload_n (pc := 50) g.1 d_Mo_object_50 rfl (lv_at hl 0 rfl) ?_
  refine ww_iconst (pc := 51) g.1 (v := 0) d_Mo_object_51 (by decide) ?_
  refine ww_sz (pc := 52) g (pz rfl (by decide)) rfl rfl d_Mo_object_52 h fun s hs h => ?_
  refine ww_aload_n (pc := 53) g.1 d_Mo_object_53 rfl (lv_at hl 1 rfl) ?_
  refine ww_gR (pc := 54) g (k := 48) cl_Mo (pz rfl (by decide)) (by decide) (Or.inl kw_114) (f := 48) (t := 61) rfl rfl rfl d_Mo_object_54 ?_
  refine ww_iload_n (pc := 57) g.1 d_Mo_object_57 rfl (lv_at hl 0 rfl) ?_
  refine ww_aload_n (pc := 58) g.1 d_Mo_object_58 rfl (lv_at hl 1 rfl) ?_
  refine ww_dup (pc := 59) g.1 d_Mo_object_59 rfl ?_
  refine ww_gI (pc := 60) g (k := 33) cl_Mo (pz rfl (by decide)) (by decide) (Or.inl kw_115) (f := 33) rfl rfl d_Mo_object_60 h fun v60 h => ?_
  refine ww_dup_x1 (pc := 63) g.1 d_Mo_object_63 rfl rfl ?_
  refine ww_iconst (pc := 64) g.1 (v := 1) d_Mo_object_64 (by decide) ?_
  refine ww_iadd (pc := 65) g.1 d_Mo_object_65 ?_
  refine ww_pI (pc := 66) g (k := 33) cl_Mo (pz rfl (by decide)) (by decide) (Or.inl kw_115) rfl (f := 33) rfl rfl rfl rfl d_Mo_object_66 h fun s hs h => ?_
  refine ww_si (pc := 69) g (pz rfl (by decide)) rfl rfl d_Mo_object_69 h fun s hs h => ?_
  refine ww_aload_n (pc := 70) g.1 d_Mo_object_70 rfl (lv_at hl 1 rfl) ?_
  refine ww_dup (pc := 71) g.1 d_Mo_object_71 rfl ?_
  refine ww_gI (pc := 72) g (k := 42) cl_Mo (pz rfl (by decide)) (by decide) (Or.inl kw_116) (f := 42) rfl rfl d_Mo_object_72 h fun v72 h => ?_
  refine ww_iconst (pc := 75) g.1 (v := 1) d_Mo_object_75 (by decide) ?_
  refine ww_iadd (pc := 76) g.1 d_Mo_object_76 ?_
  refine ww_pI (pc := 77) g (k := 42) cl_Mo (pz rfl (by decide)) (by decide) (Or.inl kw_116) rfl (f := 42) rfl rfl rfl rfl d_Mo_object_77 h fun s hs h => ?_
  refine ww_aload_n (pc := 80) g.1 d_Mo_object_80 rfl (lv_at hl 1 rfl) ?_
  refine ww_dup (pc := 81) g.1 d_Mo_object_81 rfl ?_
  refine ww_gI (pc := 82) g (k := 34) cl_Mo (pz rfl (by decide)) (by decide) (Or.inl kw_117) (f := 34) rfl rfl d_Mo_object_82 h fun v82 h => ?_
  refine ww_iconst (pc := 85) g.1 (v := 1) d_Mo_object_85 (by decide) ?_
  refine ww_iadd (pc := 86) g.1 d_Mo_object_86 ?_
  refine ww_pI (pc := 87) g (k := 34) cl_Mo (pz rfl (by decide)) (by decide) (Or.inl kw_117) rfl (f := 34) rfl rfl rfl rfl d_Mo_object_87 h fun s hs h => ?_
  refine ww_iload_n (pc := 90) g.1 d_Mo_object_90 rfl (lv_at hl 0 rfl) ?_
  exact ww_iretH (pc := 91) g h hR d_Mo_object_91

theorem ct_Mo_object {l : Launch} {P : PP} {q : PL} {s s' : S1} {l1 : Int32} {r : Int32} (h : M_Mo_object l1 s = some (r, s')) : Ct l y_Mo_object b_Mo_object 3 (some .int) 0 0 P q s [.ref (q.1 0 0), .int l1] (some (.int r)) q s' := by
  refine ct_of (by decide) (Nat.le_of_ble_eq_true rfl) fun X ls eP el g hR hl => ?_
  have hR : Rt X q ((r, s') : Int32 × S1).2 (some (.int ((r, s') : Int32 × S1).1)) := hR
  have hl : lv_has ls 3 [(0, .ref (q.1 0 0)), (1, .int l1)] := hl
  generalize (r, s') = o at h hR
  unfold M_Mo_object at h
  refine ww_aload_n (pc := 0) g.1 d_Mo_object_0 rfl (lv_at hl 0 rfl) ?_
  refine ww_gI (pc := 1) g (k := 54) cl_Mo (pz rfl (by decide)) (by decide) (Or.inl kw_110) (f := 54) rfl rfl d_Mo_object_1 h fun v1 h => ?_
  refine ww_if_le (pc := 4) (tgt := 26) g.1 d_Mo_object_4 (by decide) h (fun c h => ?_) (fun c h => ?_)
  · refine ww_aload_n (pc := 26) g.1 d_Mo_object_26 rfl (lv_at hl 0 rfl) ?_
    refine ww_dup (pc := 27) g.1 d_Mo_object_27 rfl ?_
    refine ww_gI (pc := 28) g (k := 40) cl_Mo (pz rfl (by decide)) (by decide) (Or.inl kw_111) (f := 40) rfl rfl d_Mo_object_28 h fun v28 h => ?_
    refine ww_dup_x1 (pc := 31) g.1 d_Mo_object_31 rfl rfl ?_
    refine ww_iconst (pc := 32) g.1 (v := 1) d_Mo_object_32 (by decide) ?_
    refine ww_iadd (pc := 33) g.1 d_Mo_object_33 ?_
    refine ww_pI (pc := 34) g (k := 40) cl_Mo (pz rfl (by decide)) (by decide) (Or.inl kw_111) rfl (f := 40) rfl rfl rfl rfl d_Mo_object_34 h fun s hs h => ?_
    exact j_Mo_object_j37 g hR l1 v28 s ls (lv_sub hl [0, 1] rfl) h
  · refine ww_aload_n (pc := 7) g.1 d_Mo_object_7 rfl (lv_at hl 0 rfl) ?_
    refine ww_gR (pc := 8) g (k := 53) cl_Mo (pz rfl (by decide)) (by decide) (Or.inl kw_118) (f := 53) (t := 66) rfl rfl rfl d_Mo_object_8 ?_
    refine ww_aload_n (pc := 11) g.1 d_Mo_object_11 rfl (lv_at hl 0 rfl) ?_
    refine ww_dup (pc := 12) g.1 d_Mo_object_12 rfl ?_
    refine ww_gI (pc := 13) g (k := 54) cl_Mo (pz rfl (by decide)) (by decide) (Or.inl kw_110) (f := 54) rfl rfl d_Mo_object_13 h fun v13 h => ?_
    refine ww_iconst (pc := 16) g.1 (v := 1) d_Mo_object_16 (by decide) ?_
    refine ww_isub (pc := 17) g.1 d_Mo_object_17 ?_
    refine ww_dup_x1 (pc := 18) g.1 d_Mo_object_18 rfl rfl ?_
    refine ww_pI (pc := 19) g (k := 54) cl_Mo (pz rfl (by decide)) (by decide) (Or.inl kw_110) rfl (f := 54) rfl rfl rfl rfl d_Mo_object_19 h fun s hs h => ?_
    refine ww_ai (pc := 22) g (pz rfl (by decide)) rfl rfl d_Mo_object_22 h fun v22 h => ?_
    refine ww_goto (pc := 23) (tgt := 37) g.1 d_Mo_object_23 (by decide) ?_
    exact j_Mo_object_j37 g hR l1 v22 s ls (lv_sub hl [0, 1] rfl) h

abbrev b_Mo_words : ByteArray := prog_14_method_57_code
def y_Mo_words : MethodName := ⟨R_Mo, "words", "([Ljava/lang/String;[I)Z"⟩
abbrev w_Mo_words : List Cond := .code y_Mo_words b_Mo_words 4 (some .boolean) :: wA
theorem k_Mo_words : Cond.code y_Mo_words b_Mo_words 4 (some .boolean) ∈ wA := kinm (show _ ∈ tables_1 from (List.mem_append_right _ (List.mem_append_right _ (List.mem_append_right _ (List.mem_append_right _ (List.mem_append_right _ (List.mem_append_right _ (List.mem_append_right _ (List.mem_append_right _ (List.mem_append_right _ (List.mem_append_right _ (List.mem_append_right _ (List.mem_append_left _ (List.mem_of_getElem? (l := tables_1_12) (i := 65) (by decide +kernel))))))))))))))) (by decide +kernel)
theorem d_Mo_words_0 : decode b_Mo_words 0 = .ok (.iconst 0, 1) := by decide +kernel
theorem d_Mo_words_1 : decode b_Mo_words 1 = .ok (.istore_n 3, 1) := by decide +kernel
theorem d_Mo_words_2 : decode b_Mo_words 2 = .ok (.iload_n 3, 1) := by decide +kernel
theorem d_Mo_words_3 : decode b_Mo_words 3 = .ok (.aload_n 1, 1) := by decide +kernel
theorem d_Mo_words_4 : decode b_Mo_words 4 = .ok (.arraylength, 1) := by decide +kernel
theorem d_Mo_words_5 : decode b_Mo_words 5 = .ok (.if_icmp .ge 27, 3) := by decide +kernel
theorem d_Mo_words_8 : decode b_Mo_words 8 = .ok (.aload_n 2, 1) := by decide +kernel
theorem d_Mo_words_9 : decode b_Mo_words 9 = .ok (.iload_n 3, 1) := by decide +kernel
theorem d_Mo_words_10 : decode b_Mo_words 10 = .ok (.aload_n 0, 1) := by decide +kernel
theorem d_Mo_words_11 : decode b_Mo_words 11 = .ok (.aload_n 1, 1) := by decide +kernel
theorem d_Mo_words_12 : decode b_Mo_words 12 = .ok (.iload_n 3, 1) := by decide +kernel
theorem d_Mo_words_13 : decode b_Mo_words 13 = .ok (.aaload, 1) := by decide +kernel
theorem d_Mo_words_14 : decode b_Mo_words 14 = .ok (.invokevirtual 657, 3) := by decide +kernel
theorem d_Mo_words_17 : decode b_Mo_words 17 = .ok (.iastore, 1) := by decide +kernel
theorem d_Mo_words_18 : decode b_Mo_words 18 = .ok (.aload_n 2, 1) := by decide +kernel
theorem d_Mo_words_19 : decode b_Mo_words 19 = .ok (.iload_n 3, 1) := by decide +kernel
theorem d_Mo_words_20 : decode b_Mo_words 20 = .ok (.iaload, 1) := by decide +kernel
theorem d_Mo_words_21 : decode b_Mo_words 21 = .ok (.ifCond .ge 5, 3) := by decide +kernel
theorem d_Mo_words_24 : decode b_Mo_words 24 = .ok (.iconst 0, 1) := by decide +kernel
theorem d_Mo_words_25 : decode b_Mo_words 25 = .ok (.ireturn, 1) := by decide +kernel
theorem d_Mo_words_26 : decode b_Mo_words 26 = .ok (.iinc 3 1, 3) := by decide +kernel
theorem d_Mo_words_29 : decode b_Mo_words 29 = .ok (.goto (-27), 3) := by decide +kernel
theorem d_Mo_words_32 : decode b_Mo_words 32 = .ok (.iconst 1, 1) := by decide +kernel
theorem d_Mo_words_33 : decode b_Mo_words 33 = .ok (.ireturn, 1) := by decide +kernel
abbrev b_Mo_word : ByteArray := prog_14_method_56_code
def y_Mo_word : MethodName := ⟨R_Mo, "word", "(Ljava/lang/String;)I"⟩
abbrev w_Mo_word : List Cond := .code y_Mo_word b_Mo_word 3 (some .int) :: wA
theorem k_Mo_word : Cond.code y_Mo_word b_Mo_word 3 (some .int) ∈ wA := kinm (show _ ∈ tables_1 from (List.mem_append_right _ (List.mem_append_right _ (List.mem_append_right _ (List.mem_append_right _ (List.mem_append_right _ (List.mem_append_right _ (List.mem_append_right _ (List.mem_append_right _ (List.mem_append_right _ (List.mem_append_right _ (List.mem_append_right _ (List.mem_append_left _ (List.mem_of_getElem? (l := tables_1_12) (i := 69) (by decide +kernel))))))))))))))) (by decide +kernel)
theorem d_Mo_word_0 : decode b_Mo_word 0 = .ok (.iconst 0, 1) := by decide +kernel
theorem d_Mo_word_1 : decode b_Mo_word 1 = .ok (.istore_n 2, 1) := by decide +kernel
theorem d_Mo_word_2 : decode b_Mo_word 2 = .ok (.iload_n 2, 1) := by decide +kernel
theorem d_Mo_word_3 : decode b_Mo_word 3 = .ok (.aload_n 1, 1) := by decide +kernel
theorem d_Mo_word_4 : decode b_Mo_word 4 = .ok (.invokevirtual 647, 3) := by decide +kernel
theorem d_Mo_word_7 : decode b_Mo_word 7 = .ok (.if_icmp .ge 21, 3) := by decide +kernel
theorem d_Mo_word_10 : decode b_Mo_word 10 = .ok (.aload_n 0, 1) := by decide +kernel
theorem d_Mo_word_11 : decode b_Mo_word 11 = .ok (.getfield 415, 3) := by decide +kernel
theorem d_Mo_word_14 : decode b_Mo_word 14 = .ok (.iload_n 2, 1) := by decide +kernel
theorem d_Mo_word_15 : decode b_Mo_word 15 = .ok (.aload_n 1, 1) := by decide +kernel
theorem d_Mo_word_16 : decode b_Mo_word 16 = .ok (.iload_n 2, 1) := by decide +kernel
theorem d_Mo_word_17 : decode b_Mo_word 17 = .ok (.invokevirtual 651, 3) := by decide +kernel
theorem d_Mo_word_20 : decode b_Mo_word 20 = .ok (.i2b, 1) := by decide +kernel
theorem d_Mo_word_21 : decode b_Mo_word 21 = .ok (.bastore, 1) := by decide +kernel
theorem d_Mo_word_22 : decode b_Mo_word 22 = .ok (.iinc 2 1, 3) := by decide +kernel
theorem d_Mo_word_25 : decode b_Mo_word 25 = .ok (.goto (-23), 3) := by decide +kernel
theorem d_Mo_word_28 : decode b_Mo_word 28 = .ok (.aload_n 0, 1) := by decide +kernel
theorem d_Mo_word_29 : decode b_Mo_word 29 = .ok (.aload_n 0, 1) := by decide +kernel
theorem d_Mo_word_30 : decode b_Mo_word 30 = .ok (.getfield 415, 3) := by decide +kernel
theorem d_Mo_word_33 : decode b_Mo_word 33 = .ok (.iconst 0, 1) := by decide +kernel
theorem d_Mo_word_34 : decode b_Mo_word 34 = .ok (.aload_n 1, 1) := by decide +kernel
theorem d_Mo_word_35 : decode b_Mo_word 35 = .ok (.invokevirtual 647, 3) := by decide +kernel
theorem d_Mo_word_38 : decode b_Mo_word 38 = .ok (.invokevirtual 655, 3) := by decide +kernel
theorem d_Mo_word_41 : decode b_Mo_word 41 = .ok (.istore_n 2, 1) := by decide +kernel
theorem d_Mo_word_42 : decode b_Mo_word 42 = .ok (.iload_n 2, 1) := by decide +kernel
theorem d_Mo_word_43 : decode b_Mo_word 43 = .ok (.ifCond .lt 10, 3) := by decide +kernel
theorem d_Mo_word_46 : decode b_Mo_word 46 = .ok (.aload_n 0, 1) := by decide +kernel
theorem d_Mo_word_47 : decode b_Mo_word 47 = .ok (.getfield 162, 3) := by decide +kernel
theorem d_Mo_word_50 : decode b_Mo_word 50 = .ok (.iload_n 2, 1) := by decide +kernel
theorem d_Mo_word_51 : decode b_Mo_word 51 = .ok (.iconst 1, 1) := by decide +kernel
theorem d_Mo_word_52 : decode b_Mo_word 52 = .ok (.bastore, 1) := by decide +kernel
theorem d_Mo_word_53 : decode b_Mo_word 53 = .ok (.iload_n 2, 1) := by decide +kernel
theorem d_Mo_word_54 : decode b_Mo_word 54 = .ok (.ireturn, 1) := by decide +kernel
abbrev b_Mo_string : ByteArray := prog_14_method_30_code
def y_Mo_string : MethodName := ⟨R_Mo, "string", "([BII)I"⟩
abbrev w_Mo_string : List Cond := .code y_Mo_string b_Mo_string 8 (some .int) :: wA
set_option maxRecDepth 20000 in
theorem k_Mo_string : Cond.code y_Mo_string b_Mo_string 8 (some .int) ∈ wA := kinm (show _ ∈ tables_1 from (List.mem_append_right _ (List.mem_append_right _ (List.mem_append_right _ (List.mem_append_right _ (List.mem_append_right _ (List.mem_append_right _ (List.mem_append_right _ (List.mem_append_right _ (List.mem_append_right _ (List.mem_append_right _ (List.mem_append_right _ (List.mem_append_left _ (List.mem_of_getElem? (l := tables_1_12) (i := 75) rfl)))))))))))))) rfl
theorem d_Mo_string_0 : decode b_Mo_string 0 = .ok (.aload_n 0, 1) := by decide +kernel
theorem d_Mo_string_1 : decode b_Mo_string 1 = .ok (.aload_n 1, 1) := by decide +kernel
theorem d_Mo_string_2 : decode b_Mo_string 2 = .ok (.iload_n 2, 1) := by decide +kernel
theorem d_Mo_string_3 : decode b_Mo_string 3 = .ok (.iload_n 3, 1) := by decide +kernel
theorem d_Mo_string_4 : decode b_Mo_string 4 = .ok (.invokevirtual 523, 3) := by decide +kernel
theorem d_Mo_string_7 : decode b_Mo_string 7 = .ok (.istore 4, 2) := by decide +kernel
theorem d_Mo_string_9 : decode b_Mo_string 9 = .ok (.aload_n 0, 1) := by decide +kernel
theorem d_Mo_string_10 : decode b_Mo_string 10 = .ok (.getfield 190, 3) := by decide +kernel
theorem d_Mo_string_13 : decode b_Mo_string 13 = .ok (.iload 4, 2) := by decide +kernel
theorem d_Mo_string_15 : decode b_Mo_string 15 = .ok (.iaload, 1) := by decide +kernel
theorem d_Mo_string_16 : decode b_Mo_string 16 = .ok (.iconst 1, 1) := by decide +kernel
theorem d_Mo_string_17 : decode b_Mo_string 17 = .ok (.isub, 1) := by decide +kernel
theorem d_Mo_string_18 : decode b_Mo_string 18 = .ok (.istore 5, 2) := by decide +kernel
theorem d_Mo_string_20 : decode b_Mo_string 20 = .ok (.iload 5, 2) := by decide +kernel
theorem d_Mo_string_22 : decode b_Mo_string 22 = .ok (.ifCond .lt 94, 3) := by decide +kernel
theorem d_Mo_string_25 : decode b_Mo_string 25 = .ok (.aload_n 0, 1) := by decide +kernel
theorem d_Mo_string_26 : decode b_Mo_string 26 = .ok (.getfield 171, 3) := by decide +kernel
theorem d_Mo_string_29 : decode b_Mo_string 29 = .ok (.iload 5, 2) := by decide +kernel
theorem d_Mo_string_31 : decode b_Mo_string 31 = .ok (.iaload, 1) := by decide +kernel
theorem d_Mo_string_32 : decode b_Mo_string 32 = .ok (.iload_n 3, 1) := by decide +kernel
theorem d_Mo_string_33 : decode b_Mo_string 33 = .ok (.if_icmp .ne 7, 3) := by decide +kernel
theorem d_Mo_string_36 : decode b_Mo_string 36 = .ok (.iconst 1, 1) := by decide +kernel
theorem d_Mo_string_37 : decode b_Mo_string 37 = .ok (.goto 4, 3) := by decide +kernel
theorem d_Mo_string_40 : decode b_Mo_string 40 = .ok (.iconst 0, 1) := by decide +kernel
theorem d_Mo_string_41 : decode b_Mo_string 41 = .ok (.istore 6, 2) := by decide +kernel
theorem d_Mo_string_43 : decode b_Mo_string 43 = .ok (.iconst 0, 1) := by decide +kernel
theorem d_Mo_string_44 : decode b_Mo_string 44 = .ok (.istore 7, 2) := by decide +kernel
theorem d_Mo_string_46 : decode b_Mo_string 46 = .ok (.iload 6, 2) := by decide +kernel
theorem d_Mo_string_48 : decode b_Mo_string 48 = .ok (.ifCond .eq 46, 3) := by decide +kernel
theorem d_Mo_string_51 : decode b_Mo_string 51 = .ok (.iload 7, 2) := by decide +kernel
theorem d_Mo_string_53 : decode b_Mo_string 53 = .ok (.iload_n 3, 1) := by decide +kernel
theorem d_Mo_string_54 : decode b_Mo_string 54 = .ok (.if_icmp .ge 40, 3) := by decide +kernel
theorem d_Mo_string_57 : decode b_Mo_string 57 = .ok (.aload_n 0, 1) := by decide +kernel
theorem d_Mo_string_58 : decode b_Mo_string 58 = .ok (.getfield 187, 3) := by decide +kernel
theorem d_Mo_string_61 : decode b_Mo_string 61 = .ok (.aload_n 0, 1) := by decide +kernel
theorem d_Mo_string_62 : decode b_Mo_string 62 = .ok (.getfield 168, 3) := by decide +kernel
theorem d_Mo_string_65 : decode b_Mo_string 65 = .ok (.iload 5, 2) := by decide +kernel
theorem d_Mo_string_67 : decode b_Mo_string 67 = .ok (.iaload, 1) := by decide +kernel
theorem d_Mo_string_68 : decode b_Mo_string 68 = .ok (.iload 7, 2) := by decide +kernel
theorem d_Mo_string_70 : decode b_Mo_string 70 = .ok (.iadd, 1) := by decide +kernel
theorem d_Mo_string_71 : decode b_Mo_string 71 = .ok (.baload, 1) := by decide +kernel
theorem d_Mo_string_72 : decode b_Mo_string 72 = .ok (.aload_n 1, 1) := by decide +kernel
theorem d_Mo_string_73 : decode b_Mo_string 73 = .ok (.iload_n 2, 1) := by decide +kernel
theorem d_Mo_string_74 : decode b_Mo_string 74 = .ok (.iload 7, 2) := by decide +kernel
theorem d_Mo_string_76 : decode b_Mo_string 76 = .ok (.iadd, 1) := by decide +kernel
theorem d_Mo_string_77 : decode b_Mo_string 77 = .ok (.baload, 1) := by decide +kernel
theorem d_Mo_string_78 : decode b_Mo_string 78 = .ok (.if_icmp .ne 7, 3) := by decide +kernel
theorem d_Mo_string_81 : decode b_Mo_string 81 = .ok (.iconst 1, 1) := by decide +kernel
theorem d_Mo_string_82 : decode b_Mo_string 82 = .ok (.goto 4, 3) := by decide +kernel
theorem d_Mo_string_85 : decode b_Mo_string 85 = .ok (.iconst 0, 1) := by decide +kernel
theorem d_Mo_string_86 : decode b_Mo_string 86 = .ok (.istore 6, 2) := by decide +kernel
theorem d_Mo_string_88 : decode b_Mo_string 88 = .ok (.iinc 7 1, 3) := by decide +kernel
theorem d_Mo_string_91 : decode b_Mo_string 91 = .ok (.goto (-45), 3) := by decide +kernel
theorem d_Mo_string_94 : decode b_Mo_string 94 = .ok (.iload 6, 2) := by decide +kernel
theorem d_Mo_string_96 : decode b_Mo_string 96 = .ok (.ifCond .eq 6, 3) := by decide +kernel
theorem d_Mo_string_99 : decode b_Mo_string 99 = .ok (.iload 5, 2) := by decide +kernel
theorem d_Mo_string_101 : decode b_Mo_string 101 = .ok (.ireturn, 1) := by decide +kernel
theorem d_Mo_string_102 : decode b_Mo_string 102 = .ok (.aload_n 0, 1) := by decide +kernel
theorem d_Mo_string_103 : decode b_Mo_string 103 = .ok (.getfield 177, 3) := by decide +kernel
theorem d_Mo_string_106 : decode b_Mo_string 106 = .ok (.iload 5, 2) := by decide +kernel
theorem d_Mo_string_108 : decode b_Mo_string 108 = .ok (.iaload, 1) := by decide +kernel
theorem d_Mo_string_109 : decode b_Mo_string 109 = .ok (.iconst 1, 1) := by decide +kernel
theorem d_Mo_string_110 : decode b_Mo_string 110 = .ok (.isub, 1) := by decide +kernel
theorem d_Mo_string_111 : decode b_Mo_string 111 = .ok (.istore 5, 2) := by decide +kernel
theorem d_Mo_string_113 : decode b_Mo_string 113 = .ok (.goto (-93), 3) := by decide +kernel
theorem d_Mo_string_116 : decode b_Mo_string 116 = .ok (.aload_n 0, 1) := by decide +kernel
theorem d_Mo_string_117 : decode b_Mo_string 117 = .ok (.getfield 152, 3) := by decide +kernel
theorem d_Mo_string_120 : decode b_Mo_string 120 = .ok (.iload_n 3, 1) := by decide +kernel
theorem d_Mo_string_121 : decode b_Mo_string 121 = .ok (.iadd, 1) := by decide +kernel
theorem d_Mo_string_122 : decode b_Mo_string 122 = .ok (.ldc 186, 2) := by decide +kernel
theorem d_Mo_string_124 : decode b_Mo_string 124 = .ok (.if_icmp .le 10, 3) := by decide +kernel
theorem d_Mo_string_127 : decode b_Mo_string 127 = .ok (.aload_n 0, 1) := by decide +kernel
theorem d_Mo_string_128 : decode b_Mo_string 128 = .ok (.bipush 11, 2) := by decide +kernel
theorem d_Mo_string_130 : decode b_Mo_string 130 = .ok (.invokevirtual 517, 3) := by decide +kernel
theorem d_Mo_string_133 : decode b_Mo_string 133 = .ok (.ireturn, 1) := by decide +kernel
theorem d_Mo_string_134 : decode b_Mo_string 134 = .ok (.aload_n 0, 1) := by decide +kernel
theorem d_Mo_string_135 : decode b_Mo_string 135 = .ok (.iconst 0, 1) := by decide +kernel
theorem d_Mo_string_136 : decode b_Mo_string 136 = .ok (.invokevirtual 527, 3) := by decide +kernel
theorem d_Mo_string_139 : decode b_Mo_string 139 = .ok (.ifCond .ne 5, 3) := by decide +kernel
theorem d_Mo_string_142 : decode b_Mo_string 142 = .ok (.iconst (-1), 1) := by decide +kernel
theorem d_Mo_string_143 : decode b_Mo_string 143 = .ok (.ireturn, 1) := by decide +kernel
theorem d_Mo_string_144 : decode b_Mo_string 144 = .ok (.aload_n 0, 1) := by decide +kernel
theorem d_Mo_string_145 : decode b_Mo_string 145 = .ok (.iconst 4, 1) := by decide +kernel
theorem d_Mo_string_146 : decode b_Mo_string 146 = .ok (.invokevirtual 531, 3) := by decide +kernel
theorem d_Mo_string_149 : decode b_Mo_string 149 = .ok (.istore 5, 2) := by decide +kernel
theorem d_Mo_string_151 : decode b_Mo_string 151 = .ok (.aload_n 1, 1) := by decide +kernel
theorem d_Mo_string_152 : decode b_Mo_string 152 = .ok (.iload_n 2, 1) := by decide +kernel
theorem d_Mo_string_153 : decode b_Mo_string 153 = .ok (.aload_n 0, 1) := by decide +kernel
theorem d_Mo_string_154 : decode b_Mo_string 154 = .ok (.getfield 187, 3) := by decide +kernel
theorem d_Mo_string_157 : decode b_Mo_string 157 = .ok (.aload_n 0, 1) := by decide +kernel
theorem d_Mo_string_158 : decode b_Mo_string 158 = .ok (.getfield 134, 3) := by decide +kernel
theorem d_Mo_string_161 : decode b_Mo_string 161 = .ok (.iload_n 3, 1) := by decide +kernel
theorem d_Mo_string_162 : decode b_Mo_string 162 = .ok (.invokestatic 534, 3) := by decide +kernel
theorem d_Mo_string_165 : decode b_Mo_string 165 = .ok (.aload_n 0, 1) := by decide +kernel
theorem d_Mo_string_166 : decode b_Mo_string 166 = .ok (.getfield 168, 3) := by decide +kernel
theorem d_Mo_string_169 : decode b_Mo_string 169 = .ok (.iload 5, 2) := by decide +kernel
theorem d_Mo_string_171 : decode b_Mo_string 171 = .ok (.aload_n 0, 1) := by decide +kernel
theorem d_Mo_string_172 : decode b_Mo_string 172 = .ok (.getfield 134, 3) := by decide +kernel
theorem d_Mo_string_175 : decode b_Mo_string 175 = .ok (.iastore, 1) := by decide +kernel
theorem d_Mo_string_176 : decode b_Mo_string 176 = .ok (.aload_n 0, 1) := by decide +kernel
theorem d_Mo_string_177 : decode b_Mo_string 177 = .ok (.getfield 171, 3) := by decide +kernel
theorem d_Mo_string_180 : decode b_Mo_string 180 = .ok (.iload 5, 2) := by decide +kernel
theorem d_Mo_string_182 : decode b_Mo_string 182 = .ok (.iload_n 3, 1) := by decide +kernel
theorem d_Mo_string_183 : decode b_Mo_string 183 = .ok (.iastore, 1) := by decide +kernel
theorem d_Mo_string_184 : decode b_Mo_string 184 = .ok (.aload_n 0, 1) := by decide +kernel
theorem d_Mo_string_185 : decode b_Mo_string 185 = .ok (.dup, 1) := by decide +kernel
theorem d_Mo_string_186 : decode b_Mo_string 186 = .ok (.getfield 134, 3) := by decide +kernel
theorem d_Mo_string_189 : decode b_Mo_string 189 = .ok (.iload_n 3, 1) := by decide +kernel
theorem d_Mo_string_190 : decode b_Mo_string 190 = .ok (.iadd, 1) := by decide +kernel
theorem d_Mo_string_191 : decode b_Mo_string 191 = .ok (.putfield 134, 3) := by decide +kernel
theorem d_Mo_string_194 : decode b_Mo_string 194 = .ok (.aload_n 0, 1) := by decide +kernel
theorem d_Mo_string_195 : decode b_Mo_string 195 = .ok (.dup, 1) := by decide +kernel
theorem d_Mo_string_196 : decode b_Mo_string 196 = .ok (.getfield 152, 3) := by decide +kernel
theorem d_Mo_string_199 : decode b_Mo_string 199 = .ok (.iload_n 3, 1) := by decide +kernel
theorem d_Mo_string_200 : decode b_Mo_string 200 = .ok (.iadd, 1) := by decide +kernel
theorem d_Mo_string_201 : decode b_Mo_string 201 = .ok (.putfield 152, 3) := by decide +kernel
theorem d_Mo_string_204 : decode b_Mo_string 204 = .ok (.aload_n 0, 1) := by decide +kernel
theorem d_Mo_string_205 : decode b_Mo_string 205 = .ok (.getfield 177, 3) := by decide +kernel
theorem d_Mo_string_208 : decode b_Mo_string 208 = .ok (.iload 5, 2) := by decide +kernel
theorem d_Mo_string_210 : decode b_Mo_string 210 = .ok (.aload_n 0, 1) := by decide +kernel
theorem d_Mo_string_211 : decode b_Mo_string 211 = .ok (.getfield 190, 3) := by decide +kernel
theorem d_Mo_string_214 : decode b_Mo_string 214 = .ok (.iload 4, 2) := by decide +kernel
theorem d_Mo_string_216 : decode b_Mo_string 216 = .ok (.iaload, 1) := by decide +kernel
theorem d_Mo_string_217 : decode b_Mo_string 217 = .ok (.iastore, 1) := by decide +kernel
theorem d_Mo_string_218 : decode b_Mo_string 218 = .ok (.aload_n 0, 1) := by decide +kernel
theorem d_Mo_string_219 : decode b_Mo_string 219 = .ok (.getfield 190, 3) := by decide +kernel
theorem d_Mo_string_222 : decode b_Mo_string 222 = .ok (.iload 4, 2) := by decide +kernel
theorem d_Mo_string_224 : decode b_Mo_string 224 = .ok (.iload 5, 2) := by decide +kernel
theorem d_Mo_string_226 : decode b_Mo_string 226 = .ok (.iconst 1, 1) := by decide +kernel
theorem d_Mo_string_227 : decode b_Mo_string 227 = .ok (.iadd, 1) := by decide +kernel
theorem d_Mo_string_228 : decode b_Mo_string 228 = .ok (.iastore, 1) := by decide +kernel
theorem d_Mo_string_229 : decode b_Mo_string 229 = .ok (.iload 5, 2) := by decide +kernel
theorem d_Mo_string_231 : decode b_Mo_string 231 = .ok (.ireturn, 1) := by decide +kernel
theorem kw_121 : Cond.constant R_Mo 186 400000 ∈ wA := kinm (show _ ∈ tables_1 from (List.mem_append_right _ (List.mem_append_right _ (List.mem_append_right _ (List.mem_append_right _ (List.mem_append_right _ (List.mem_append_right _ (List.mem_append_right _ (List.mem_append_right _ (List.mem_append_left _ (List.mem_of_getElem? (l := tables_1_9) (i := 136) (by decide +kernel)))))))))))) (by decide +kernel)
abbrev b_Mo_newVariable : ByteArray := prog_14_method_55_code
def y_Mo_newVariable : MethodName := ⟨R_Mo, "newVariable", "()I"⟩
abbrev w_Mo_newVariable : List Cond := .code y_Mo_newVariable b_Mo_newVariable 2 (some .int) :: wA
theorem k_Mo_newVariable : Cond.code y_Mo_newVariable b_Mo_newVariable 2 (some .int) ∈ wA := kinm (show _ ∈ tables_1 from (List.mem_append_right _ (List.mem_append_right _ (List.mem_append_right _ (List.mem_append_right _ (List.mem_append_right _ (List.mem_append_right _ (List.mem_append_right _ (List.mem_append_right _ (List.mem_append_right _ (List.mem_append_right _ (List.mem_append_right _ (List.mem_append_left _ (List.mem_of_getElem? (l := tables_1_12) (i := 80) (by decide +kernel))))))))))))))) (by decide +kernel)
theorem d_Mo_newVariable_0 : decode b_Mo_newVariable 0 = .ok (.aload_n 0, 1) := by decide +kernel
theorem d_Mo_newVariable_1 : decode b_Mo_newVariable 1 = .ok (.iconst 0, 1) := by decide +kernel
theorem d_Mo_newVariable_2 : decode b_Mo_newVariable 2 = .ok (.invokevirtual 527, 3) := by decide +kernel
theorem d_Mo_newVariable_5 : decode b_Mo_newVariable 5 = .ok (.ifCond .ne 5, 3) := by decide +kernel
theorem d_Mo_newVariable_8 : decode b_Mo_newVariable 8 = .ok (.iconst (-1), 1) := by decide +kernel
theorem d_Mo_newVariable_9 : decode b_Mo_newVariable 9 = .ok (.ireturn, 1) := by decide +kernel
theorem d_Mo_newVariable_10 : decode b_Mo_newVariable 10 = .ok (.aload_n 0, 1) := by decide +kernel
theorem d_Mo_newVariable_11 : decode b_Mo_newVariable 11 = .ok (.bipush 8, 2) := by decide +kernel
theorem d_Mo_newVariable_13 : decode b_Mo_newVariable 13 = .ok (.invokevirtual 531, 3) := by decide +kernel
theorem d_Mo_newVariable_16 : decode b_Mo_newVariable 16 = .ok (.istore_n 1, 1) := by decide +kernel
theorem d_Mo_newVariable_17 : decode b_Mo_newVariable 17 = .ok (.aload_n 0, 1) := by decide +kernel
theorem d_Mo_newVariable_18 : decode b_Mo_newVariable 18 = .ok (.getfield 168, 3) := by decide +kernel
theorem d_Mo_newVariable_21 : decode b_Mo_newVariable 21 = .ok (.iload_n 1, 1) := by decide +kernel
theorem d_Mo_newVariable_22 : decode b_Mo_newVariable 22 = .ok (.iconst (-1), 1) := by decide +kernel
theorem d_Mo_newVariable_23 : decode b_Mo_newVariable 23 = .ok (.iastore, 1) := by decide +kernel
theorem d_Mo_newVariable_24 : decode b_Mo_newVariable 24 = .ok (.aload_n 0, 1) := by decide +kernel
theorem d_Mo_newVariable_25 : decode b_Mo_newVariable 25 = .ok (.getfield 212, 3) := by decide +kernel
theorem d_Mo_newVariable_28 : decode b_Mo_newVariable 28 = .ok (.iload_n 1, 1) := by decide +kernel
theorem d_Mo_newVariable_29 : decode b_Mo_newVariable 29 = .ok (.iconst 0, 1) := by decide +kernel
theorem d_Mo_newVariable_30 : decode b_Mo_newVariable 30 = .ok (.lconst 0, 1) := by decide +kernel
theorem d_Mo_newVariable_31 : decode b_Mo_newVariable 31 = .ok (.invokevirtual 470, 3) := by decide +kernel
theorem d_Mo_newVariable_34 : decode b_Mo_newVariable 34 = .ok (.iload_n 1, 1) := by decide +kernel
theorem d_Mo_newVariable_35 : decode b_Mo_newVariable 35 = .ok (.ireturn, 1) := by decide +kernel
abbrev b_Mo_put : ByteArray := prog_14_method_37_code
def y_Mo_put : MethodName := ⟨R_Mo, "put", "(IIJIJ)Z"⟩
abbrev w_Mo_put : List Cond := .code y_Mo_put b_Mo_put 11 (some .boolean) :: wA
set_option maxRecDepth 20000 in
theorem k_Mo_put : Cond.code y_Mo_put b_Mo_put 11 (some .boolean) ∈ wA := kinm (show _ ∈ tables_1 from (List.mem_append_right _ (List.mem_append_right _ (List.mem_append_right _ (List.mem_append_right _ (List.mem_append_right _ (List.mem_append_right _ (List.mem_append_right _ (List.mem_append_right _ (List.mem_append_right _ (List.mem_append_right _ (List.mem_append_right _ (List.mem_append_left _ (List.mem_of_getElem? (l := tables_1_12) (i := 84) rfl)))))))))))))) rfl
theorem d_Mo_put_0 : decode b_Mo_put 0 = .ok (.iload_n 2, 1) := by decide +kernel
theorem d_Mo_put_1 : decode b_Mo_put 1 = .ok (.ifCond .ne 12, 3) := by decide +kernel
theorem d_Mo_put_4 : decode b_Mo_put 4 = .ok (.aload_n 0, 1) := by decide +kernel
theorem d_Mo_put_5 : decode b_Mo_put 5 = .ok (.bipush 6, 2) := by decide +kernel
theorem d_Mo_put_7 : decode b_Mo_put 7 = .ok (.invokevirtual 517, 3) := by decide +kernel
theorem d_Mo_put_10 : decode b_Mo_put 10 = .ok (.pop, 1) := by decide +kernel
theorem d_Mo_put_11 : decode b_Mo_put 11 = .ok (.iconst 0, 1) := by decide +kernel
theorem d_Mo_put_12 : decode b_Mo_put 12 = .ok (.ireturn, 1) := by decide +kernel
theorem d_Mo_put_13 : decode b_Mo_put 13 = .ok (.aload_n 0, 1) := by decide +kernel
theorem d_Mo_put_14 : decode b_Mo_put 14 = .ok (.iload_n 1, 1) := by decide +kernel
theorem d_Mo_put_15 : decode b_Mo_put 15 = .ok (.iload_n 2, 1) := by decide +kernel
theorem d_Mo_put_16 : decode b_Mo_put 16 = .ok (.lload_n 3, 1) := by decide +kernel
theorem d_Mo_put_17 : decode b_Mo_put 17 = .ok (.invokevirtual 552, 3) := by decide +kernel
theorem d_Mo_put_20 : decode b_Mo_put 20 = .ok (.istore 8, 2) := by decide +kernel
theorem d_Mo_put_22 : decode b_Mo_put 22 = .ok (.iload 8, 2) := by decide +kernel
theorem d_Mo_put_24 : decode b_Mo_put 24 = .ok (.ifCond .lt 24, 3) := by decide +kernel
theorem d_Mo_put_27 : decode b_Mo_put 27 = .ok (.aload_n 0, 1) := by decide +kernel
theorem d_Mo_put_28 : decode b_Mo_put 28 = .ok (.getfield 196, 3) := by decide +kernel
theorem d_Mo_put_31 : decode b_Mo_put 31 = .ok (.iload 8, 2) := by decide +kernel
theorem d_Mo_put_33 : decode b_Mo_put 33 = .ok (.iload 5, 2) := by decide +kernel
theorem d_Mo_put_35 : decode b_Mo_put 35 = .ok (.i2b, 1) := by decide +kernel
theorem d_Mo_put_36 : decode b_Mo_put 36 = .ok (.bastore, 1) := by decide +kernel
theorem d_Mo_put_37 : decode b_Mo_put 37 = .ok (.aload_n 0, 1) := by decide +kernel
theorem d_Mo_put_38 : decode b_Mo_put 38 = .ok (.getfield 203, 3) := by decide +kernel
theorem d_Mo_put_41 : decode b_Mo_put 41 = .ok (.iload 8, 2) := by decide +kernel
theorem d_Mo_put_43 : decode b_Mo_put 43 = .ok (.lload 6, 2) := by decide +kernel
theorem d_Mo_put_45 : decode b_Mo_put 45 = .ok (.lastore, 1) := by decide +kernel
theorem d_Mo_put_46 : decode b_Mo_put 46 = .ok (.iconst 1, 1) := by decide +kernel
theorem d_Mo_put_47 : decode b_Mo_put 47 = .ok (.ireturn, 1) := by decide +kernel
theorem d_Mo_put_48 : decode b_Mo_put 48 = .ok (.iload 5, 2) := by decide +kernel
theorem d_Mo_put_50 : decode b_Mo_put 50 = .ok (.ifCond .ne 5, 3) := by decide +kernel
theorem d_Mo_put_53 : decode b_Mo_put 53 = .ok (.iconst 1, 1) := by decide +kernel
theorem d_Mo_put_54 : decode b_Mo_put 54 = .ok (.ireturn, 1) := by decide +kernel
theorem d_Mo_put_55 : decode b_Mo_put 55 = .ok (.aload_n 0, 1) := by decide +kernel
theorem d_Mo_put_56 : decode b_Mo_put 56 = .ok (.getfield 174, 3) := by decide +kernel
theorem d_Mo_put_59 : decode b_Mo_put 59 = .ok (.iload_n 1, 1) := by decide +kernel
theorem d_Mo_put_60 : decode b_Mo_put 60 = .ok (.iaload, 1) := by decide +kernel
theorem d_Mo_put_61 : decode b_Mo_put 61 = .ok (.aload_n 0, 1) := by decide +kernel
theorem d_Mo_put_62 : decode b_Mo_put 62 = .ok (.getfield 171, 3) := by decide +kernel
theorem d_Mo_put_65 : decode b_Mo_put 65 = .ok (.iload_n 1, 1) := by decide +kernel
theorem d_Mo_put_66 : decode b_Mo_put 66 = .ok (.iaload, 1) := by decide +kernel
theorem d_Mo_put_67 : decode b_Mo_put 67 = .ok (.if_icmp .ne 125, 3) := by decide +kernel
theorem d_Mo_put_70 : decode b_Mo_put 70 = .ok (.aload_n 0, 1) := by decide +kernel
theorem d_Mo_put_71 : decode b_Mo_put 71 = .ok (.getfield 171, 3) := by decide +kernel
theorem d_Mo_put_74 : decode b_Mo_put 74 = .ok (.iload_n 1, 1) := by decide +kernel
theorem d_Mo_put_75 : decode b_Mo_put 75 = .ok (.iaload, 1) := by decide +kernel
theorem d_Mo_put_76 : decode b_Mo_put 76 = .ok (.ifCond .le 20, 3) := by decide +kernel
theorem d_Mo_put_79 : decode b_Mo_put 79 = .ok (.aload_n 0, 1) := by decide +kernel
theorem d_Mo_put_80 : decode b_Mo_put 80 = .ok (.iload_n 1, 1) := by decide +kernel
theorem d_Mo_put_81 : decode b_Mo_put 81 = .ok (.aload_n 0, 1) := by decide +kernel
theorem d_Mo_put_82 : decode b_Mo_put 82 = .ok (.getfield 168, 3) := by decide +kernel
theorem d_Mo_put_85 : decode b_Mo_put 85 = .ok (.iload_n 1, 1) := by decide +kernel
theorem d_Mo_put_86 : decode b_Mo_put 86 = .ok (.iaload, 1) := by decide +kernel
theorem d_Mo_put_87 : decode b_Mo_put 87 = .ok (.aload_n 0, 1) := by decide +kernel
theorem d_Mo_put_88 : decode b_Mo_put 88 = .ok (.getfield 171, 3) := by decide +kernel
theorem d_Mo_put_91 : decode b_Mo_put 91 = .ok (.iload_n 1, 1) := by decide +kernel
theorem d_Mo_put_92 : decode b_Mo_put 92 = .ok (.iaload, 1) := by decide +kernel
theorem d_Mo_put_93 : decode b_Mo_put 93 = .ok (.invokevirtual 565, 3) := by decide +kernel
theorem d_Mo_put_96 : decode b_Mo_put 96 = .ok (.aload_n 0, 1) := by decide +kernel
theorem d_Mo_put_97 : decode b_Mo_put 97 = .ok (.getfield 234, 3) := by decide +kernel
theorem d_Mo_put_100 : decode b_Mo_put 100 = .ok (.getfield 569, 3) := by decide +kernel
theorem d_Mo_put_103 : decode b_Mo_put 103 = .ok (.istore 9, 2) := by decide +kernel
theorem d_Mo_put_105 : decode b_Mo_put 105 = .ok (.aload_n 0, 1) := by decide +kernel
theorem d_Mo_put_106 : decode b_Mo_put 106 = .ok (.getfield 234, 3) := by decide +kernel
theorem d_Mo_put_109 : decode b_Mo_put 109 = .ok (.iconst 5, 1) := by decide +kernel
theorem d_Mo_put_110 : decode b_Mo_put 110 = .ok (.iload_n 1, 1) := by decide +kernel
theorem d_Mo_put_111 : decode b_Mo_put 111 = .ok (.i2l, 1) := by decide +kernel
theorem d_Mo_put_112 : decode b_Mo_put 112 = .ok (.invokevirtual 572, 3) := by decide +kernel
theorem d_Mo_put_115 : decode b_Mo_put 115 = .ok (.aload_n 0, 1) := by decide +kernel
theorem d_Mo_put_116 : decode b_Mo_put 116 = .ok (.getfield 234, 3) := by decide +kernel
theorem d_Mo_put_119 : decode b_Mo_put 119 = .ok (.iload_n 2, 1) := by decide +kernel
theorem d_Mo_put_120 : decode b_Mo_put 120 = .ok (.lload_n 3, 1) := by decide +kernel
theorem d_Mo_put_121 : decode b_Mo_put 121 = .ok (.invokevirtual 572, 3) := by decide +kernel
theorem d_Mo_put_124 : decode b_Mo_put 124 = .ok (.aload_n 0, 1) := by decide +kernel
theorem d_Mo_put_125 : decode b_Mo_put 125 = .ok (.getfield 234, 3) := by decide +kernel
theorem d_Mo_put_128 : decode b_Mo_put 128 = .ok (.iload 5, 2) := by decide +kernel
theorem d_Mo_put_130 : decode b_Mo_put 130 = .ok (.lload 6, 2) := by decide +kernel
theorem d_Mo_put_132 : decode b_Mo_put 132 = .ok (.invokevirtual 572, 3) := by decide +kernel
theorem d_Mo_put_135 : decode b_Mo_put 135 = .ok (.iconst 2, 1) := by decide +kernel
theorem d_Mo_put_136 : decode b_Mo_put 136 = .ok (.aload_n 0, 1) := by decide +kernel
theorem d_Mo_put_137 : decode b_Mo_put 137 = .ok (.getfield 174, 3) := by decide +kernel
theorem d_Mo_put_140 : decode b_Mo_put 140 = .ok (.iload_n 1, 1) := by decide +kernel
theorem d_Mo_put_141 : decode b_Mo_put 141 = .ok (.iaload, 1) := by decide +kernel
theorem d_Mo_put_142 : decode b_Mo_put 142 = .ok (.imul, 1) := by decide +kernel
theorem d_Mo_put_143 : decode b_Mo_put 143 = .ok (.aload_n 0, 1) := by decide +kernel
theorem d_Mo_put_144 : decode b_Mo_put 144 = .ok (.getfield 171, 3) := by decide +kernel
theorem d_Mo_put_147 : decode b_Mo_put 147 = .ok (.iload_n 1, 1) := by decide +kernel
theorem d_Mo_put_148 : decode b_Mo_put 148 = .ok (.iaload, 1) := by decide +kernel
theorem d_Mo_put_149 : decode b_Mo_put 149 = .ok (.if_icmp .gt 12, 3) := by decide +kernel
theorem d_Mo_put_152 : decode b_Mo_put 152 = .ok (.aload_n 0, 1) := by decide +kernel
theorem d_Mo_put_153 : decode b_Mo_put 153 = .ok (.getfield 171, 3) := by decide +kernel
theorem d_Mo_put_156 : decode b_Mo_put 156 = .ok (.iload_n 1, 1) := by decide +kernel
theorem d_Mo_put_157 : decode b_Mo_put 157 = .ok (.iaload, 1) := by decide +kernel
theorem d_Mo_put_158 : decode b_Mo_put 158 = .ok (.ifCond .gt 11, 3) := by decide +kernel
theorem d_Mo_put_161 : decode b_Mo_put 161 = .ok (.aload_n 0, 1) := by decide +kernel
theorem d_Mo_put_162 : decode b_Mo_put 162 = .ok (.iload_n 1, 1) := by decide +kernel
theorem d_Mo_put_163 : decode b_Mo_put 163 = .ok (.invokevirtual 576, 3) := by decide +kernel
theorem d_Mo_put_166 : decode b_Mo_put 166 = .ok (.ifCond .eq 7, 3) := by decide +kernel
theorem d_Mo_put_169 : decode b_Mo_put 169 = .ok (.iconst 1, 1) := by decide +kernel
theorem d_Mo_put_170 : decode b_Mo_put 170 = .ok (.goto 4, 3) := by decide +kernel
theorem d_Mo_put_173 : decode b_Mo_put 173 = .ok (.iconst 0, 1) := by decide +kernel
theorem d_Mo_put_174 : decode b_Mo_put 174 = .ok (.istore 10, 2) := by decide +kernel
theorem d_Mo_put_176 : decode b_Mo_put 176 = .ok (.aload_n 0, 1) := by decide +kernel
theorem d_Mo_put_177 : decode b_Mo_put 177 = .ok (.getfield 234, 3) := by decide +kernel
theorem d_Mo_put_180 : decode b_Mo_put 180 = .ok (.iload 9, 2) := by decide +kernel
theorem d_Mo_put_182 : decode b_Mo_put 182 = .ok (.putfield 569, 3) := by decide +kernel
theorem d_Mo_put_185 : decode b_Mo_put 185 = .ok (.iload 10, 2) := by decide +kernel
theorem d_Mo_put_187 : decode b_Mo_put 187 = .ok (.ifCond .ne 5, 3) := by decide +kernel
theorem d_Mo_put_190 : decode b_Mo_put 190 = .ok (.iconst 0, 1) := by decide +kernel
theorem d_Mo_put_191 : decode b_Mo_put 191 = .ok (.ireturn, 1) := by decide +kernel
theorem d_Mo_put_192 : decode b_Mo_put 192 = .ok (.aload_n 0, 1) := by decide +kernel
theorem d_Mo_put_193 : decode b_Mo_put 193 = .ok (.iload_n 1, 1) := by decide +kernel
theorem d_Mo_put_194 : decode b_Mo_put 194 = .ok (.iload_n 2, 1) := by decide +kernel
theorem d_Mo_put_195 : decode b_Mo_put 195 = .ok (.lload_n 3, 1) := by decide +kernel
theorem d_Mo_put_196 : decode b_Mo_put 196 = .ok (.iload 5, 2) := by decide +kernel
theorem d_Mo_put_198 : decode b_Mo_put 198 = .ok (.lload 6, 2) := by decide +kernel
theorem d_Mo_put_200 : decode b_Mo_put 200 = .ok (.invokevirtual 561, 3) := by decide +kernel
theorem d_Mo_put_203 : decode b_Mo_put 203 = .ok (.iconst 1, 1) := by decide +kernel
theorem d_Mo_put_204 : decode b_Mo_put 204 = .ok (.ireturn, 1) := by decide +kernel
abbrev b_Mo_entry : ByteArray := prog_14_method_33_code
def y_Mo_entry : MethodName := ⟨R_Mo, "entry", "(IIJ)I"⟩
abbrev w_Mo_entry : List Cond := .code y_Mo_entry b_Mo_entry 6 (some .int) :: wA
theorem k_Mo_entry : Cond.code y_Mo_entry b_Mo_entry 6 (some .int) ∈ wA := kinm (show _ ∈ tables_1 from (List.mem_append_right _ (List.mem_append_right _ (List.mem_append_right _ (List.mem_append_right _ (List.mem_append_right _ (List.mem_append_right _ (List.mem_append_right _ (List.mem_append_right _ (List.mem_append_right _ (List.mem_append_right _ (List.mem_append_right _ (List.mem_append_left _ (List.mem_of_getElem? (l := tables_1_12) (i := 88) (by decide +kernel))))))))))))))) (by decide +kernel)
theorem d_Mo_entry_0 : decode b_Mo_entry 0 = .ok (.aload_n 0, 1) := by decide +kernel
theorem d_Mo_entry_1 : decode b_Mo_entry 1 = .ok (.getfield 171, 3) := by decide +kernel
theorem d_Mo_entry_4 : decode b_Mo_entry 4 = .ok (.iload_n 1, 1) := by decide +kernel
theorem d_Mo_entry_5 : decode b_Mo_entry 5 = .ok (.iaload, 1) := by decide +kernel
theorem d_Mo_entry_6 : decode b_Mo_entry 6 = .ok (.ifCond .ne 5, 3) := by decide +kernel
theorem d_Mo_entry_9 : decode b_Mo_entry 9 = .ok (.iconst (-1), 1) := by decide +kernel
theorem d_Mo_entry_10 : decode b_Mo_entry 10 = .ok (.ireturn, 1) := by decide +kernel
theorem d_Mo_entry_11 : decode b_Mo_entry 11 = .ok (.aload_n 0, 1) := by decide +kernel
theorem d_Mo_entry_12 : decode b_Mo_entry 12 = .ok (.getfield 209, 3) := by decide +kernel
theorem d_Mo_entry_15 : decode b_Mo_entry 15 = .ok (.aload_n 0, 1) := by decide +kernel
theorem d_Mo_entry_16 : decode b_Mo_entry 16 = .ok (.getfield 168, 3) := by decide +kernel
theorem d_Mo_entry_19 : decode b_Mo_entry 19 = .ok (.iload_n 1, 1) := by decide +kernel
theorem d_Mo_entry_20 : decode b_Mo_entry 20 = .ok (.iaload, 1) := by decide +kernel
theorem d_Mo_entry_21 : decode b_Mo_entry 21 = .ok (.aload_n 0, 1) := by decide +kernel
theorem d_Mo_entry_22 : decode b_Mo_entry 22 = .ok (.aload_n 0, 1) := by decide +kernel
theorem d_Mo_entry_23 : decode b_Mo_entry 23 = .ok (.getfield 171, 3) := by decide +kernel
theorem d_Mo_entry_26 : decode b_Mo_entry 26 = .ok (.iload_n 1, 1) := by decide +kernel
theorem d_Mo_entry_27 : decode b_Mo_entry 27 = .ok (.iaload, 1) := by decide +kernel
theorem d_Mo_entry_28 : decode b_Mo_entry 28 = .ok (.iload_n 2, 1) := by decide +kernel
theorem d_Mo_entry_29 : decode b_Mo_entry 29 = .ok (.lload_n 3, 1) := by decide +kernel
theorem d_Mo_entry_30 : decode b_Mo_entry 30 = .ok (.invokevirtual 548, 3) := by decide +kernel
theorem d_Mo_entry_33 : decode b_Mo_entry 33 = .ok (.iadd, 1) := by decide +kernel
theorem d_Mo_entry_34 : decode b_Mo_entry 34 = .ok (.iaload, 1) := by decide +kernel
theorem d_Mo_entry_35 : decode b_Mo_entry 35 = .ok (.iconst 1, 1) := by decide +kernel
theorem d_Mo_entry_36 : decode b_Mo_entry 36 = .ok (.isub, 1) := by decide +kernel
theorem d_Mo_entry_37 : decode b_Mo_entry 37 = .ok (.istore 5, 2) := by decide +kernel
theorem d_Mo_entry_39 : decode b_Mo_entry 39 = .ok (.iload 5, 2) := by decide +kernel
theorem d_Mo_entry_41 : decode b_Mo_entry 41 = .ok (.ifCond .lt 71, 3) := by decide +kernel
theorem d_Mo_entry_44 : decode b_Mo_entry 44 = .ok (.aload_n 0, 1) := by decide +kernel
theorem d_Mo_entry_45 : decode b_Mo_entry 45 = .ok (.getfield 193, 3) := by decide +kernel
theorem d_Mo_entry_48 : decode b_Mo_entry 48 = .ok (.aload_n 0, 1) := by decide +kernel
theorem d_Mo_entry_49 : decode b_Mo_entry 49 = .ok (.getfield 168, 3) := by decide +kernel
theorem d_Mo_entry_52 : decode b_Mo_entry 52 = .ok (.iload_n 1, 1) := by decide +kernel
theorem d_Mo_entry_53 : decode b_Mo_entry 53 = .ok (.iaload, 1) := by decide +kernel
theorem d_Mo_entry_54 : decode b_Mo_entry 54 = .ok (.iload 5, 2) := by decide +kernel
theorem d_Mo_entry_56 : decode b_Mo_entry 56 = .ok (.iadd, 1) := by decide +kernel
theorem d_Mo_entry_57 : decode b_Mo_entry 57 = .ok (.baload, 1) := by decide +kernel
theorem d_Mo_entry_58 : decode b_Mo_entry 58 = .ok (.iload_n 2, 1) := by decide +kernel
theorem d_Mo_entry_59 : decode b_Mo_entry 59 = .ok (.if_icmp .ne 32, 3) := by decide +kernel
theorem d_Mo_entry_62 : decode b_Mo_entry 62 = .ok (.aload_n 0, 1) := by decide +kernel
theorem d_Mo_entry_63 : decode b_Mo_entry 63 = .ok (.getfield 199, 3) := by decide +kernel
theorem d_Mo_entry_66 : decode b_Mo_entry 66 = .ok (.aload_n 0, 1) := by decide +kernel
theorem d_Mo_entry_67 : decode b_Mo_entry 67 = .ok (.getfield 168, 3) := by decide +kernel
theorem d_Mo_entry_70 : decode b_Mo_entry 70 = .ok (.iload_n 1, 1) := by decide +kernel
theorem d_Mo_entry_71 : decode b_Mo_entry 71 = .ok (.iaload, 1) := by decide +kernel
theorem d_Mo_entry_72 : decode b_Mo_entry 72 = .ok (.iload 5, 2) := by decide +kernel
theorem d_Mo_entry_74 : decode b_Mo_entry 74 = .ok (.iadd, 1) := by decide +kernel
theorem d_Mo_entry_75 : decode b_Mo_entry 75 = .ok (.laload, 1) := by decide +kernel
theorem d_Mo_entry_76 : decode b_Mo_entry 76 = .ok (.lload_n 3, 1) := by decide +kernel
theorem d_Mo_entry_77 : decode b_Mo_entry 77 = .ok (.lcmp, 1) := by decide +kernel
theorem d_Mo_entry_78 : decode b_Mo_entry 78 = .ok (.ifCond .ne 13, 3) := by decide +kernel
theorem d_Mo_entry_81 : decode b_Mo_entry 81 = .ok (.aload_n 0, 1) := by decide +kernel
theorem d_Mo_entry_82 : decode b_Mo_entry 82 = .ok (.getfield 168, 3) := by decide +kernel
theorem d_Mo_entry_85 : decode b_Mo_entry 85 = .ok (.iload_n 1, 1) := by decide +kernel
theorem d_Mo_entry_86 : decode b_Mo_entry 86 = .ok (.iaload, 1) := by decide +kernel
theorem d_Mo_entry_87 : decode b_Mo_entry 87 = .ok (.iload 5, 2) := by decide +kernel
theorem d_Mo_entry_89 : decode b_Mo_entry 89 = .ok (.iadd, 1) := by decide +kernel
theorem d_Mo_entry_90 : decode b_Mo_entry 90 = .ok (.ireturn, 1) := by decide +kernel
theorem d_Mo_entry_91 : decode b_Mo_entry 91 = .ok (.aload_n 0, 1) := by decide +kernel
theorem d_Mo_entry_92 : decode b_Mo_entry 92 = .ok (.getfield 206, 3) := by decide +kernel
theorem d_Mo_entry_95 : decode b_Mo_entry 95 = .ok (.aload_n 0, 1) := by decide +kernel
theorem d_Mo_entry_96 : decode b_Mo_entry 96 = .ok (.getfield 168, 3) := by decide +kernel
theorem d_Mo_entry_99 : decode b_Mo_entry 99 = .ok (.iload_n 1, 1) := by decide +kernel
theorem d_Mo_entry_100 : decode b_Mo_entry 100 = .ok (.iaload, 1) := by decide +kernel
theorem d_Mo_entry_101 : decode b_Mo_entry 101 = .ok (.iload 5, 2) := by decide +kernel
theorem d_Mo_entry_103 : decode b_Mo_entry 103 = .ok (.iadd, 1) := by decide +kernel
theorem d_Mo_entry_104 : decode b_Mo_entry 104 = .ok (.iaload, 1) := by decide +kernel
theorem d_Mo_entry_105 : decode b_Mo_entry 105 = .ok (.iconst 1, 1) := by decide +kernel
theorem d_Mo_entry_106 : decode b_Mo_entry 106 = .ok (.isub, 1) := by decide +kernel
theorem d_Mo_entry_107 : decode b_Mo_entry 107 = .ok (.istore 5, 2) := by decide +kernel
theorem d_Mo_entry_109 : decode b_Mo_entry 109 = .ok (.goto (-70), 3) := by decide +kernel
theorem d_Mo_entry_112 : decode b_Mo_entry 112 = .ok (.iconst (-1), 1) := by decide +kernel
theorem d_Mo_entry_113 : decode b_Mo_entry 113 = .ok (.ireturn, 1) := by decide +kernel
abbrev b_Mo_slot : ByteArray := prog_14_method_32_code
def y_Mo_slot : MethodName := ⟨R_Mo, "slot", "(IIJ)I"⟩
abbrev w_Mo_slot : List Cond := .code y_Mo_slot b_Mo_slot 5 (some .int) :: wA
theorem k_Mo_slot : Cond.code y_Mo_slot b_Mo_slot 5 (some .int) ∈ wA := kinm (show _ ∈ tables_1 from (List.mem_append_right _ (List.mem_append_right _ (List.mem_append_right _ (List.mem_append_right _ (List.mem_append_right _ (List.mem_append_right _ (List.mem_append_right _ (List.mem_append_right _ (List.mem_append_right _ (List.mem_append_right _ (List.mem_append_right _ (List.mem_append_left _ (List.mem_of_getElem? (l := tables_1_12) (i := 92) (by decide +kernel))))))))))))))) (by decide +kernel)
theorem d_Mo_slot_0 : decode b_Mo_slot 0 = .ok (.lload_n 3, 1) := by decide +kernel
theorem d_Mo_slot_1 : decode b_Mo_slot 1 = .ok (.ldc2_w 540, 3) := by decide +kernel
theorem d_Mo_slot_4 : decode b_Mo_slot 4 = .ok (.lmul, 1) := by decide +kernel
theorem d_Mo_slot_5 : decode b_Mo_slot 5 = .ok (.iload_n 2, 1) := by decide +kernel
theorem d_Mo_slot_6 : decode b_Mo_slot 6 = .ok (.i2l, 1) := by decide +kernel
theorem d_Mo_slot_7 : decode b_Mo_slot 7 = .ok (.ladd, 1) := by decide +kernel
theorem d_Mo_slot_8 : decode b_Mo_slot 8 = .ok (.lload_n 3, 1) := by decide +kernel
theorem d_Mo_slot_9 : decode b_Mo_slot 9 = .ok (.bipush 17, 2) := by decide +kernel
theorem d_Mo_slot_11 : decode b_Mo_slot 11 = .ok (.lushr, 1) := by decide +kernel
theorem d_Mo_slot_12 : decode b_Mo_slot 12 = .ok (.ladd, 1) := by decide +kernel
theorem d_Mo_slot_13 : decode b_Mo_slot 13 = .ok (.iload_n 1, 1) := by decide +kernel
theorem d_Mo_slot_14 : decode b_Mo_slot 14 = .ok (.i2l, 1) := by decide +kernel
theorem d_Mo_slot_15 : decode b_Mo_slot 15 = .ok (.invokestatic 542, 3) := by decide +kernel
theorem d_Mo_slot_18 : decode b_Mo_slot 18 = .ok (.l2i, 1) := by decide +kernel
theorem d_Mo_slot_19 : decode b_Mo_slot 19 = .ok (.ireturn, 1) := by decide +kernel
theorem kw_122 : Cond.constantLong R_Mo 540 31 ∈ wA := kinm (show _ ∈ tables_1 from (List.mem_append_right _ (List.mem_append_right _ (List.mem_append_right _ (List.mem_append_right _ (List.mem_append_right _ (List.mem_append_right _ (List.mem_append_right _ (List.mem_append_right _ (List.mem_append_right _ (List.mem_append_right _ (List.mem_append_right _ (List.mem_append_left _ (List.mem_of_getElem? (l := tables_1_12) (i := 93) (by decide +kernel))))))))))))))) (by decide +kernel)
theorem kw_123 : Cond.methodLink R_Mo 542 y_Mth_floorMod ∈ wA := kinm (show _ ∈ tables_1 from (List.mem_append_right _ (List.mem_append_right _ (List.mem_append_right _ (List.mem_append_right _ (List.mem_append_right _ (List.mem_append_right _ (List.mem_append_right _ (List.mem_append_right _ (List.mem_append_right _ (List.mem_append_right _ (List.mem_append_right _ (List.mem_append_left _ (List.mem_of_getElem? (l := tables_1_12) (i := 94) (by decide +kernel))))))))))))))) (by decide +kernel)
theorem kw_124 : Cond.instanceMethod y_Mo_slot ∈ wA := kinm (show _ ∈ tables_1 from (List.mem_append_right _ (List.mem_append_right _ (List.mem_append_right _ (List.mem_append_right _ (List.mem_append_right _ (List.mem_append_right _ (List.mem_append_right _ (List.mem_append_right _ (List.mem_append_right _ (List.mem_append_right _ (List.mem_append_right _ (List.mem_append_left _ (List.mem_of_getElem? (l := tables_1_12) (i := 91) (by decide +kernel))))))))))))))) (by decide +kernel)
theorem kw_125 : Cond.selects R_Mo y_Mo_slot y_Mo_slot ∈ wA := kinp 148 (by decide +kernel) (by decide +kernel)
def M_Mo_slot (l1 : Int32) (l2 : Int32) (l3 : Int64) : M (Int32) :=
  oB (M_Mth_floorMod (((l3 * 31) + l2.toInt64) + (lushr l3 (17 : Int32))) l1.toInt64) fun v15 =>
  oR v15.toInt32

theorem cv_Mo_slot : CV y_Mo_slot b_Mo_slot 5 (some .int) 3 := ⟨kw_124, kw_125, kw_17, k_Mo_slot, by decide +kernel⟩
theorem ct_Mo_slot {l : Launch} {P : PP} {q : PL} {s s' : S1} {l1 : Int32} {l2 : Int32} {l3 : Int64} {r : Int32} (h : M_Mo_slot l1 l2 l3 s = some (r, s')) : Ct l y_Mo_slot b_Mo_slot 5 (some .int) 1 25 P q s [.ref (q.1 0 0), .int l1, .int l2, .long l3] (some (.int r)) q s' := by
  refine ct_of (by decide) (Nat.le_of_ble_eq_true rfl) fun X ls eP el g hR hl => ?_
  have hR : Rt X q ((r, s') : Int32 × S1).2 (some (.int ((r, s') : Int32 × S1).1)) := hR
  have hl : lv_has ls 5 [(0, .ref (q.1 0 0)), (1, .int l1), (2, .int l2), (3, .long l3)] := hl
  generalize (r, s') = o at h hR
  unfold M_Mo_slot at h
  refine ww_lload_n (pc := 0) g.1 d_Mo_slot_0 rfl (lv_at hl 3 rfl) ?_
  refine ww_ldc2 (pc := 1) g (v := 31) kw_122 d_Mo_slot_1 ?_
  refine ww_lmul (pc := 4) g.1 d_Mo_slot_4 ?_
  refine ww_iload_n (pc := 5) g.1 d_Mo_slot_5 rfl (lv_at hl 2 rfl) ?_
  refine ww_i2l (pc := 6) g.1 (v := l2.toInt64) d_Mo_slot_6 rfl ?_
  refine ww_ladd (pc := 7) g.1 d_Mo_slot_7 ?_
  refine ww_lload_n (pc := 8) g.1 d_Mo_slot_8 rfl (lv_at hl 3 rfl) ?_
  refine ww_bipush (pc := 9) g.1 (v := 17) d_Mo_slot_9 (by decide) ?_
  refine ww_lushr (pc := 11) g.1 (v := lushr l3 (17 : Int32)) d_Mo_slot_11 rfl ?_
  refine ww_ladd (pc := 12) g.1 d_Mo_slot_12 ?_
  refine ww_iload_n (pc := 13) g.1 d_Mo_slot_13 rfl (lv_at hl 1 rfl) ?_
  refine ww_i2l (pc := 14) g.1 (v := l1.toInt64) d_Mo_slot_14 rfl ?_
  obtain ⟨v15, s, hc15, h⟩ := oB_of h
  refine ww_callS (pc := 15) (rest := []) g cs_Mth_floorMod (Or.inl kw_123) (ct_Mth_floorMod hc15) ⟨by decide, by decide⟩ rfl hl.1 (Nat.le_of_ble_eq_true rfl) d_Mo_slot_15 rfl ?_
  refine ww_st (st' := [.long v15]) rfl ?_
  refine ww_l2i (pc := 18) g.1 (v := v15.toInt32) d_Mo_slot_18 rfl ?_
  exact ww_iretH (pc := 19) g h hR d_Mo_slot_19

