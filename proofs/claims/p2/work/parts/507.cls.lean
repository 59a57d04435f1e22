abbrev b_He_dropFromBucket : ByteArray := prog_6_method_27_code
def y_He_dropFromBucket : MethodName := ⟨R_He, "dropFromBucket", "(I)V"⟩
abbrev w_He_dropFromBucket : List Cond := .code y_He_dropFromBucket b_He_dropFromBucket 6 none :: wA
theorem k_He_dropFromBucket : Cond.code y_He_dropFromBucket b_He_dropFromBucket 6 none ∈ wA := kinm (show _ ∈ tables_1 from (List.mem_append_right _ (List.mem_append_right _ (List.mem_append_right _ (List.mem_append_right _ (List.mem_append_left _ (List.mem_of_getElem? (l := tables_1_5) (i := 154) (by decide +kernel)))))))) (by decide +kernel)
theorem d_He_dropFromBucket_0 : decode b_He_dropFromBucket 0 = .ok (.aload_n 0, 1) := by decide +kernel
theorem d_He_dropFromBucket_1 : decode b_He_dropFromBucket 1 = .ok (.getfield 11, 3) := by decide +kernel
theorem d_He_dropFromBucket_4 : decode b_He_dropFromBucket 4 = .ok (.iload_n 1, 1) := by decide +kernel
theorem d_He_dropFromBucket_5 : decode b_He_dropFromBucket 5 = .ok (.aaload, 1) := by decide +kernel
theorem d_He_dropFromBucket_6 : decode b_He_dropFromBucket 6 = .ok (.getfield 119, 3) := by decide +kernel
theorem d_He_dropFromBucket_9 : decode b_He_dropFromBucket 9 = .ok (.istore_n 2, 1) := by decide +kernel
theorem d_He_dropFromBucket_10 : decode b_He_dropFromBucket 10 = .ok (.iload_n 2, 1) := by decide +kernel
theorem d_He_dropFromBucket_11 : decode b_He_dropFromBucket 11 = .ok (.iload_n 2, 1) := by decide +kernel
theorem d_He_dropFromBucket_12 : decode b_He_dropFromBucket 12 = .ok (.bipush 15, 2) := by decide +kernel
theorem d_He_dropFromBucket_14 : decode b_He_dropFromBucket 14 = .ok (.iushr, 1) := by decide +kernel
theorem d_He_dropFromBucket_15 : decode b_He_dropFromBucket 15 = .ok (.ixor, 1) := by decide +kernel
theorem d_He_dropFromBucket_16 : decode b_He_dropFromBucket 16 = .ok (.sipush 4095, 3) := by decide +kernel
theorem d_He_dropFromBucket_19 : decode b_He_dropFromBucket 19 = .ok (.iand, 1) := by decide +kernel
theorem d_He_dropFromBucket_20 : decode b_He_dropFromBucket 20 = .ok (.istore_n 3, 1) := by decide +kernel
theorem d_He_dropFromBucket_21 : decode b_He_dropFromBucket 21 = .ok (.aload_n 0, 1) := by decide +kernel
theorem d_He_dropFromBucket_22 : decode b_He_dropFromBucket 22 = .ok (.getfield 33, 3) := by decide +kernel
theorem d_He_dropFromBucket_25 : decode b_He_dropFromBucket 25 = .ok (.iload_n 3, 1) := by decide +kernel
theorem d_He_dropFromBucket_26 : decode b_He_dropFromBucket 26 = .ok (.iaload, 1) := by decide +kernel
theorem d_He_dropFromBucket_27 : decode b_He_dropFromBucket 27 = .ok (.istore 4, 2) := by decide +kernel
theorem d_He_dropFromBucket_29 : decode b_He_dropFromBucket 29 = .ok (.iload 4, 2) := by decide +kernel
theorem d_He_dropFromBucket_31 : decode b_He_dropFromBucket 31 = .ok (.iload_n 1, 1) := by decide +kernel
theorem d_He_dropFromBucket_32 : decode b_He_dropFromBucket 32 = .ok (.if_icmp .ne 19, 3) := by decide +kernel
theorem d_He_dropFromBucket_35 : decode b_He_dropFromBucket 35 = .ok (.aload_n 0, 1) := by decide +kernel
theorem d_He_dropFromBucket_36 : decode b_He_dropFromBucket 36 = .ok (.getfield 33, 3) := by decide +kernel
theorem d_He_dropFromBucket_39 : decode b_He_dropFromBucket 39 = .ok (.iload_n 3, 1) := by decide +kernel
theorem d_He_dropFromBucket_40 : decode b_He_dropFromBucket 40 = .ok (.aload_n 0, 1) := by decide +kernel
theorem d_He_dropFromBucket_41 : decode b_He_dropFromBucket 41 = .ok (.getfield 11, 3) := by decide +kernel
theorem d_He_dropFromBucket_44 : decode b_He_dropFromBucket 44 = .ok (.iload_n 1, 1) := by decide +kernel
theorem d_He_dropFromBucket_45 : decode b_He_dropFromBucket 45 = .ok (.aaload, 1) := by decide +kernel
theorem d_He_dropFromBucket_46 : decode b_He_dropFromBucket 46 = .ok (.getfield 129, 3) := by decide +kernel
theorem d_He_dropFromBucket_49 : decode b_He_dropFromBucket 49 = .ok (.iastore, 1) := by decide +kernel
theorem d_He_dropFromBucket_50 : decode b_He_dropFromBucket 50 = .ok (.return_, 1) := by decide +kernel
theorem d_He_dropFromBucket_51 : decode b_He_dropFromBucket 51 = .ok (.iconst 0, 1) := by decide +kernel
theorem d_He_dropFromBucket_52 : decode b_He_dropFromBucket 52 = .ok (.istore 5, 2) := by decide +kernel
theorem d_He_dropFromBucket_54 : decode b_He_dropFromBucket 54 = .ok (.aload_n 0, 1) := by decide +kernel
theorem d_He_dropFromBucket_55 : decode b_He_dropFromBucket 55 = .ok (.getfield 11, 3) := by decide +kernel
theorem d_He_dropFromBucket_58 : decode b_He_dropFromBucket 58 = .ok (.iload 4, 2) := by decide +kernel
theorem d_He_dropFromBucket_60 : decode b_He_dropFromBucket 60 = .ok (.aaload, 1) := by decide +kernel
theorem d_He_dropFromBucket_61 : decode b_He_dropFromBucket 61 = .ok (.getfield 129, 3) := by decide +kernel
theorem d_He_dropFromBucket_64 : decode b_He_dropFromBucket 64 = .ok (.iload_n 1, 1) := by decide +kernel
theorem d_He_dropFromBucket_65 : decode b_He_dropFromBucket 65 = .ok (.if_icmp .eq 29, 3) := by decide +kernel
theorem d_He_dropFromBucket_68 : decode b_He_dropFromBucket 68 = .ok (.iload 5, 2) := by decide +kernel
theorem d_He_dropFromBucket_70 : decode b_He_dropFromBucket 70 = .ok (.sipush 4000, 3) := by decide +kernel
theorem d_He_dropFromBucket_73 : decode b_He_dropFromBucket 73 = .ok (.if_icmp .ge 21, 3) := by decide +kernel
theorem d_He_dropFromBucket_76 : decode b_He_dropFromBucket 76 = .ok (.aload_n 0, 1) := by decide +kernel
theorem d_He_dropFromBucket_77 : decode b_He_dropFromBucket 77 = .ok (.getfield 11, 3) := by decide +kernel
theorem d_He_dropFromBucket_80 : decode b_He_dropFromBucket 80 = .ok (.iload 4, 2) := by decide +kernel
theorem d_He_dropFromBucket_82 : decode b_He_dropFromBucket 82 = .ok (.aaload, 1) := by decide +kernel
theorem d_He_dropFromBucket_83 : decode b_He_dropFromBucket 83 = .ok (.getfield 129, 3) := by decide +kernel
theorem d_He_dropFromBucket_86 : decode b_He_dropFromBucket 86 = .ok (.istore 4, 2) := by decide +kernel
theorem d_He_dropFromBucket_88 : decode b_He_dropFromBucket 88 = .ok (.iinc 5 1, 3) := by decide +kernel
theorem d_He_dropFromBucket_91 : decode b_He_dropFromBucket 91 = .ok (.goto (-37), 3) := by decide +kernel
theorem d_He_dropFromBucket_94 : decode b_He_dropFromBucket 94 = .ok (.aload_n 0, 1) := by decide +kernel
theorem d_He_dropFromBucket_95 : decode b_He_dropFromBucket 95 = .ok (.getfield 11, 3) := by decide +kernel
theorem d_He_dropFromBucket_98 : decode b_He_dropFromBucket 98 = .ok (.iload 4, 2) := by decide +kernel
theorem d_He_dropFromBucket_100 : decode b_He_dropFromBucket 100 = .ok (.aaload, 1) := by decide +kernel
theorem d_He_dropFromBucket_101 : decode b_He_dropFromBucket 101 = .ok (.aload_n 0, 1) := by decide +kernel
theorem d_He_dropFromBucket_102 : decode b_He_dropFromBucket 102 = .ok (.getfield 11, 3) := by decide +kernel
theorem d_He_dropFromBucket_105 : decode b_He_dropFromBucket 105 = .ok (.iload_n 1, 1) := by decide +kernel
theorem d_He_dropFromBucket_106 : decode b_He_dropFromBucket 106 = .ok (.aaload, 1) := by decide +kernel
theorem d_He_dropFromBucket_107 : decode b_He_dropFromBucket 107 = .ok (.getfield 129, 3) := by decide +kernel
theorem d_He_dropFromBucket_110 : decode b_He_dropFromBucket 110 = .ok (.putfield 129, 3) := by decide +kernel
theorem d_He_dropFromBucket_113 : decode b_He_dropFromBucket 113 = .ok (.return_, 1) := by decide +kernel
theorem kw_767 : Cond.instanceMethod y_He_dropFromBucket ∈ wA := kinm (show _ ∈ tables_1 from (List.mem_append_right _ (List.mem_append_right _ (List.mem_append_right _ (List.mem_append_right _ (List.mem_append_left _ (List.mem_of_getElem? (l := tables_1_5) (i := 153) (by decide +kernel)))))))) (by decide +kernel)
theorem kw_768 : Cond.selects R_He y_He_dropFromBucket y_He_dropFromBucket ∈ wA := kinp 23 (by decide +kernel) (by decide +kernel)
theorem cv_He_dropFromBucket : CV y_He_dropFromBucket b_He_dropFromBucket 6 none 1 := ⟨kw_767, kw_768, kw_712, k_He_dropFromBucket, by decide +kernel⟩
theorem lp_He_dropFromBucket_L54 {X : Cx} {q : PL} (g : Gd X y_He_dropFromBucket b_He_dropFromBucket 6 none 0 0 R_He) (x : Int32 × Int32 × Int32) (s : S1) (o : ((Int32 × Int32 × Int32) ⊕ ((Int32 × Int32))) × S1) (h : M_He_dropFromBucket_L54 x s = some o) (hR : (Sum.elim (fun y : Int32 × Int32 × Int32 => ∀ ls : Array Slot, lv_has ls 6 [(0, .ref (q.1 111 0)), (1, .int y.1), (4, .int y.2.1), (5, .int y.2.2)] → WW X q o.2 54 ls []) (fun y : Int32 × Int32 => ∀ ls : Array Slot, lv_has ls 6 [(0, .ref (q.1 111 0)), (1, .int y.1), (4, .int y.2)] → WW X q o.2 94 ls []) o.1)) : ∀ ls : Array Slot, lv_has ls 6 [(0, .ref (q.1 111 0)), (1, .int x.1), (4, .int x.2.1), (5, .int x.2.2)] → WW X q s 54 ls [] := by
  intro ls hl
  unfold M_He_dropFromBucket_L54 at h
  refine ww_aload_n (pc := 54) g.1 d_He_dropFromBucket_54 rfl (lv_at hl 0 rfl) ?_
  refine ww_gR (pc := 55) g (k := 0) cl_He (pz rfl (by decide)) (by decide) (Or.inl kw_725) (f := 14208) (t := 112) rfl rfl rfl d_He_dropFromBucket_55 ?_
  refine ww_iload (pc := 58) g.1 d_He_dropFromBucket_58 (lv_at hl 2 rfl) ?_
  refine ww_a8 (pc := 60) g (t := 145) (n := 4000) (pz rfl (by decide)) rfl rfl rfl rfl d_He_dropFromBucket_60 h fun pa60 h => ?_
  refine ww_gI (pc := 61) g (k := 5) cl_Tg pa60 (by decide) (Or.inl kw_744) (f := 18565) rfl rfl d_He_dropFromBucket_61 h fun v61 h => ?_
  refine ww_iload_n (pc := 64) g.1 d_He_dropFromBucket_64 rfl (lv_at hl 1 rfl) ?_
  refine ww_icmp_eq (pc := 65) (tgt := 94) g.1 d_He_dropFromBucket_65 (by decide) h (fun c h => ?_) (fun c h => ?_)
  · rw [oR_eq h] at hR
    exact hR ls (lv_sub hl [0, 1, 2] rfl)
  · refine ww_iload (pc := 68) g.1 d_He_dropFromBucket_68 (lv_at hl 3 rfl) ?_
    refine ww_sipush (pc := 70) g.1 (v := 4000) d_He_dropFromBucket_70 (by decide) ?_
    refine ww_icmp_ge (pc := 73) (tgt := 94) g.1 d_He_dropFromBucket_73 (by decide) h (fun c h => ?_) (fun c h => ?_)
    · rw [oR_eq h] at hR
      exact hR ls (lv_sub hl [0, 1, 2] rfl)
    · refine ww_aload_n (pc := 76) g.1 d_He_dropFromBucket_76 rfl (lv_at hl 0 rfl) ?_
      refine ww_gR (pc := 77) g (k := 0) cl_He (pz rfl (by decide)) (by decide) (Or.inl kw_725) (f := 14208) (t := 112) rfl rfl rfl d_He_dropFromBucket_77 ?_
      refine ww_iload (pc := 80) g.1 d_He_dropFromBucket_80 (lv_at hl 2 rfl) ?_
      refine ww_a8 (pc := 82) g (t := 145) (n := 4000) (pz rfl (by decide)) rfl rfl rfl rfl d_He_dropFromBucket_82 h fun pa82 h => ?_
      refine ww_gI (pc := 83) g (k := 5) cl_Tg pa82 (by decide) (Or.inl kw_744) (f := 18565) rfl rfl d_He_dropFromBucket_83 h fun v83 h => ?_
      refine ww_istore (pc := 86) (i := 4) g.1 (lv' := [(4, .int v83), (0, .ref (q.1 111 0)), (1, .int x.1), (5, .int x.2.2)]) d_He_dropFromBucket_86 hl (by decide) rfl fun ls hl => ?_
      refine ww_iinc (pc := 88) g.1 (v := x.2.2 + 1) (lv' := [(5, .int (x.2.2 + 1)), (4, .int v83), (0, .ref (q.1 111 0)), (1, .int x.1)]) d_He_dropFromBucket_88 hl (k := 3) rfl (by rfl) (by decide) rfl fun ls hl => ?_
      refine ww_goto (pc := 91) (tgt := 54) g.1 d_He_dropFromBucket_91 (by decide) ?_
      rw [oR_eq h] at hR
      exact hR ls (lv_sub hl [2, 3, 1, 0] rfl)

theorem j_He_dropFromBucket_j94 {X : Cx} {q : PL} (g : Gd X y_He_dropFromBucket b_He_dropFromBucket 6 none 0 0 R_He) {o : (Unit) × S1} (hR : Rt X q o.2 none) (l1 : Int32) (l4 : Int32) (s : S1) (ls : Array Slot) (hl : lv_has ls 6 [(0, .ref (q.1 111 0)), (1, .int l1), (4, .int l4)]) (h : M_He_dropFromBucket_j94 l1 l4 s = some o) : WW X q s 94 ls [] := by
  unfold M_He_dropFromBucket_j94 at h
  refine ww_aload_n (pc := 94) g.1 d_He_dropFromBucket_94 rfl (lv_at hl 0 rfl) ?_
  refine ww_gR (pc := 95) g (k := 0) cl_He (pz rfl (by decide)) (by decide) (Or.inl kw_725) (f := 14208) (t := 112) rfl rfl rfl d_He_dropFromBucket_95 ?_
  refine ww_iload (pc := 98) g.1 d_He_dropFromBucket_98 (lv_at hl 2 rfl) ?_
  refine ww_a8 (pc := 100) g (t := 145) (n := 4000) (pz rfl (by decide)) rfl rfl rfl rfl d_He_dropFromBucket_100 h fun pa100 h => ?_
  refine ww_aload_n (pc := 101) g.1 d_He_dropFromBucket_101 rfl (lv_at hl 0 rfl) ?_
  refine ww_gR (pc := 102) g (k := 0) cl_He (pz rfl (by decide)) (by decide) (Or.inl kw_725) (f := 14208) (t := 112) rfl rfl rfl d_He_dropFromBucket_102 ?_
  refine ww_iload_n (pc := 105) g.1 d_He_dropFromBucket_105 rfl (lv_at hl 1 rfl) ?_
  refine ww_a8 (pc := 106) g (t := 145) (n := 4000) (pz rfl (by decide)) rfl rfl rfl rfl d_He_dropFromBucket_106 h fun pa106 h => ?_
  refine ww_gI (pc := 107) g (k := 5) cl_Tg pa106 (by decide) (Or.inl kw_744) (f := 18565) rfl rfl d_He_dropFromBucket_107 h fun v107 h => ?_
  refine ww_pI (pc := 110) g (k := 5) cl_Tg pa100 (by decide) (Or.inl kw_744) rfl (f := 18565) rfl rfl rfl rfl d_He_dropFromBucket_110 h fun s hs h => ?_
  exact ww_vretH (pc := 113) g h hR d_He_dropFromBucket_113

theorem ct_He_dropFromBucket {l : Launch} {P : PP} {q : PL} {s s' : S1} {l1 : Int32} {r : Unit} (h : M_He_dropFromBucket l1 s = some (r, s')) : Ct l y_He_dropFromBucket b_He_dropFromBucket 6 none 0 0 P q s [.ref (q.1 111 0), .int l1] none q s' := by
  refine ct_of (by decide) (Nat.le_of_ble_eq_true rfl) fun X ls eP el g hR hl => ?_
  subst eP
  have hR : Rt X q ((r, s') : Unit × S1).2 none := hR
  have hl : lv_has ls 6 [(0, .ref (q.1 111 0)), (1, .int l1)] := hl
  generalize (r, s') = o at h hR
  unfold M_He_dropFromBucket at h
  refine ww_aload_n (pc := 0) g.1 d_He_dropFromBucket_0 rfl (lv_at hl 0 rfl) ?_
  refine ww_gR (pc := 1) g (k := 0) cl_He (pz rfl (by decide)) (by decide) (Or.inl kw_725) (f := 14208) (t := 112) rfl rfl rfl d_He_dropFromBucket_1 ?_
  refine ww_iload_n (pc := 4) g.1 d_He_dropFromBucket_4 rfl (lv_at hl 1 rfl) ?_
  refine ww_a8 (pc := 5) g (t := 145) (n := 4000) (pz rfl (by decide)) rfl rfl rfl rfl d_He_dropFromBucket_5 h fun pa5 h => ?_
  refine ww_gI (pc := 6) g (k := 6) cl_Tg pa5 (by decide) (Or.inl kw_762) (f := 18566) rfl rfl d_He_dropFromBucket_6 h fun v6 h => ?_
  refine ww_istore_n (pc := 9) (i := 2) g.1 (lv' := [(2, .int v6), (0, .ref (q.1 111 0)), (1, .int l1)]) d_He_dropFromBucket_9 rfl hl (by decide) rfl fun ls hl => ?_
  refine ww_iload_n (pc := 10) g.1 d_He_dropFromBucket_10 rfl (lv_at hl 0 rfl) ?_
  refine ww_iload_n (pc := 11) g.1 d_He_dropFromBucket_11 rfl (lv_at hl 0 rfl) ?_
  refine ww_bipush (pc := 12) g.1 (v := 15) d_He_dropFromBucket_12 (by decide) ?_
  refine ww_iushr (pc := 14) g.1 (v := iushr v6 (15 : Int32)) d_He_dropFromBucket_14 rfl ?_
  refine ww_ixor (pc := 15) g.1 d_He_dropFromBucket_15 ?_
  refine ww_sipush (pc := 16) g.1 (v := 4095) d_He_dropFromBucket_16 (by decide) ?_
  refine ww_iand (pc := 19) g.1 d_He_dropFromBucket_19 ?_
  refine ww_leti h fun l3_20 h => ?_
  refine ww_istore_n (pc := 20) (i := 3) g.1 (lv' := [(3, .int l3_20), (2, .int v6), (0, .ref (q.1 111 0)), (1, .int l1)]) d_He_dropFromBucket_20 rfl hl (by decide) rfl fun ls hl => ?_
  refine ww_aload_n (pc := 21) g.1 d_He_dropFromBucket_21 rfl (lv_at hl 2 rfl) ?_
  refine ww_gR (pc := 22) g (k := 7) cl_He (pz rfl (by decide)) (by decide) (Or.inl kw_706) (f := 14215) (t := 117) rfl rfl rfl d_He_dropFromBucket_22 ?_
  refine ww_iload_n (pc := 25) g.1 d_He_dropFromBucket_25 rfl (lv_at hl 0 rfl) ?_
  refine ww_ai (pc := 26) g (pz rfl (by decide)) rfl rfl d_He_dropFromBucket_26 h fun v26 h => ?_
  refine ww_istore (pc := 27) (i := 4) g.1 (lv' := [(4, .int v26), (3, .int l3_20), (2, .int v6), (0, .ref (q.1 111 0)), (1, .int l1)]) d_He_dropFromBucket_27 hl (by decide) rfl fun ls hl => ?_
  refine ww_iload (pc := 29) g.1 d_He_dropFromBucket_29 (lv_at hl 0 rfl) ?_
  refine ww_iload_n (pc := 31) g.1 d_He_dropFromBucket_31 rfl (lv_at hl 4 rfl) ?_
  refine ww_icmp_ne (pc := 32) (tgt := 51) g.1 d_He_dropFromBucket_32 (by decide) h (fun c h => ?_) (fun c h => ?_)
  · refine ww_iconst (pc := 51) g.1 (v := 0) d_He_dropFromBucket_51 (by decide) ?_
    refine ww_istore (pc := 52) (i := 5) g.1 (lv' := [(5, .int 0), (4, .int v26), (3, .int l3_20), (2, .int v6), (0, .ref (q.1 111 0)), (1, .int l1)]) d_He_dropFromBucket_52 hl (by decide) rfl fun ls hl => ?_
    obtain ⟨e54, s1, hw, h⟩ := oB_of h
    refine oW_rule (Wh := fun (x : Int32 × Int32 × Int32) (s : S1) => ∀ ls : Array Slot, lv_has ls 6 [(0, .ref (q.1 111 0)), (1, .int x.1), (4, .int x.2.1), (5, .int x.2.2)] → WW X q s 54 ls []) (We := fun (e : (Int32 × Int32)) (s : S1) => ∀ ls : Array Slot, lv_has ls 6 [(0, .ref (q.1 111 0)), (1, .int e.1), (4, .int e.2)] → WW X q s 94 ls []) (fun x s o hb hc => lp_He_dropFromBucket_L54 (q := q) g x s o hb hc) hw ?_ ls (lv_sub hl [4, 5, 1, 0] rfl)
    clear hw hl
    clear ls
    intro ls hl
    generalize s1 = s at h ⊢
    exact j_He_dropFromBucket_j94 g hR e54.1 e54.2 s ls (lv_sub hl [0, 1, 2] rfl) h
  · refine ww_aload_n (pc := 35) g.1 d_He_dropFromBucket_35 rfl (lv_at hl 3 rfl) ?_
    refine ww_gR (pc := 36) g (k := 7) cl_He (pz rfl (by decide)) (by decide) (Or.inl kw_706) (f := 14215) (t := 117) rfl rfl rfl d_He_dropFromBucket_36 ?_
    refine ww_iload_n (pc := 39) g.1 d_He_dropFromBucket_39 rfl (lv_at hl 1 rfl) ?_
    refine ww_aload_n (pc := 40) g.1 d_He_dropFromBucket_40 rfl (lv_at hl 3 rfl) ?_
    refine ww_gR (pc := 41) g (k := 0) cl_He (pz rfl (by decide)) (by decide) (Or.inl kw_725) (f := 14208) (t := 112) rfl rfl rfl d_He_dropFromBucket_41 ?_
    refine ww_iload_n (pc := 44) g.1 d_He_dropFromBucket_44 rfl (lv_at hl 4 rfl) ?_
    refine ww_a8 (pc := 45) g (t := 145) (n := 4000) (pz rfl (by decide)) rfl rfl rfl rfl d_He_dropFromBucket_45 h fun pa45 h => ?_
    refine ww_gI (pc := 46) g (k := 5) cl_Tg pa45 (by decide) (Or.inl kw_744) (f := 18565) rfl rfl d_He_dropFromBucket_46 h fun v46 h => ?_
    refine ww_si (pc := 49) g (pz rfl (by decide)) rfl rfl d_He_dropFromBucket_49 h fun s hs h => ?_
    exact ww_vretH (pc := 50) g h hR d_He_dropFromBucket_50

abbrev b_Ta_release : ByteArray := prog_11_method_13_code
def y_Ta_release : MethodName := ⟨R_Ta, "release", "(LLuaMachine$Thing;)V"⟩
abbrev w_Ta_release : List Cond := .code y_Ta_release b_Ta_release 2 none :: wA
theorem k_Ta_release : Cond.code y_Ta_release b_Ta_release 2 none ∈ wA := kinm (show _ ∈ tables_1 from (List.mem_append_right _ (List.mem_append_right _ (List.mem_append_right _ (List.mem_append_right _ (List.mem_append_left _ (List.mem_of_getElem? (l := tables_1_5) (i := 158) (by decide +kernel)))))))) (by decide +kernel)
theorem d_Ta_release_0 : decode b_Ta_release 0 = .ok (.aload_n 1, 1) := by decide +kernel
theorem d_Ta_release_1 : decode b_Ta_release 1 = .ok (.getfield 59, 3) := by decide +kernel
theorem d_Ta_release_4 : decode b_Ta_release 4 = .ok (.ifCond .le 34, 3) := by decide +kernel
theorem d_Ta_release_7 : decode b_Ta_release 7 = .ok (.aload_n 0, 1) := by decide +kernel
theorem d_Ta_release_8 : decode b_Ta_release 8 = .ok (.getfield 33, 3) := by decide +kernel
theorem d_Ta_release_11 : decode b_Ta_release 11 = .ok (.aload_n 1, 1) := by decide +kernel
theorem d_Ta_release_12 : decode b_Ta_release 12 = .ok (.getfield 54, 3) := by decide +kernel
theorem d_Ta_release_15 : decode b_Ta_release 15 = .ok (.aload_n 1, 1) := by decide +kernel
theorem d_Ta_release_16 : decode b_Ta_release 16 = .ok (.getfield 59, 3) := by decide +kernel
theorem d_Ta_release_19 : decode b_Ta_release 19 = .ok (.ineg, 1) := by decide +kernel
theorem d_Ta_release_20 : decode b_Ta_release 20 = .ok (.iastore, 1) := by decide +kernel
theorem d_Ta_release_21 : decode b_Ta_release 21 = .ok (.aload_n 0, 1) := by decide +kernel
theorem d_Ta_release_22 : decode b_Ta_release 22 = .ok (.getfield 36, 3) := by decide +kernel
theorem d_Ta_release_25 : decode b_Ta_release 25 = .ok (.getfield 98, 3) := by decide +kernel
theorem d_Ta_release_28 : decode b_Ta_release 28 = .ok (.bipush 6, 2) := by decide +kernel
theorem d_Ta_release_30 : decode b_Ta_release 30 = .ok (.dup2, 1) := by decide +kernel
theorem d_Ta_release_31 : decode b_Ta_release 31 = .ok (.iaload, 1) := by decide +kernel
theorem d_Ta_release_32 : decode b_Ta_release 32 = .ok (.aload_n 1, 1) := by decide +kernel
theorem d_Ta_release_33 : decode b_Ta_release 33 = .ok (.getfield 59, 3) := by decide +kernel
theorem d_Ta_release_36 : decode b_Ta_release 36 = .ok (.isub, 1) := by decide +kernel
theorem d_Ta_release_37 : decode b_Ta_release 37 = .ok (.iastore, 1) := by decide +kernel
theorem d_Ta_release_38 : decode b_Ta_release 38 = .ok (.return_, 1) := by decide +kernel
theorem kw_769 : Cond.fieldLink R_Ta 59 "LuaMachine$Thing" "room" "I" ∈ wA := kinm (show _ ∈ tables_1 from (List.mem_append_right _ (List.mem_append_right _ (List.mem_append_right _ (List.mem_append_right _ (List.mem_append_left _ (List.mem_of_getElem? (l := tables_1_5) (i := 195) (by decide +kernel)))))))) (by decide +kernel)
theorem kw_770 : Cond.fieldLink R_Ta 33 "LuaMachine$Tables" "owners" "[I" ∈ wA := kinm (show _ ∈ tables_1 from (List.mem_append_left _ (List.mem_of_getElem? (l := tables_1_1) (i := 230) (by decide +kernel)))) (by decide +kernel)
theorem kw_771 : Cond.fieldLink R_Ta 54 "LuaMachine$Thing" "start" "I" ∈ wA := kinm (show _ ∈ tables_1 from (List.mem_append_right _ (List.mem_append_right _ (List.mem_append_right _ (List.mem_append_right _ (List.mem_append_left _ (List.mem_of_getElem? (l := tables_1_5) (i := 192) (by decide +kernel)))))))) (by decide +kernel)
theorem kw_772 : Cond.fieldLink R_Ta 36 "LuaMachine$Tables" "heap" "LLuaMachine$Heap;" ∈ wA := kinm (show _ ∈ tables_1 from (List.mem_append_left _ (List.mem_of_getElem? (l := tables_1_1) (i := 232) (by decide +kernel)))) (by decide +kernel)
theorem kw_773 : Cond.fieldLink R_Ta 98 "LuaMachine$Heap" "tally" "[I" ∈ wA := kinm (show _ ∈ tables_1 from (List.mem_append_left _ (List.mem_of_getElem? (l := tables_1_1) (i := 144) (by decide +kernel)))) (by decide +kernel)
theorem kw_774 : Cond.instanceMethod y_Ta_release ∈ wA := kinm (show _ ∈ tables_1 from (List.mem_append_right _ (List.mem_append_right _ (List.mem_append_right _ (List.mem_append_right _ (List.mem_append_left _ (List.mem_of_getElem? (l := tables_1_5) (i := 156) (by decide +kernel)))))))) (by decide +kernel)
theorem kw_775 : Cond.selects R_Ta y_Ta_release y_Ta_release ∈ wA := kinm (show _ ∈ tables_1 from (List.mem_append_right _ (List.mem_append_right _ (List.mem_append_right _ (List.mem_append_right _ (List.mem_append_left _ (List.mem_of_getElem? (l := tables_1_5) (i := 157) (by decide +kernel)))))))) (by decide +kernel)
theorem cv_Ta_release : CV y_Ta_release b_Ta_release 2 none 1 := ⟨kw_774, kw_775, kw_717, k_Ta_release, by decide +kernel⟩
theorem ct_Ta_release {l : Launch} {P : PP} {q : PL} {s s' : S1} {l1 : Int32} (hp0 : prs s 145 l1) {r : Unit} (h : M_Ta_release l1 s = some (r, s')) : Ct l y_Ta_release b_Ta_release 2 none 0 0 P q s [.ref (q.1 120 0), .ref (q.1 145 l1)] none q s' := by
  refine ct_of (by decide) (Nat.le_of_ble_eq_true rfl) fun X ls eP el g hR hl => ?_
  subst eP
  have hR : Rt X q ((r, s') : Unit × S1).2 none := hR
  have hl : lv_has ls 2 [(0, .ref (q.1 120 0)), (1, .ref (q.1 145 l1))] := hl
  generalize (r, s') = o at h hR
  unfold M_Ta_release at h
  refine ww_aload_n (pc := 0) g.1 d_Ta_release_0 rfl (lv_at hl 1 rfl) ?_
  refine ww_gI (pc := 1) g (k := 12) cl_Tg hp0 (by decide) (Or.inl kw_769) (f := 18572) rfl rfl d_Ta_release_1 h fun v1 h => ?_
  refine ww_if_le (pc := 4) (tgt := 38) g.1 d_Ta_release_4 (by decide) h (fun c h => ?_) (fun c h => ?_)
  · exact ww_vretH (pc := 38) g h hR d_Ta_release_38
  · refine ww_aload_n (pc := 7) g.1 d_Ta_release_7 rfl (lv_at hl 0 rfl) ?_
    refine ww_gR (pc := 8) g (k := 6) cl_Ta (pz rfl (by decide)) (by decide) (Or.inl kw_770) (f := 15366) (t := 127) rfl rfl rfl d_Ta_release_8 ?_
    refine ww_aload_n (pc := 11) g.1 d_Ta_release_11 rfl (lv_at hl 1 rfl) ?_
    refine ww_gI (pc := 12) g (k := 11) cl_Tg hp0 (by decide) (Or.inl kw_771) (f := 18571) rfl rfl d_Ta_release_12 h fun v12 h => ?_
    refine ww_aload_n (pc := 15) g.1 d_Ta_release_15 rfl (lv_at hl 1 rfl) ?_
    refine ww_gI (pc := 16) g (k := 12) cl_Tg hp0 (by decide) (Or.inl kw_769) (f := 18572) rfl rfl d_Ta_release_16 h fun v16 h => ?_
    refine ww_ineg (pc := 19) g.1 d_Ta_release_19 ?_
    refine ww_si (pc := 20) g (pz rfl (by decide)) rfl rfl d_Ta_release_20 h fun s hs h => ?_
    have hp0 : prs s 145 l1 := hs ▸ hp0
    refine ww_aload_n (pc := 21) g.1 d_Ta_release_21 rfl (lv_at hl 0 rfl) ?_
    refine ww_gR (pc := 22) g (k := 8) cl_Ta (pz rfl (by decide)) (by decide) (Or.inl kw_772) (f := 15368) (t := 111) rfl rfl rfl d_Ta_release_22 ?_
    refine ww_gR (pc := 25) g (k := 4) cl_He (pz rfl (by decide)) (by decide) (Or.inl kw_773) (f := 14212) (t := 114) rfl rfl rfl d_Ta_release_25 ?_
    refine ww_bipush (pc := 28) g.1 (v := 6) d_Ta_release_28 (by decide) ?_
    refine ww_dup2_11 (pc := 30) g.1 d_Ta_release_30 rfl rfl ?_
    refine ww_ai (pc := 31) g (pz rfl (by decide)) rfl rfl d_Ta_release_31 h fun v31 h => ?_
    refine ww_aload_n (pc := 32) g.1 d_Ta_release_32 rfl (lv_at hl 1 rfl) ?_
    refine ww_gI (pc := 33) g (k := 12) cl_Tg hp0 (by decide) (Or.inl kw_769) (f := 18572) rfl rfl d_Ta_release_33 h fun v33 h => ?_
    refine ww_isub (pc := 36) g.1 d_Ta_release_36 ?_
    refine ww_si (pc := 37) g (pz rfl (by decide)) rfl rfl d_Ta_release_37 h fun s hs h => ?_
    have hp0 : prs s 145 l1 := hs ▸ hp0
    exact ww_vretH (pc := 38) g h hR d_Ta_release_38

abbrev b_He_closeFrom : ByteArray := prog_6_method_20_code
def y_He_closeFrom : MethodName := ⟨R_He, "closeFrom", "(LLuaMachine$Coroutine;I)V"⟩
abbrev w_He_closeFrom : List Cond := .code y_He_closeFrom b_He_closeFrom 6 none :: wA
theorem k_He_closeFrom : Cond.code y_He_closeFrom b_He_closeFrom 6 none ∈ wA := kinm (show _ ∈ tables_1 from (List.mem_append_right _ (List.mem_append_right _ (List.mem_append_right _ (List.mem_append_right _ (List.mem_append_left _ (List.mem_of_getElem? (l := tables_1_5) (i := 162) (by decide +kernel)))))))) (by decide +kernel)
theorem d_He_closeFrom_0 : decode b_He_closeFrom 0 = .ok (.aload_n 1, 1) := by decide +kernel
theorem d_He_closeFrom_1 : decode b_He_closeFrom 1 = .ok (.getfield 185, 3) := by decide +kernel
theorem d_He_closeFrom_4 : decode b_He_closeFrom 4 = .ok (.istore_n 3, 1) := by decide +kernel
theorem d_He_closeFrom_5 : decode b_He_closeFrom 5 = .ok (.iconst 0, 1) := by decide +kernel
theorem d_He_closeFrom_6 : decode b_He_closeFrom 6 = .ok (.istore 4, 2) := by decide +kernel
theorem d_He_closeFrom_8 : decode b_He_closeFrom 8 = .ok (.iload_n 3, 1) := by decide +kernel
theorem d_He_closeFrom_9 : decode b_He_closeFrom 9 = .ok (.ifCond .lt 80, 3) := by decide +kernel
theorem d_He_closeFrom_12 : decode b_He_closeFrom 12 = .ok (.aload_n 0, 1) := by decide +kernel
theorem d_He_closeFrom_13 : decode b_He_closeFrom 13 = .ok (.getfield 11, 3) := by decide +kernel
theorem d_He_closeFrom_16 : decode b_He_closeFrom 16 = .ok (.iload_n 3, 1) := by decide +kernel
theorem d_He_closeFrom_17 : decode b_He_closeFrom 17 = .ok (.aaload, 1) := by decide +kernel
theorem d_He_closeFrom_18 : decode b_He_closeFrom 18 = .ok (.getfield 119, 3) := by decide +kernel
theorem d_He_closeFrom_21 : decode b_He_closeFrom 21 = .ok (.iload_n 2, 1) := by decide +kernel
theorem d_He_closeFrom_22 : decode b_He_closeFrom 22 = .ok (.if_icmp .lt 67, 3) := by decide +kernel
theorem d_He_closeFrom_25 : decode b_He_closeFrom 25 = .ok (.iload 4, 2) := by decide +kernel
theorem d_He_closeFrom_27 : decode b_He_closeFrom 27 = .ok (.sipush 4000, 3) := by decide +kernel
theorem d_He_closeFrom_30 : decode b_He_closeFrom 30 = .ok (.if_icmp .ge 59, 3) := by decide +kernel
theorem d_He_closeFrom_33 : decode b_He_closeFrom 33 = .ok (.aload_n 0, 1) := by decide +kernel
theorem d_He_closeFrom_34 : decode b_He_closeFrom 34 = .ok (.getfield 11, 3) := by decide +kernel
theorem d_He_closeFrom_37 : decode b_He_closeFrom 37 = .ok (.iload_n 3, 1) := by decide +kernel
theorem d_He_closeFrom_38 : decode b_He_closeFrom 38 = .ok (.aaload, 1) := by decide +kernel
theorem d_He_closeFrom_39 : decode b_He_closeFrom 39 = .ok (.astore 5, 2) := by decide +kernel
theorem d_He_closeFrom_41 : decode b_He_closeFrom 41 = .ok (.aload 5, 2) := by decide +kernel
theorem d_He_closeFrom_43 : decode b_He_closeFrom 43 = .ok (.aload_n 1, 1) := by decide +kernel
theorem d_He_closeFrom_44 : decode b_He_closeFrom 44 = .ok (.getfield 178, 3) := by decide +kernel
theorem d_He_closeFrom_47 : decode b_He_closeFrom 47 = .ok (.aload 5, 2) := by decide +kernel
theorem d_He_closeFrom_49 : decode b_He_closeFrom 49 = .ok (.getfield 119, 3) := by decide +kernel
theorem d_He_closeFrom_52 : decode b_He_closeFrom 52 = .ok (.baload, 1) := by decide +kernel
theorem d_He_closeFrom_53 : decode b_He_closeFrom 53 = .ok (.putfield 100, 3) := by decide +kernel
theorem d_He_closeFrom_56 : decode b_He_closeFrom 56 = .ok (.aload 5, 2) := by decide +kernel
theorem d_He_closeFrom_58 : decode b_He_closeFrom 58 = .ok (.aload_n 1, 1) := by decide +kernel
theorem d_He_closeFrom_59 : decode b_He_closeFrom 59 = .ok (.getfield 181, 3) := by decide +kernel
theorem d_He_closeFrom_62 : decode b_He_closeFrom 62 = .ok (.aload 5, 2) := by decide +kernel
theorem d_He_closeFrom_64 : decode b_He_closeFrom 64 = .ok (.getfield 119, 3) := by decide +kernel
theorem d_He_closeFrom_67 : decode b_He_closeFrom 67 = .ok (.laload, 1) := by decide +kernel
theorem d_He_closeFrom_68 : decode b_He_closeFrom 68 = .ok (.putfield 103, 3) := by decide +kernel
theorem d_He_closeFrom_71 : decode b_He_closeFrom 71 = .ok (.aload 5, 2) := by decide +kernel
theorem d_He_closeFrom_73 : decode b_He_closeFrom 73 = .ok (.iconst (-1), 1) := by decide +kernel
theorem d_He_closeFrom_74 : decode b_He_closeFrom 74 = .ok (.putfield 97, 3) := by decide +kernel
theorem d_He_closeFrom_77 : decode b_He_closeFrom 77 = .ok (.aload 5, 2) := by decide +kernel
theorem d_He_closeFrom_79 : decode b_He_closeFrom 79 = .ok (.getfield 129, 3) := by decide +kernel
theorem d_He_closeFrom_82 : decode b_He_closeFrom 82 = .ok (.istore_n 3, 1) := by decide +kernel
theorem d_He_closeFrom_83 : decode b_He_closeFrom 83 = .ok (.iinc 4 1, 3) := by decide +kernel
theorem d_He_closeFrom_86 : decode b_He_closeFrom 86 = .ok (.goto (-78), 3) := by decide +kernel
theorem d_He_closeFrom_89 : decode b_He_closeFrom 89 = .ok (.aload_n 1, 1) := by decide +kernel
theorem d_He_closeFrom_90 : decode b_He_closeFrom 90 = .ok (.iload_n 3, 1) := by decide +kernel
theorem d_He_closeFrom_91 : decode b_He_closeFrom 91 = .ok (.putfield 185, 3) := by decide +kernel
theorem d_He_closeFrom_94 : decode b_He_closeFrom 94 = .ok (.return_, 1) := by decide +kernel
theorem kw_776 : Cond.instanceMethod y_He_closeFrom ∈ wA := kinm (show _ ∈ tables_1 from (List.mem_append_right _ (List.mem_append_right _ (List.mem_append_right _ (List.mem_append_right _ (List.mem_append_left _ (List.mem_of_getElem? (l := tables_1_5) (i := 160) (by decide +kernel)))))))) (by decide +kernel)
theorem kw_777 : Cond.selects R_He y_He_closeFrom y_He_closeFrom ∈ wA := kinm (show _ ∈ tables_1 from (List.mem_append_right _ (List.mem_append_right _ (List.mem_append_right _ (List.mem_append_right _ (List.mem_append_left _ (List.mem_of_getElem? (l := tables_1_5) (i := 161) (by decide +kernel)))))))) (by decide +kernel)
theorem cv_He_closeFrom : CV y_He_closeFrom b_He_closeFrom 6 none 2 := ⟨kw_776, kw_777, kw_712, k_He_closeFrom, by decide +kernel⟩
theorem lp_He_closeFrom_L8 {X : Cx} {q : PL} (g : Gd X y_He_closeFrom b_He_closeFrom 6 none 0 0 R_He) (x : Int32 × Int32 × Int32 × Int32) (s : S1) (o : ((Int32 × Int32 × Int32 × Int32) ⊕ ((Int32 × Int32))) × S1) (h : M_He_closeFrom_L8 x s = some o) (hR : (Sum.elim (fun y : Int32 × Int32 × Int32 × Int32 => ∀ ls : Array Slot, (prs o.2 148 y.1) → lv_has ls 6 [(0, .ref (q.1 111 0)), (1, .ref (q.1 148 y.1)), (2, .int y.2.1), (3, .int y.2.2.1), (4, .int y.2.2.2)] → WW X q o.2 8 ls []) (fun y : Int32 × Int32 => ∀ ls : Array Slot, (prs o.2 148 y.1) → lv_has ls 6 [(1, .ref (q.1 148 y.1)), (3, .int y.2)] → WW X q o.2 89 ls []) o.1)) : ∀ ls : Array Slot, (prs s 148 x.1) → lv_has ls 6 [(0, .ref (q.1 111 0)), (1, .ref (q.1 148 x.1)), (2, .int x.2.1), (3, .int x.2.2.1), (4, .int x.2.2.2)] → WW X q s 8 ls [] := by
  intro ls hp0 hl
  unfold M_He_closeFrom_L8 at h
  refine ww_iload_n (pc := 8) g.1 d_He_closeFrom_8 rfl (lv_at hl 3 rfl) ?_
  refine ww_if_lt (pc := 9) (tgt := 89) g.1 d_He_closeFrom_9 (by decide) h (fun c h => ?_) (fun c h => ?_)
  · rw [oR_eq h] at hR
    exact hR ls hp0 (lv_sub hl [1, 3] rfl)
  · refine ww_aload_n (pc := 12) g.1 d_He_closeFrom_12 rfl (lv_at hl 0 rfl) ?_
    refine ww_gR (pc := 13) g (k := 0) cl_He (pz rfl (by decide)) (by decide) (Or.inl kw_725) (f := 14208) (t := 112) rfl rfl rfl d_He_closeFrom_13 ?_
    refine ww_iload_n (pc := 16) g.1 d_He_closeFrom_16 rfl (lv_at hl 3 rfl) ?_
    refine ww_a8 (pc := 17) g (t := 145) (n := 4000) (pz rfl (by decide)) rfl rfl rfl rfl d_He_closeFrom_17 h fun pa17 h => ?_
    refine ww_gI (pc := 18) g (k := 6) cl_Tg pa17 (by decide) (Or.inl kw_762) (f := 18566) rfl rfl d_He_closeFrom_18 h fun v18 h => ?_
    refine ww_iload_n (pc := 21) g.1 d_He_closeFrom_21 rfl (lv_at hl 2 rfl) ?_
    refine ww_icmp_lt (pc := 22) (tgt := 89) g.1 d_He_closeFrom_22 (by decide) h (fun c h => ?_) (fun c h => ?_)
    · rw [oR_eq h] at hR
      exact hR ls hp0 (lv_sub hl [1, 3] rfl)
    · refine ww_iload (pc := 25) g.1 d_He_closeFrom_25 (lv_at hl 4 rfl) ?_
      refine ww_sipush (pc := 27) g.1 (v := 4000) d_He_closeFrom_27 (by decide) ?_
      refine ww_icmp_ge (pc := 30) (tgt := 89) g.1 d_He_closeFrom_30 (by decide) h (fun c h => ?_) (fun c h => ?_)
      · rw [oR_eq h] at hR
        exact hR ls hp0 (lv_sub hl [1, 3] rfl)
      · refine ww_aload_n (pc := 33) g.1 d_He_closeFrom_33 rfl (lv_at hl 0 rfl) ?_
        refine ww_gR (pc := 34) g (k := 0) cl_He (pz rfl (by decide)) (by decide) (Or.inl kw_725) (f := 14208) (t := 112) rfl rfl rfl d_He_closeFrom_34 ?_
        refine ww_iload_n (pc := 37) g.1 d_He_closeFrom_37 rfl (lv_at hl 3 rfl) ?_
        refine ww_a8 (pc := 38) g (t := 145) (n := 4000) (pz rfl (by decide)) rfl rfl rfl rfl d_He_closeFrom_38 h fun pa38 h => ?_
        refine ww_astore (pc := 39) (i := 5) g.1 (lv' := [(5, .ref (q.1 145 x.2.2.1)), (0, .ref (q.1 111 0)), (1, .ref (q.1 148 x.1)), (2, .int x.2.1), (3, .int x.2.2.1), (4, .int x.2.2.2)]) d_He_closeFrom_39 hl (by decide) rfl fun ls hl => ?_
        refine ww_aload (pc := 41) g.1 d_He_closeFrom_41 (lv_at hl 0 rfl) ?_
        refine ww_aload_n (pc := 43) g.1 d_He_closeFrom_43 rfl (lv_at hl 2 rfl) ?_
        refine ww_gR (pc := 44) g (k := 0) cl_Co hp0 (by decide) (Or.inl kw_736) (f := 18944) (t := 149) rfl rfl rfl d_He_closeFrom_44 ?_
        refine ww_kd fun kd44 => ?_
        have pk44 : prs s 149 x.1 := (kd44 _ hp0).1
        refine ww_aload (pc := 47) g.1 d_He_closeFrom_47 (lv_at hl 0 rfl) ?_
        refine ww_gI (pc := 49) g (k := 6) cl_Tg pa38 (by decide) (Or.inl kw_762) (f := 18566) rfl rfl d_He_closeFrom_49 h fun v49 h => ?_
        refine ww_ab (pc := 52) g pk44 rfl rfl d_He_closeFrom_52 h fun v52 h => ?_
        refine ww_pI (pc := 53) g (k := 7) cl_Tg pa38 (by decide) (Or.inl kw_763) rfl (f := 18567) rfl rfl rfl rfl d_He_closeFrom_53 h fun s hs h => ?_
        have pa38 : prs s 145 x.2.2.1 := prs_kI (r := 145) (k := 7) (by decide) hs pa38
        have hp0 : prs s 148 x.1 := prs_kI (r := 145) (k := 7) (by decide) hs hp0
        refine ww_aload (pc := 56) g.1 d_He_closeFrom_56 (lv_at hl 0 rfl) ?_
        refine ww_aload_n (pc := 58) g.1 d_He_closeFrom_58 rfl (lv_at hl 2 rfl) ?_
        refine ww_gR (pc := 59) g (k := 1) cl_Co hp0 (by decide) (Or.inl kw_737) (f := 18945) (t := 150) rfl rfl rfl d_He_closeFrom_59 ?_
        refine ww_kd fun kd59 => ?_
        have pk59 : prs s 150 x.1 := (kd59 _ hp0).2.1
        refine ww_aload (pc := 62) g.1 d_He_closeFrom_62 (lv_at hl 0 rfl) ?_
        refine ww_gI (pc := 64) g (k := 6) cl_Tg pa38 (by decide) (Or.inl kw_762) (f := 18566) rfl rfl d_He_closeFrom_64 h fun v64 h => ?_
        refine ww_al (pc := 67) g pk59 rfl rfl d_He_closeFrom_67 h fun v67 h => ?_
        refine ww_pL (pc := 68) g (k := 8) cl_Tg pa38 (by decide) (Or.inl kw_764) rfl (f := 18568) rfl rfl rfl rfl d_He_closeFrom_68 h fun s hs h => ?_
        have pa38 : prs s 145 x.2.2.1 := hs ▸ pa38
        have hp0 : prs s 148 x.1 := hs ▸ hp0
        refine ww_aload (pc := 71) g.1 d_He_closeFrom_71 (lv_at hl 0 rfl) ?_
        refine ww_iconst (pc := 73) g.1 (v := (-1)) d_He_closeFrom_73 (by decide) ?_
        refine ww_pI (pc := 74) g (k := 4) cl_Tg pa38 (by decide) (Or.inl kw_759) rfl (f := 18564) rfl rfl rfl rfl d_He_closeFrom_74 h fun s hs h => ?_
        have pa38 : prs s 145 x.2.2.1 := prs_kI (r := 145) (k := 4) (by decide) hs pa38
        have hp0 : prs s 148 x.1 := prs_kI (r := 145) (k := 4) (by decide) hs hp0
        refine ww_aload (pc := 77) g.1 d_He_closeFrom_77 (lv_at hl 0 rfl) ?_
        refine ww_gI (pc := 79) g (k := 5) cl_Tg pa38 (by decide) (Or.inl kw_744) (f := 18565) rfl rfl d_He_closeFrom_79 h fun v79 h => ?_
        refine ww_istore_n (pc := 82) (i := 3) g.1 (lv' := [(3, .int v79), (5, .ref (q.1 145 x.2.2.1)), (0, .ref (q.1 111 0)), (1, .ref (q.1 148 x.1)), (2, .int x.2.1), (4, .int x.2.2.2)]) d_He_closeFrom_82 rfl hl (by decide) rfl fun ls hl => ?_
        refine ww_iinc (pc := 83) g.1 (v := x.2.2.2 + 1) (lv' := [(4, .int (x.2.2.2 + 1)), (3, .int v79), (5, .ref (q.1 145 x.2.2.1)), (0, .ref (q.1 111 0)), (1, .ref (q.1 148 x.1)), (2, .int x.2.1)]) d_He_closeFrom_83 hl (k := 5) rfl (by rfl) (by decide) rfl fun ls hl => ?_
        refine ww_goto (pc := 86) (tgt := 8) g.1 d_He_closeFrom_86 (by decide) ?_
        rw [oR_eq h] at hR
        exact hR ls hp0 (lv_sub hl [3, 4, 5, 1, 0] rfl)

theorem j_He_closeFrom_j89 {X : Cx} {q : PL} (g : Gd X y_He_closeFrom b_He_closeFrom 6 none 0 0 R_He) {o : (Unit) × S1} (hR : Rt X q o.2 none) (l1 : Int32) (l3 : Int32) (s : S1) (hp0 : prs s 148 l1) (ls : Array Slot) (hl : lv_has ls 6 [(1, .ref (q.1 148 l1)), (3, .int l3)]) (h : M_He_closeFrom_j89 l1 l3 s = some o) : WW X q s 89 ls [] := by
  unfold M_He_closeFrom_j89 at h
  refine ww_aload_n (pc := 89) g.1 d_He_closeFrom_89 rfl (lv_at hl 0 rfl) ?_
  refine ww_iload_n (pc := 90) g.1 d_He_closeFrom_90 rfl (lv_at hl 1 rfl) ?_
  refine ww_pI (pc := 91) g (k := 10) cl_Co hp0 (by decide) (Or.inl kw_743) rfl (f := 18954) rfl rfl rfl rfl d_He_closeFrom_91 h fun s hs h => ?_
  have hp0 : prs s 148 l1 := prs_kI (r := 148) (k := 10) (by decide) hs hp0
  exact ww_vretH (pc := 94) g h hR d_He_closeFrom_94

theorem ct_He_closeFrom {l : Launch} {P : PP} {q : PL} {s s' : S1} {l1 : Int32} {l2 : Int32} (hp0 : prs s 148 l1) {r : Unit} (h : M_He_closeFrom l1 l2 s = some (r, s')) : Ct l y_He_closeFrom b_He_closeFrom 6 none 0 0 P q s [.ref (q.1 111 0), .ref (q.1 148 l1), .int l2] none q s' := by
  refine ct_of (by decide) (Nat.le_of_ble_eq_true rfl) fun X ls eP el g hR hl => ?_
  subst eP
  have hR : Rt X q ((r, s') : Unit × S1).2 none := hR
  have hl : lv_has ls 6 [(0, .ref (q.1 111 0)), (1, .ref (q.1 148 l1)), (2, .int l2)] := hl
  generalize (r, s') = o at h hR
  unfold M_He_closeFrom at h
  refine ww_aload_n (pc := 0) g.1 d_He_closeFrom_0 rfl (lv_at hl 1 rfl) ?_
  refine ww_gI (pc := 1) g (k := 10) cl_Co hp0 (by decide) (Or.inl kw_743) (f := 18954) rfl rfl d_He_closeFrom_1 h fun v1 h => ?_
  refine ww_istore_n (pc := 4) (i := 3) g.1 (lv' := [(3, .int v1), (0, .ref (q.1 111 0)), (1, .ref (q.1 148 l1)), (2, .int l2)]) d_He_closeFrom_4 rfl hl (by decide) rfl fun ls hl => ?_
  refine ww_iconst (pc := 5) g.1 (v := 0) d_He_closeFrom_5 (by decide) ?_
  refine ww_istore (pc := 6) (i := 4) g.1 (lv' := [(4, .int 0), (3, .int v1), (0, .ref (q.1 111 0)), (1, .ref (q.1 148 l1)), (2, .int l2)]) d_He_closeFrom_6 hl (by decide) rfl fun ls hl => ?_
  obtain ⟨e8, s1, hw, h⟩ := oB_of h
  refine oW_rule (Wh := fun (x : Int32 × Int32 × Int32 × Int32) (s : S1) => ∀ ls : Array Slot, (prs s 148 x.1) → lv_has ls 6 [(0, .ref (q.1 111 0)), (1, .ref (q.1 148 x.1)), (2, .int x.2.1), (3, .int x.2.2.1), (4, .int x.2.2.2)] → WW X q s 8 ls []) (We := fun (e : (Int32 × Int32)) (s : S1) => ∀ ls : Array Slot, (prs s 148 e.1) → lv_has ls 6 [(1, .ref (q.1 148 e.1)), (3, .int e.2)] → WW X q s 89 ls []) (fun x s o hb hc => lp_He_closeFrom_L8 (q := q) g x s o hb hc) hw ?_ ls hp0 (lv_sub hl [2, 3, 4, 1, 0] rfl)
  clear hw hl
  clear ls
  generalize s1 = s at h ⊢
  intro ls hq8_0 hl
  exact j_He_closeFrom_j89 g hR e8.1 e8.2 s hq8_0 ls (lv_sub hl [0, 1] rfl) h

abbrev b_He_takeSlot : ByteArray := prog_6_method_4_code
def y_He_takeSlot : MethodName := ⟨R_He, "takeSlot", "()I"⟩
abbrev w_He_takeSlot : List Cond := .code y_He_takeSlot b_He_takeSlot 2 (some .int) :: wA
theorem k_He_takeSlot : Cond.code y_He_takeSlot b_He_takeSlot 2 (some .int) ∈ wA := kinm (show _ ∈ tables_1 from (List.mem_append_right _ (List.mem_append_right _ (List.mem_append_right _ (List.mem_append_right _ (List.mem_append_left _ (List.mem_of_getElem? (l := tables_1_5) (i := 166) (by decide +kernel)))))))) (by decide +kernel)
theorem d_He_takeSlot_0 : decode b_He_takeSlot 0 = .ok (.aload_n 0, 1) := by decide +kernel
theorem d_He_takeSlot_1 : decode b_He_takeSlot 1 = .ok (.getfield 50, 3) := by decide +kernel
theorem d_He_takeSlot_4 : decode b_He_takeSlot 4 = .ok (.ifCond .le 23, 3) := by decide +kernel
theorem d_He_takeSlot_7 : decode b_He_takeSlot 7 = .ok (.aload_n 0, 1) := by decide +kernel
theorem d_He_takeSlot_8 : decode b_He_takeSlot 8 = .ok (.dup, 1) := by decide +kernel
theorem d_He_takeSlot_9 : decode b_He_takeSlot 9 = .ok (.getfield 50, 3) := by decide +kernel
theorem d_He_takeSlot_12 : decode b_He_takeSlot 12 = .ok (.iconst 1, 1) := by decide +kernel
theorem d_He_takeSlot_13 : decode b_He_takeSlot 13 = .ok (.isub, 1) := by decide +kernel
theorem d_He_takeSlot_14 : decode b_He_takeSlot 14 = .ok (.putfield 50, 3) := by decide +kernel
theorem d_He_takeSlot_17 : decode b_He_takeSlot 17 = .ok (.aload_n 0, 1) := by decide +kernel
theorem d_He_takeSlot_18 : decode b_He_takeSlot 18 = .ok (.getfield 17, 3) := by decide +kernel
theorem d_He_takeSlot_21 : decode b_He_takeSlot 21 = .ok (.aload_n 0, 1) := by decide +kernel
theorem d_He_takeSlot_22 : decode b_He_takeSlot 22 = .ok (.getfield 50, 3) := by decide +kernel
theorem d_He_takeSlot_25 : decode b_He_takeSlot 25 = .ok (.iaload, 1) := by decide +kernel
theorem d_He_takeSlot_26 : decode b_He_takeSlot 26 = .ok (.ireturn, 1) := by decide +kernel
theorem d_He_takeSlot_27 : decode b_He_takeSlot 27 = .ok (.aload_n 0, 1) := by decide +kernel
theorem d_He_takeSlot_28 : decode b_He_takeSlot 28 = .ok (.getfield 47, 3) := by decide +kernel
theorem d_He_takeSlot_31 : decode b_He_takeSlot 31 = .ok (.istore_n 1, 1) := by decide +kernel
theorem d_He_takeSlot_32 : decode b_He_takeSlot 32 = .ok (.aload_n 0, 1) := by decide +kernel
theorem d_He_takeSlot_33 : decode b_He_takeSlot 33 = .ok (.dup, 1) := by decide +kernel
theorem d_He_takeSlot_34 : decode b_He_takeSlot 34 = .ok (.getfield 47, 3) := by decide +kernel
theorem d_He_takeSlot_37 : decode b_He_takeSlot 37 = .ok (.iconst 1, 1) := by decide +kernel
theorem d_He_takeSlot_38 : decode b_He_takeSlot 38 = .ok (.iadd, 1) := by decide +kernel
theorem d_He_takeSlot_39 : decode b_He_takeSlot 39 = .ok (.putfield 47, 3) := by decide +kernel
theorem d_He_takeSlot_42 : decode b_He_takeSlot 42 = .ok (.aload_n 0, 1) := by decide +kernel
theorem d_He_takeSlot_43 : decode b_He_takeSlot 43 = .ok (.getfield 11, 3) := by decide +kernel
theorem d_He_takeSlot_46 : decode b_He_takeSlot 46 = .ok (.iload_n 1, 1) := by decide +kernel
theorem d_He_takeSlot_47 : decode b_He_takeSlot 47 = .ok (.aaload, 1) := by decide +kernel
theorem d_He_takeSlot_48 : decode b_He_takeSlot 48 = .ok (.ifnonnull 16, 3) := by decide +kernel
theorem d_He_takeSlot_51 : decode b_He_takeSlot 51 = .ok (.aload_n 0, 1) := by decide +kernel
theorem d_He_takeSlot_52 : decode b_He_takeSlot 52 = .ok (.getfield 11, 3) := by decide +kernel
theorem d_He_takeSlot_55 : decode b_He_takeSlot 55 = .ok (.iload_n 1, 1) := by decide +kernel
theorem d_He_takeSlot_56 : decode b_He_takeSlot 56 = .ok (.new 9, 3) := by decide +kernel
theorem d_He_takeSlot_59 : decode b_He_takeSlot 59 = .ok (.dup, 1) := by decide +kernel
theorem d_He_takeSlot_60 : decode b_He_takeSlot 60 = .ok (.invokespecial 92, 3) := by decide +kernel
theorem d_He_takeSlot_63 : decode b_He_takeSlot 63 = .ok (.aastore, 1) := by decide +kernel
theorem d_He_takeSlot_64 : decode b_He_takeSlot 64 = .ok (.iload_n 1, 1) := by decide +kernel
theorem d_He_takeSlot_65 : decode b_He_takeSlot 65 = .ok (.ireturn, 1) := by decide +kernel
abbrev b_Tg_init : ByteArray := prog_12_method_1_code
def y_Tg_init : MethodName := ⟨R_Tg, "<init>", "()V"⟩
abbrev w_Tg_init : List Cond := .code y_Tg_init b_Tg_init 1 none :: wA
theorem k_Tg_init : Cond.code y_Tg_init b_Tg_init 1 none ∈ wA := kinm (show _ ∈ tables_1 from (List.mem_append_right _ (List.mem_append_right _ (List.mem_append_right _ (List.mem_append_right _ (List.mem_append_left _ (List.mem_of_getElem? (l := tables_1_5) (i := 170) (by decide +kernel)))))))) (by decide +kernel)
theorem d_Tg_init_0 : decode b_Tg_init 0 = .ok (.aload_n 0, 1) := by decide +kernel
theorem d_Tg_init_1 : decode b_Tg_init 1 = .ok (.invokespecial 1, 3) := by decide +kernel
theorem d_Tg_init_4 : decode b_Tg_init 4 = .ok (.return_, 1) := by decide +kernel
theorem kw_778 : Cond.methodLink R_Tg 1 objectInit ∈ wA := kinm (show _ ∈ tables_1 from (List.mem_append_right _ (List.mem_append_right _ (List.mem_append_right _ (List.mem_append_right _ (List.mem_append_left _ (List.mem_of_getElem? (l := tables_1_5) (i := 171) (by decide +kernel)))))))) (by decide +kernel)
theorem kw_779 : Cond.instanceMethod objectInit ∈ wA := kinm (show _ ∈ tables_1 from (List.mem_append_left _ (List.mem_of_getElem? (l := tables_1_1) (i := 41) (by decide +kernel)))) (by decide +kernel)
theorem kw_780 : Cond.code objectInit ⟨#[0xb1]⟩ 1 none ∈ wA := kinm (show _ ∈ tables_1 from (List.mem_append_left _ (List.mem_of_getElem? (l := tables_1_1) (i := 42) (by decide +kernel)))) (by decide +kernel)
theorem kw_781 : Cond.instanceMethod y_Tg_init ∈ wA := kinm (show _ ∈ tables_1 from (List.mem_append_right _ (List.mem_append_right _ (List.mem_append_right _ (List.mem_append_right _ (List.mem_append_left _ (List.mem_of_getElem? (l := tables_1_5) (i := 169) (by decide +kernel)))))))) (by decide +kernel)
theorem kw_782 : Cond.initialized R_Tg ∈ wA := kinm (show _ ∈ tables_1 from (List.mem_append_left _ (List.mem_of_getElem? (l := tables_1_1) (i := 32) (by decide +kernel)))) (by decide +kernel)
theorem ci_Tg_init : CIi y_Tg_init b_Tg_init 1 0 := ⟨rfl, kw_781, kw_782, k_Tg_init, by decide +kernel⟩
theorem ct0_Tg_init {l : Launch} : Ct0 l y_Tg_init b_Tg_init := ct0_ofi (by decide) d_Tg_init_0 d_Tg_init_1 d_Tg_init_4 kw_778 kw_779 kw_780
theorem nw_He_92 : Cond.methodLinkNest R_He 92 y_Tg_init "LuaMachine" ∈ xW := xinm (show _ ∈ tables_1 from (List.mem_append_right _ (List.mem_append_right _ (List.mem_append_right _ (List.mem_append_right _ (List.mem_append_left _ (List.mem_of_getElem? (l := tables_1_5) (i := 168) (by decide +kernel)))))))) (by decide +kernel)
theorem kw_784 : Cond.classLink R_He 9 R_Tg ∈ wA := kinm (show _ ∈ tables_1 from (List.mem_append_left _ (List.mem_of_getElem? (l := tables_1_1) (i := 129) (by decide +kernel)))) (by decide +kernel)
theorem kw_785 : Cond.instantiable R_Tg 16 ∈ wA := kinm (show _ ∈ tables_1 from (List.mem_append_right _ (List.mem_append_right _ (List.mem_append_right _ (List.mem_append_right _ (List.mem_append_left _ (List.mem_of_getElem? (l := tables_1_5) (i := 167) (by decide +kernel)))))))) (by decide +kernel)
theorem kw_786 : Cond.fieldLink R_He 17 "LuaMachine$Heap" "free" "[I" ∈ wA := kinm (show _ ∈ tables_1 from (List.mem_append_left _ (List.mem_of_getElem? (l := tables_1_1) (i := 140) (by decide +kernel)))) (by decide +kernel)
theorem kw_787 : Cond.instanceMethod y_He_takeSlot ∈ wA := kinm (show _ ∈ tables_1 from (List.mem_append_right _ (List.mem_append_right _ (List.mem_append_right _ (List.mem_append_right _ (List.mem_append_left _ (List.mem_of_getElem? (l := tables_1_5) (i := 165) (by decide +kernel)))))))) (by decide +kernel)
theorem kw_788 : Cond.selects R_He y_He_takeSlot y_He_takeSlot ∈ wA := kinp 24 (by decide +kernel) (by decide +kernel)
theorem cv_He_takeSlot : CV y_He_takeSlot b_He_takeSlot 2 (some .int) 0 := ⟨kw_787, kw_788, kw_712, k_He_takeSlot, by decide +kernel⟩
theorem ct_He_takeSlot {l : Launch} {P : PP} {q : PL} {s s' : S1} {n0 n1 : Nat × Nat}  {r : Int32} (hm : Rmq P q n0) (h : M_He_takeSlot n0 s = some ((r, n1), s')) : CtX l y_He_takeSlot b_He_takeSlot 2 (some .int) 2 32 P [] q s [.ref (q.1 111 0)] (fun _ => some (.int r)) n1 s' := by
  refine ctX_of (by decide) (Nat.le_of_ble_eq_true rfl) fun X ls eP el g hR hl => ?_
  subst eP
  obtain ⟨q0, hq0⟩ : ∃ q0 : PL, q0 = q := ⟨q, rfl⟩
  have hx0 : Exq (xP X) [] q0 q := hq0 ▸ Exq.rf
  rw [← hq0] at hR
  have hR : RtX X [] q0 (((r, n1), s') : (Int32 × (Nat × Nat)) × S1).1.2 (((r, n1), s') : (Int32 × (Nat × Nat)) × S1).2 (fun _ => some (.int (((r, n1), s') : (Int32 × (Nat × Nat)) × S1).1.1)) := hR
  have hl : lv_has ls 2 [(0, .ref (q.1 111 0))] := hl
  generalize ((r, n1), s') = o at h hR
  unfold M_He_takeSlot at h
  refine ww_aload_n (pc := 0) g.1 d_He_takeSlot_0 rfl (lv_at hl 0 rfl) ?_
  refine ww_gI (pc := 1) g (k := 3) cl_He (pz rfl (by decide)) (by decide) (Or.inl kw_703) (f := 14211) rfl rfl d_He_takeSlot_1 h fun v1 h => ?_
  refine ww_if_le (pc := 4) (tgt := 27) g.1 d_He_takeSlot_4 (by decide) h (fun c h => ?_) (fun c h => ?_)
  · refine ww_aload_n (pc := 27) g.1 d_He_takeSlot_27 rfl (lv_at hl 0 rfl) ?_
    refine ww_gI (pc := 28) g (k := 1) cl_He (pz rfl (by decide)) (by decide) (Or.inl kw_702) (f := 14209) rfl rfl d_He_takeSlot_28 h fun v28 h => ?_
    refine ww_istore_n (pc := 31) (i := 1) g.1 (lv' := [(1, .int v28), (0, .ref (q.1 111 0))]) d_He_takeSlot_31 rfl hl (by decide) rfl fun ls hl => ?_
    refine ww_aload_n (pc := 32) g.1 d_He_takeSlot_32 rfl (lv_at hl 1 rfl) ?_
    refine ww_dup (pc := 33) g.1 d_He_takeSlot_33 rfl ?_
    refine ww_gI (pc := 34) g (k := 1) cl_He (pz rfl (by decide)) (by decide) (Or.inl kw_702) (f := 14209) rfl rfl d_He_takeSlot_34 h fun v34 h => ?_
    refine ww_iconst (pc := 37) g.1 (v := 1) d_He_takeSlot_37 (by decide) ?_
    refine ww_iadd (pc := 38) g.1 d_He_takeSlot_38 ?_
    refine ww_pI (pc := 39) g (k := 1) cl_He (pz rfl (by decide)) (by decide) (Or.inl kw_702) rfl (f := 14209) rfl rfl rfl rfl d_He_takeSlot_39 h fun s hs h => ?_
    refine ww_aload_n (pc := 42) g.1 d_He_takeSlot_42 rfl (lv_at hl 1 rfl) ?_
    refine ww_gR (pc := 43) g (k := 0) cl_He (pz rfl (by decide)) (by decide) (Or.inl kw_725) (f := 14208) (t := 112) rfl rfl rfl d_He_takeSlot_43 ?_
    refine ww_iload_n (pc := 46) g.1 d_He_takeSlot_46 rfl (lv_at hl 0 rfl) ?_
    refine ww_a8N (pc := 47) g (t := 145) (n := 4000) (pz rfl (by decide)) rfl rfl rfl d_He_takeSlot_47 h fun v47 h => ?_
    refine ww_ifnonnullV (pc := 48) (tgt := 64) g.1 d_He_takeSlot_48 (by decide) h (fun c h => ?_) (fun c h => ?_)
    · refine ww_iload_n (pc := 64) g.1 d_He_takeSlot_64 rfl (lv_at hl 0 rfl) ?_
      exact ww_iretX (pc := 65) g h hR hx0 hm d_He_takeSlot_65
    · refine ww_aload_n (pc := 51) g.1 d_He_takeSlot_51 rfl (lv_at hl 1 rfl) ?_
      refine ww_gR (pc := 52) g (k := 0) cl_He (pz rfl (by decide)) (by decide) (Or.inl kw_725) (f := 14208) (t := 112) rfl rfl rfl d_He_takeSlot_52 ?_
      refine ww_iload_n (pc := 55) g.1 d_He_takeSlot_55 rfl (lv_at hl 0 rfl) ?_
      refine ww_ok h fun cn56 h => ?_
      refine ww_ks h fun cg56 h => ?_
      refine ww_lo fun dlo => ?_
      refine ww_nwO (ra := 112) (ia := 0) (j := v28) (jj := v28) (t := 145) (N := 4000) (L := []) (pc := 56) g (pz rfl (by decide)) (Or.inl ⟨rfl, rfl⟩) rfl rfl rfl (by decide) (in32 rfl cn56) cl_Tg dv_Tg (h5_Tg cg56.2) (by decide) (in32 rfl cn56) rfTg ⟨cg56.1, rfl⟩ kw_784 kw_785 kw_782 ci_Tg_init (Or.inr ⟨_, nw_He_92⟩) ct0_Tg_init ⟨by decide, by decide⟩ hl.1 (Nat.le_of_ble_eq_true rfl) hm d_He_takeSlot_56 d_He_takeSlot_59 d_He_takeSlot_60 d_He_takeSlot_63 h (fun _ => rfl) fun q56 m56 s hs hE hm pm56 h => ?_
      have hl : lv_has ls 2 [(1, .int v28)] := lv_sub hl [0] rfl
      refine ww_st (st' := []) (by rfl) ?_
      have hx0 : Exq (xP X) [] _ q56 := hx0.tr (hE.sub (by decide))
      refine ww_iload_n (pc := 64) g.1 d_He_takeSlot_64 rfl (lv_at hl 0 rfl) ?_
      exact ww_iretX (pc := 65) g h hR hx0 hm d_He_takeSlot_65
  · refine ww_aload_n (pc := 7) g.1 d_He_takeSlot_7 rfl (lv_at hl 0 rfl) ?_
    refine ww_dup (pc := 8) g.1 d_He_takeSlot_8 rfl ?_
    refine ww_gI (pc := 9) g (k := 3) cl_He (pz rfl (by decide)) (by decide) (Or.inl kw_703) (f := 14211) rfl rfl d_He_takeSlot_9 h fun v9 h => ?_
    refine ww_iconst (pc := 12) g.1 (v := 1) d_He_takeSlot_12 (by decide) ?_
    refine ww_isub (pc := 13) g.1 d_He_takeSlot_13 ?_
    refine ww_pI (pc := 14) g (k := 3) cl_He (pz rfl (by decide)) (by decide) (Or.inl kw_703) rfl (f := 14211) rfl rfl rfl rfl d_He_takeSlot_14 h fun s hs h => ?_
    refine ww_aload_n (pc := 17) g.1 d_He_takeSlot_17 rfl (lv_at hl 0 rfl) ?_
    refine ww_gR (pc := 18) g (k := 2) cl_He (pz rfl (by decide)) (by decide) (Or.inl kw_786) (f := 14210) (t := 113) rfl rfl rfl d_He_takeSlot_18 ?_
    refine ww_aload_n (pc := 21) g.1 d_He_takeSlot_21 rfl (lv_at hl 0 rfl) ?_
    refine ww_gI (pc := 22) g (k := 3) cl_He (pz rfl (by decide)) (by decide) (Or.inl kw_703) (f := 14211) rfl rfl d_He_takeSlot_22 h fun v22 h => ?_
    refine ww_ai (pc := 25) g (pz rfl (by decide)) rfl rfl d_He_takeSlot_25 h fun v25 h => ?_
    exact ww_iretX (pc := 26) g h hR hx0 hm d_He_takeSlot_26

abbrev b_He_isSame : ByteArray := prog_6_method_11_code
def y_He_isSame : MethodName := ⟨R_He, "isSame", "([B[BII)Z"⟩
abbrev w_He_isSame : List Cond := .code y_He_isSame b_He_isSame 5 (some .boolean) :: wA
theorem k_He_isSame : Cond.code y_He_isSame b_He_isSame 5 (some .boolean) ∈ wA := kinm (show _ ∈ tables_1 from (List.mem_append_right _ (List.mem_append_right _ (List.mem_append_right _ (List.mem_append_right _ (List.mem_append_right _ (List.mem_append_left _ (List.mem_of_getElem? (l := tables_1_6) (i := 15) (by decide +kernel))))))))) (by decide +kernel)
theorem d_He_isSame_0 : decode b_He_isSame 0 = .ok (.aload_n 0, 1) := by decide +kernel
theorem d_He_isSame_1 : decode b_He_isSame 1 = .ok (.arraylength, 1) := by decide +kernel
theorem d_He_isSame_2 : decode b_He_isSame 2 = .ok (.iload_n 3, 1) := by decide +kernel
theorem d_He_isSame_3 : decode b_He_isSame 3 = .ok (.if_icmp .eq 5, 3) := by decide +kernel
theorem d_He_isSame_6 : decode b_He_isSame 6 = .ok (.iconst 0, 1) := by decide +kernel
theorem d_He_isSame_7 : decode b_He_isSame 7 = .ok (.ireturn, 1) := by decide +kernel
theorem d_He_isSame_8 : decode b_He_isSame 8 = .ok (.iconst 0, 1) := by decide +kernel
theorem d_He_isSame_9 : decode b_He_isSame 9 = .ok (.istore 4, 2) := by decide +kernel
theorem d_He_isSame_11 : decode b_He_isSame 11 = .ok (.iload 4, 2) := by decide +kernel
theorem d_He_isSame_13 : decode b_He_isSame 13 = .ok (.iload_n 3, 1) := by decide +kernel
theorem d_He_isSame_14 : decode b_He_isSame 14 = .ok (.if_icmp .ge 24, 3) := by decide +kernel
theorem d_He_isSame_17 : decode b_He_isSame 17 = .ok (.aload_n 0, 1) := by decide +kernel
theorem d_He_isSame_18 : decode b_He_isSame 18 = .ok (.iload 4, 2) := by decide +kernel
theorem d_He_isSame_20 : decode b_He_isSame 20 = .ok (.baload, 1) := by decide +kernel
theorem d_He_isSame_21 : decode b_He_isSame 21 = .ok (.aload_n 1, 1) := by decide +kernel
theorem d_He_isSame_22 : decode b_He_isSame 22 = .ok (.iload_n 2, 1) := by decide +kernel
theorem d_He_isSame_23 : decode b_He_isSame 23 = .ok (.iload 4, 2) := by decide +kernel
theorem d_He_isSame_25 : decode b_He_isSame 25 = .ok (.iadd, 1) := by decide +kernel
theorem d_He_isSame_26 : decode b_He_isSame 26 = .ok (.baload, 1) := by decide +kernel
theorem d_He_isSame_27 : decode b_He_isSame 27 = .ok (.if_icmp .eq 5, 3) := by decide +kernel
theorem d_He_isSame_30 : decode b_He_isSame 30 = .ok (.iconst 0, 1) := by decide +kernel
theorem d_He_isSame_31 : decode b_He_isSame 31 = .ok (.ireturn, 1) := by decide +kernel
theorem d_He_isSame_32 : decode b_He_isSame 32 = .ok (.iinc 4 1, 3) := by decide +kernel
theorem d_He_isSame_35 : decode b_He_isSame 35 = .ok (.goto (-24), 3) := by decide +kernel
theorem d_He_isSame_38 : decode b_He_isSame 38 = .ok (.iconst 1, 1) := by decide +kernel
theorem d_He_isSame_39 : decode b_He_isSame 39 = .ok (.ireturn, 1) := by decide +kernel
theorem kw_789 : Cond.static y_He_isSame ∈ wA := kinm (show _ ∈ tables_1 from (List.mem_append_right _ (List.mem_append_right _ (List.mem_append_right _ (List.mem_append_right _ (List.mem_append_right _ (List.mem_append_left _ (List.mem_of_getElem? (l := tables_1_6) (i := 14) (by decide +kernel))))))))) (by decide +kernel)
theorem cs_He_isSame : CS y_He_isSame b_He_isSame 5 (some .boolean) 4 := ⟨kw_789, kw_712, k_He_isSame, by decide +kernel⟩
theorem lp_He_isSame_L11 {X : Cx} {q : PL} (g : Gd X y_He_isSame b_He_isSame 5 (some .boolean) 0 0 R_He) (x : Int32 × Nat × Int32 × Int32 × Int32 × Int32) (s : S1) (o : ((Int32 × Nat × Int32 × Int32 × Int32 × Int32) ⊕ ((Unit) ⊕ (Unit))) × S1) (h : M_He_isSame_L11 x s = some o) (hR : (Sum.elim (fun y : Int32 × Nat × Int32 × Int32 × Int32 × Int32 => ∀ ls : Array Slot, (prs o.2 146 y.1) → (rkF y.2.1 = 2) → (y.2.1 ≠ 154) → (prs o.2 y.2.1 y.2.2.1) → lv_has ls 5 [(0, .ref (q.1 146 y.1)), (1, .ref (q.1 y.2.1 y.2.2.1)), (2, .int y.2.2.2.1), (3, .int y.2.2.2.2.1), (4, .int y.2.2.2.2.2)] → WW X q o.2 11 ls []) (Sum.elim (fun y : Unit => ∀ ls : Array Slot, lv_has ls 5 [] → WW X q o.2 30 ls []) (fun y : Unit => ∀ ls : Array Slot, lv_has ls 5 [] → WW X q o.2 38 ls [])) o.1)) : ∀ ls : Array Slot, (prs s 146 x.1) → (rkF x.2.1 = 2) → (x.2.1 ≠ 154) → (prs s x.2.1 x.2.2.1) → lv_has ls 5 [(0, .ref (q.1 146 x.1)), (1, .ref (q.1 x.2.1 x.2.2.1)), (2, .int x.2.2.2.1), (3, .int x.2.2.2.2.1), (4, .int x.2.2.2.2.2)] → WW X q s 11 ls [] := by
  intro ls hp0 hp1 hp2 hp3 hl
  unfold M_He_isSame_L11 at h
  refine ww_iload (pc := 11) g.1 d_He_isSame_11 (lv_at hl 4 rfl) ?_
  refine ww_iload_n (pc := 13) g.1 d_He_isSame_13 rfl (lv_at hl 3 rfl) ?_
  refine ww_icmp_ge (pc := 14) (tgt := 38) g.1 d_He_isSame_14 (by decide) h (fun c h => ?_) (fun c h => ?_)
  · rw [oR_eq h] at hR
    exact hR ls (lv_sub hl [] rfl)
  · refine ww_aload_n (pc := 17) g.1 d_He_isSame_17 rfl (lv_at hl 0 rfl) ?_
    refine ww_iload (pc := 18) g.1 d_He_isSame_18 (lv_at hl 4 rfl) ?_
    refine ww_ln hp0 h fun n20 hmn20 hnn20 h => ?_
    refine ww_ab (pc := 20) g hp0 rfl hnn20 d_He_isSame_20 h fun v20 h => ?_
    refine ww_aload_n (pc := 21) g.1 d_He_isSame_21 rfl (lv_at hl 1 rfl) ?_
    refine ww_iload_n (pc := 22) g.1 d_He_isSame_22 rfl (lv_at hl 2 rfl) ?_
    refine ww_iload (pc := 23) g.1 d_He_isSame_23 (lv_at hl 4 rfl) ?_
    refine ww_iadd (pc := 25) g.1 d_He_isSame_25 ?_
    refine ww_ln hp3 h fun n26 hmn26 hnn26 h => ?_
    refine ww_ab (pc := 26) g hp3 hp1 hnn26 d_He_isSame_26 h fun v26 h => ?_
    refine ww_icmp_eq (pc := 27) (tgt := 32) g.1 d_He_isSame_27 (by decide) h (fun c h => ?_) (fun c h => ?_)
    · refine ww_iinc (pc := 32) g.1 (v := x.2.2.2.2.2 + 1) (lv' := [(4, .int (x.2.2.2.2.2 + 1)), (0, .ref (q.1 146 x.1)), (1, .ref (q.1 x.2.1 x.2.2.1)), (2, .int x.2.2.2.1), (3, .int x.2.2.2.2.1)]) d_He_isSame_32 hl (k := 4) rfl (by rfl) (by decide) rfl fun ls hl => ?_
      refine ww_goto (pc := 35) (tgt := 11) g.1 d_He_isSame_35 (by decide) ?_
      rw [oR_eq h] at hR
      exact hR ls hp0 hp1 hp2 hp3 (lv_sub hl [1, 2, 3, 4, 0] rfl)
    · rw [oR_eq h] at hR
      exact hR ls (lv_sub hl [] rfl)

theorem ct_He_isSame {l : Launch} {P : PP} {q : PL} {s s' : S1} {l0 : Int32} {l1r : Nat} {l1 : Int32} {l2 : Int32} {l3 : Int32} (hp0 : prs s 146 l0) (hp1 : rkF l1r = 2) (hp2 : l1r ≠ 154) (hp3 : prs s l1r l1) {r : Int32} (h : M_He_isSame l0 l1r l1 l2 l3 s = some (r, s')) : Ct l y_He_isSame b_He_isSame 5 (some .boolean) 0 0 P q s [.ref (q.1 146 l0), .ref (q.1 l1r l1), .int l2, .int l3] (some (.int r)) q s' := by
  refine ct_of (by decide) (Nat.le_of_ble_eq_true rfl) fun X ls eP el g hR hl => ?_
  subst eP
  have hR : Rt X q ((r, s') : Int32 × S1).2 (some (.int ((r, s') : Int32 × S1).1)) := hR
  have hl : lv_has ls 5 [(0, .ref (q.1 146 l0)), (1, .ref (q.1 l1r l1)), (2, .int l2), (3, .int l3)] := hl
  generalize (r, s') = o at h hR
  unfold M_He_isSame at h
  refine ww_aload_n (pc := 0) g.1 d_He_isSame_0 rfl (lv_at hl 0 rfl) ?_
  refine ww_ln hp0 h fun n1 hmn1 hnn1 h => ?_
  refine ww_alen (pc := 1) g (n := n1) hp0 (by decide) hmn1 d_He_isSame_1 ?_
  refine ww_iload_n (pc := 2) g.1 d_He_isSame_2 rfl (lv_at hl 3 rfl) ?_
  refine ww_icmp_eq (pc := 3) (tgt := 8) g.1 d_He_isSame_3 (by decide) h (fun c h => ?_) (fun c h => ?_)
  · refine ww_iconst (pc := 8) g.1 (v := 0) d_He_isSame_8 (by decide) ?_
    refine ww_istore (pc := 9) (i := 4) g.1 (lv' := [(4, .int 0), (0, .ref (q.1 146 l0)), (1, .ref (q.1 l1r l1)), (2, .int l2), (3, .int l3)]) d_He_isSame_9 hl (by decide) rfl fun ls hl => ?_
    obtain ⟨e11, s1, hw, h⟩ := oB_of h
    refine oW_rule (Wh := fun (x : Int32 × Nat × Int32 × Int32 × Int32 × Int32) (s : S1) => ∀ ls : Array Slot, (prs s 146 x.1) → (rkF x.2.1 = 2) → (x.2.1 ≠ 154) → (prs s x.2.1 x.2.2.1) → lv_has ls 5 [(0, .ref (q.1 146 x.1)), (1, .ref (q.1 x.2.1 x.2.2.1)), (2, .int x.2.2.2.1), (3, .int x.2.2.2.2.1), (4, .int x.2.2.2.2.2)] → WW X q s 11 ls []) (We := fun (e : (Unit) ⊕ (Unit)) (s : S1) => (Sum.elim (fun y : Unit => ∀ ls : Array Slot, lv_has ls 5 [] → WW X q s 30 ls []) (fun y : Unit => ∀ ls : Array Slot, lv_has ls 5 [] → WW X q s 38 ls [])) e) (fun x s o hb hc => lp_He_isSame_L11 (q := q) g x s o hb hc) hw ?_ ls hp0 hp1 hp2 hp3 (lv_sub hl [1, 2, 3, 4, 0] rfl)
    clear hw hl
    clear ls
    generalize s1 = s at h ⊢
    rcases e11 with y11_30 | y11_38
    · intro ls hl
      dsimp only [Sum.elim_inl, Sum.elim_inr] at h
      refine ww_iconst (pc := 30) g.1 (v := 0) d_He_isSame_30 (by decide) ?_
      exact ww_zretH (pc := 31) g h hR (Or.inl rfl) d_He_isSame_31
    · intro ls hl
      dsimp only [Sum.elim_inl, Sum.elim_inr] at h
      refine ww_iconst (pc := 38) g.1 (v := 1) d_He_isSame_38 (by decide) ?_
      exact ww_zretH (pc := 39) g h hR (Or.inr rfl) d_He_isSame_39
  · refine ww_iconst (pc := 6) g.1 (v := 0) d_He_isSame_6 (by decide) ?_
    exact ww_zretH (pc := 7) g h hR (Or.inl rfl) d_He_isSame_7

abbrev b_Ta_spread : ByteArray := prog_11_method_4_code
def y_Ta_spread : MethodName := ⟨R_Ta, "spread", "(IJI)I"⟩
abbrev w_Ta_spread : List Cond := .code y_Ta_spread b_Ta_spread 4 (some .int) :: wA
theorem k_Ta_spread : Cond.code y_Ta_spread b_Ta_spread 4 (some .int) ∈ wA := kinm (show _ ∈ tables_1 from (List.mem_append_right _ (List.mem_append_right _ (List.mem_append_right _ (List.mem_append_right _ (List.mem_append_right _ (List.mem_append_left _ (List.mem_of_getElem? (l := tables_1_6) (i := 43) (by decide +kernel))))))))) (by decide +kernel)
theorem d_Ta_spread_0 : decode b_Ta_spread 0 = .ok (.lload_n 1, 1) := by decide +kernel
theorem d_Ta_spread_1 : decode b_Ta_spread 1 = .ok (.ldc2_w 71, 3) := by decide +kernel
theorem d_Ta_spread_4 : decode b_Ta_spread 4 = .ok (.lmul, 1) := by decide +kernel
theorem d_Ta_spread_5 : decode b_Ta_spread 5 = .ok (.iload_n 0, 1) := by decide +kernel
theorem d_Ta_spread_6 : decode b_Ta_spread 6 = .ok (.i2l, 1) := by decide +kernel
theorem d_Ta_spread_7 : decode b_Ta_spread 7 = .ok (.ladd, 1) := by decide +kernel
theorem d_Ta_spread_8 : decode b_Ta_spread 8 = .ok (.ldc2_w 73, 3) := by decide +kernel
theorem d_Ta_spread_11 : decode b_Ta_spread 11 = .ok (.lmul, 1) := by decide +kernel
theorem d_Ta_spread_12 : decode b_Ta_spread 12 = .ok (.bipush 40, 2) := by decide +kernel
theorem d_Ta_spread_14 : decode b_Ta_spread 14 = .ok (.lushr, 1) := by decide +kernel
theorem d_Ta_spread_15 : decode b_Ta_spread 15 = .ok (.l2i, 1) := by decide +kernel
theorem d_Ta_spread_16 : decode b_Ta_spread 16 = .ok (.iload_n 3, 1) := by decide +kernel
theorem d_Ta_spread_17 : decode b_Ta_spread 17 = .ok (.iconst 1, 1) := by decide +kernel
theorem d_Ta_spread_18 : decode b_Ta_spread 18 = .ok (.isub, 1) := by decide +kernel
theorem d_Ta_spread_19 : decode b_Ta_spread 19 = .ok (.iand, 1) := by decide +kernel
theorem d_Ta_spread_20 : decode b_Ta_spread 20 = .ok (.ireturn, 1) := by decide +kernel
theorem kw_790 : Cond.constantLong R_Ta 71 8 ∈ wA := kinm (show _ ∈ tables_1 from (List.mem_append_right _ (List.mem_append_right _ (List.mem_append_right _ (List.mem_append_right _ (List.mem_append_right _ (List.mem_append_left _ (List.mem_of_getElem? (l := tables_1_6) (i := 44) (by decide +kernel))))))))) (by decide +kernel)
theorem kw_791 : Cond.constantLong R_Ta 73 (-7046029254386353131) ∈ wA := kinm (show _ ∈ tables_1 from (List.mem_append_right _ (List.mem_append_right _ (List.mem_append_right _ (List.mem_append_right _ (List.mem_append_right _ (List.mem_append_left _ (List.mem_of_getElem? (l := tables_1_6) (i := 45) (by decide +kernel))))))))) (by decide +kernel)
theorem kw_792 : Cond.static y_Ta_spread ∈ wA := kinm (show _ ∈ tables_1 from (List.mem_append_right _ (List.mem_append_right _ (List.mem_append_right _ (List.mem_append_right _ (List.mem_append_right _ (List.mem_append_left _ (List.mem_of_getElem? (l := tables_1_6) (i := 42) (by decide +kernel))))))))) (by decide +kernel)
theorem cs_Ta_spread : CS y_Ta_spread b_Ta_spread 4 (some .int) 3 := ⟨kw_792, kw_717, k_Ta_spread, by decide +kernel⟩
theorem ct_Ta_spread {l : Launch} {P : PP} {q : PL} {s s' : S1} {l0 : Int32} {l1 : Int64} {l3 : Int32} {r : Int32} (h : M_Ta_spread l0 l1 l3 s = some (r, s')) : Ct l y_Ta_spread b_Ta_spread 4 (some .int) 0 0 P q s [.int l0, .long l1, .int l3] (some (.int r)) q s' := by
  refine ct_of (by decide) (Nat.le_of_ble_eq_true rfl) fun X ls eP el g hR hl => ?_
  subst eP
  have hR : Rt X q ((r, s') : Int32 × S1).2 (some (.int ((r, s') : Int32 × S1).1)) := hR
  have hl : lv_has ls 4 [(0, .int l0), (1, .long l1), (3, .int l3)] := hl
  generalize (r, s') = o at h hR
  unfold M_Ta_spread at h
  refine ww_lload_n (pc := 0) g.1 d_Ta_spread_0 rfl (lv_at hl 1 rfl) ?_
  refine ww_ldc2 (pc := 1) g (v := 8) kw_790 d_Ta_spread_1 ?_
  refine ww_lmul (pc := 4) g.1 d_Ta_spread_4 ?_
  refine ww_iload_n (pc := 5) g.1 d_Ta_spread_5 rfl (lv_at hl 0 rfl) ?_
  refine ww_i2l (pc := 6) g.1 (v := l0.toInt64) d_Ta_spread_6 rfl ?_
  refine ww_ladd (pc := 7) g.1 d_Ta_spread_7 ?_
  refine ww_ldc2 (pc := 8) g (v := (-7046029254386353131)) kw_791 d_Ta_spread_8 ?_
  refine ww_lmul (pc := 11) g.1 d_Ta_spread_11 ?_
  refine ww_bipush (pc := 12) g.1 (v := 40) d_Ta_spread_12 (by decide) ?_
  refine ww_lushr (pc := 14) g.1 (v := lushr (((l1 * 8) + l0.toInt64) * (-7046029254386353131)) (40 : Int32)) d_Ta_spread_14 rfl ?_
  refine ww_l2i (pc := 15) g.1 (v := (lushr (((l1 * 8) + l0.toInt64) * (-7046029254386353131)) (40 : Int32)).toInt32) d_Ta_spread_15 rfl ?_
  refine ww_iload_n (pc := 16) g.1 d_Ta_spread_16 rfl (lv_at hl 2 rfl) ?_
  refine ww_iconst (pc := 17) g.1 (v := 1) d_Ta_spread_17 (by decide) ?_
  refine ww_isub (pc := 18) g.1 d_Ta_spread_18 ?_
  refine ww_iand (pc := 19) g.1 d_Ta_spread_19 ?_
  exact ww_iretH (pc := 20) g h hR d_Ta_spread_20


