abbrev b_Arr_copyOfRange : ByteArray := prog_34_method_132_code
def y_Arr_copyOfRange : MethodName := ⟨R_Arr, "copyOfRange", "([BII)[B"⟩
abbrev w_Arr_copyOfRange : List Cond := .code y_Arr_copyOfRange b_Arr_copyOfRange 3 (some (.array .byte)) :: wA
theorem k_Arr_copyOfRange : Cond.code y_Arr_copyOfRange b_Arr_copyOfRange 3 (some (.array .byte)) ∈ wA := kinm (show _ ∈ tables_1 from (List.mem_append_right _ (List.mem_append_right _ (List.mem_append_right _ (List.mem_append_right _ (List.mem_append_left _ (List.mem_of_getElem? (l := tables_1_5) (i := 38) (by decide +kernel)))))))) (by decide +kernel)
theorem d_Arr_copyOfRange_0 : decode b_Arr_copyOfRange 0 = .ok (.iload_n 1, 1) := by decide +kernel
theorem d_Arr_copyOfRange_1 : decode b_Arr_copyOfRange 1 = .ok (.ifCond .ne 9, 3) := by decide +kernel
theorem d_Arr_copyOfRange_4 : decode b_Arr_copyOfRange 4 = .ok (.iload_n 2, 1) := by decide +kernel
theorem d_Arr_copyOfRange_5 : decode b_Arr_copyOfRange 5 = .ok (.aload_n 0, 1) := by decide +kernel
theorem d_Arr_copyOfRange_6 : decode b_Arr_copyOfRange 6 = .ok (.arraylength, 1) := by decide +kernel
theorem d_Arr_copyOfRange_7 : decode b_Arr_copyOfRange 7 = .ok (.if_icmp .eq 10, 3) := by decide +kernel
theorem d_Arr_copyOfRange_10 : decode b_Arr_copyOfRange 10 = .ok (.aload_n 0, 1) := by decide +kernel
theorem d_Arr_copyOfRange_11 : decode b_Arr_copyOfRange 11 = .ok (.iload_n 1, 1) := by decide +kernel
theorem d_Arr_copyOfRange_12 : decode b_Arr_copyOfRange 12 = .ok (.iload_n 2, 1) := by decide +kernel
theorem d_Arr_copyOfRange_13 : decode b_Arr_copyOfRange 13 = .ok (.invokestatic 339, 3) := by decide +kernel
theorem d_Arr_copyOfRange_16 : decode b_Arr_copyOfRange 16 = .ok (.areturn, 1) := by decide +kernel
theorem d_Arr_copyOfRange_17 : decode b_Arr_copyOfRange 17 = .ok (.aload_n 0, 1) := by decide +kernel
theorem d_Arr_copyOfRange_18 : decode b_Arr_copyOfRange 18 = .ok (.invokevirtual 310, 3) := by decide +kernel
theorem d_Arr_copyOfRange_21 : decode b_Arr_copyOfRange 21 = .ok (.checkcast 311, 3) := by decide +kernel
theorem d_Arr_copyOfRange_24 : decode b_Arr_copyOfRange 24 = .ok (.areturn, 1) := by decide +kernel
theorem kw_1491 : Cond.methodLink R_Arr 339 y_Arr_copyOfRangeByte ∈ wA := kinm (show _ ∈ tables_1 from (List.mem_append_right _ (List.mem_append_right _ (List.mem_append_right _ (List.mem_append_right _ (List.mem_append_left _ (List.mem_of_getElem? (l := tables_1_5) (i := 39) (by decide +kernel)))))))) (by decide +kernel)
theorem kw_1492 : Cond.static y_Arr_copyOfRange ∈ wA := kinm (show _ ∈ tables_1 from (List.mem_append_right _ (List.mem_append_right _ (List.mem_append_right _ (List.mem_append_right _ (List.mem_append_left _ (List.mem_of_getElem? (l := tables_1_5) (i := 37) (by decide +kernel)))))))) (by decide +kernel)
theorem cs_Arr_copyOfRange : CS y_Arr_copyOfRange b_Arr_copyOfRange 3 (some (.array .byte)) 3 := ⟨kw_1492, kw_3, k_Arr_copyOfRange, by decide +kernel⟩
theorem j_Arr_copyOfRange_j10 {X : Cx} {q0 q : PL} (g : Gd X y_Arr_copyOfRange b_Arr_copyOfRange 3 (some (.array .byte)) 2 50 R_Arr) {o : (Int32 × (Nat × Nat)) × S1} (hR : RtX X [154] q0 o.1.2 o.2 (fun q => some (.ref (q.1 154 o.1.1)))) (hx0 : Exq (xP X) [154] q0 q) (l0r : Nat) (l0 : Int32) (l1 : Int32) (l2 : Int32) (ln : Nat × Nat) (hm : Rmq (xP X) q ln) (s : S1) (hp0 : rkF l0r = 2) (hp1 : l0r ≠ 154) (hp2 : prs s l0r l0) (ls : Array Slot) (hl : lv_has ls 3 [(0, .ref (q.1 l0r l0)), (1, .int l1), (2, .int l2)]) (h : M_Arr_copyOfRange_j10 l0r l0 l1 l2 ln s = some o) : WW X q s 10 ls [] := by
  unfold M_Arr_copyOfRange_j10 at h
  refine ww_aload_n (pc := 10) g.1 d_Arr_copyOfRange_10 rfl (lv_at hl 0 rfl) ?_
  refine ww_iload_n (pc := 11) g.1 d_Arr_copyOfRange_11 rfl (lv_at hl 1 rfl) ?_
  refine ww_iload_n (pc := 12) g.1 d_Arr_copyOfRange_12 rfl (lv_at hl 2 rfl) ?_
  refine ww_lo fun dlo => ?_
  obtain ⟨v13, s, hc13, h⟩ := oB_of h
  refine ww_callSX (pc := 13) (rest := []) g cs_Arr_copyOfRangeByte (Or.inl kw_1491) (ct_Arr_copyOfRangeByte hp0 hp1 hp2 hm hc13) ⟨by decide, by decide⟩ rfl hl.1 (Nat.le_of_ble_eq_true rfl) d_Arr_copyOfRange_13 rfl (fun q13 hE hm => ?_)
  refine ww_st (st' := .ref (q13.1 154 v13.1) :: []) rfl ?_
  have hl : lv_has ls 3 [(1, .int l1), (2, .int l2)] := lv_sub hl [1, 2] rfl
  refine ww_st (st' := [.ref (q13.1 154 v13.1)]) (by rfl) ?_
  have hx0 : Exq (xP X) [154] _ q13 := hx0.tr (hE.sub (by decide))
  refine ww_ok h fun cz13 h => ?_
  refine ww_pr h fun pr13 h => ?_
  refine ww_st (st' := [.ref (q13.1 154 0)]) (by rw [cz13]) ?_
  exact ww_aretX (pc := 16) g rfl (by first | exact Or.inl ⟨_, rfl⟩ | exact Or.inr ⟨_, rfl⟩) h hR hx0 hm d_Arr_copyOfRange_16

theorem ct_Arr_copyOfRange {l : Launch} {P : PP} {q : PL} {s s' : S1} {n0 n1 : Nat × Nat} {l0r : Nat} {l0 : Int32} {l1 : Int32} {l2 : Int32} (hp0 : rkF l0r = 2) (hp1 : l0r ≠ 154) (hp2 : prs s l0r l0) {r : Int32} (hm : Rmq P q n0) (h : M_Arr_copyOfRange n0 l0r l0 l1 l2 s = some ((r, n1), s')) : CtX l y_Arr_copyOfRange b_Arr_copyOfRange 3 (some (.array .byte)) 2 50 P [154] q s [.ref (q.1 l0r l0), .int l1, .int l2] (fun q => some (.ref (q.1 154 r))) n1 s' := by
  refine ctX_ofF (by decide +kernel) (Nat.le_of_ble_eq_true rfl) fun X ls eP el g hR hl => ?_
  subst eP
  obtain ⟨q0, hq0⟩ : ∃ q0 : PL, q0 = q := ⟨q, rfl⟩
  have hx0 : Exq (xP X) [154] q0 q := hq0 ▸ Exq.rf
  rw [← hq0] at hR
  have hR : RtX X [154] q0 (((r, n1), s') : (Int32 × (Nat × Nat)) × S1).1.2 (((r, n1), s') : (Int32 × (Nat × Nat)) × S1).2 (fun q => some (.ref (q.1 154 (((r, n1), s') : (Int32 × (Nat × Nat)) × S1).1.1))) := hR
  have hl : lv_has ls 3 [(0, .ref (q.1 l0r l0)), (1, .int l1), (2, .int l2)] := hl
  generalize ((r, n1), s') = o at h hR
  unfold M_Arr_copyOfRange at h
  refine ww_iload_n (pc := 0) g.1 d_Arr_copyOfRange_0 rfl (lv_at hl 1 rfl) ?_
  refine ww_if_ne (pc := 1) (tgt := 10) g.1 d_Arr_copyOfRange_1 (by decide) h (fun c h => ?_) (fun c h => ?_)
  · exact j_Arr_copyOfRange_j10 g hR hx0 l0r l0 l1 l2 n0 hm s hp0 hp1 hp2 ls (lv_sub hl [0, 1, 2] rfl) h
  · refine ww_iload_n (pc := 4) g.1 d_Arr_copyOfRange_4 rfl (lv_at hl 2 rfl) ?_
    refine ww_aload_n (pc := 5) g.1 d_Arr_copyOfRange_5 rfl (lv_at hl 0 rfl) ?_
    refine ww_ln hp2 h fun n6 hmn6 hnn6 h => ?_
    refine ww_alen (pc := 6) g (n := n6) hp2 (by rw [hp0]; decide) hmn6 d_Arr_copyOfRange_6 ?_
    refine ww_icmp_eq (pc := 7) (tgt := 17) g.1 d_Arr_copyOfRange_7 (by decide) h (fun c h => ?_) (fun c h => ?_)
    · refine ww_aload_n (pc := 17) g.1 d_Arr_copyOfRange_17 rfl (lv_at hl 0 rfl) ?_
      refine ww_ln hp2 h fun n18 hmn18 hnn18 h => ?_
      refine ww_lo fun dlo => ?_
      refine ww_clone (pc := 18) (L := [154]) g hp2 hp0 hnn18.symm (by decide) kw_1461 kw_1462 kw_1463 kw_1464 kw_1465 nwc_clone kw_1467 ⟨by decide, by decide⟩ hl.1 (Nat.le_of_ble_eq_true rfl) hm d_Arr_copyOfRange_18 d_Arr_copyOfRange_21 h (fun _ => rfl) fun q18 m18 s hs hE hm pm18 h => ?_
      have hl : lv_has ls 3 [(1, .int l1), (2, .int l2)] := lv_sub hl [1, 2] rfl
      refine ww_st (st' := [.ref (q18.1 154 0)]) (by rfl) ?_
      have hx0 : Exq (xP X) [154] _ q18 := hx0.tr (hE.sub (by decide))
      exact ww_aretX (pc := 24) g rfl (by first | exact Or.inl ⟨_, rfl⟩ | exact Or.inr ⟨_, rfl⟩) h hR hx0 hm d_Arr_copyOfRange_24
    · exact j_Arr_copyOfRange_j10 g hR hx0 l0r l0 l1 l2 n0 hm s hp0 hp1 hp2 ls (lv_sub hl [0, 1, 2] rfl) h

abbrev b_Bu_describe : ByteArray := prog_2_method_15_code
def y_Bu_describe : MethodName := ⟨R_Bu, "describe", "(IJ)V"⟩
abbrev w_Bu_describe : List Cond := .code y_Bu_describe b_Bu_describe 4 none :: wA
set_option maxRecDepth 20000 in
theorem k_Bu_describe : Cond.code y_Bu_describe b_Bu_describe 4 none ∈ wA := kinm (show _ ∈ tables_1 from (List.mem_append_right _ (List.mem_append_right _ (List.mem_append_right _ (List.mem_append_right _ (List.mem_append_right _ (List.mem_append_right _ (List.mem_append_right _ (List.mem_append_left _ (List.mem_of_getElem? (l := tables_1_8) (i := 12) rfl)))))))))) rfl
theorem d_Bu_describe_0 : decode b_Bu_describe 0 = .ok (.aload_n 0, 1) := by decide +kernel
theorem d_Bu_describe_1 : decode b_Bu_describe 1 = .ok (.getfield 25, 3) := by decide +kernel
theorem d_Bu_describe_4 : decode b_Bu_describe 4 = .ok (.iconst 0, 1) := by decide +kernel
theorem d_Bu_describe_5 : decode b_Bu_describe 5 = .ok (.putfield 187, 3) := by decide +kernel
theorem d_Bu_describe_8 : decode b_Bu_describe 8 = .ok (.iload_n 1, 1) := by decide +kernel
theorem d_Bu_describe_9 : decode b_Bu_describe 9 = .ok (.tableswitch 117 0 6 #[43, 53, 63, 73, 117, 82, 94], 43) := by decide +kernel
theorem d_Bu_describe_52 : decode b_Bu_describe 52 = .ok (.aload_n 0, 1) := by decide +kernel
theorem d_Bu_describe_53 : decode b_Bu_describe 53 = .ok (.getfield 25, 3) := by decide +kernel
theorem d_Bu_describe_56 : decode b_Bu_describe 56 = .ok (.ldc 205, 2) := by decide +kernel
theorem d_Bu_describe_58 : decode b_Bu_describe 58 = .ok (.invokevirtual 207, 3) := by decide +kernel
theorem d_Bu_describe_61 : decode b_Bu_describe 61 = .ok (.return_, 1) := by decide +kernel
theorem d_Bu_describe_62 : decode b_Bu_describe 62 = .ok (.aload_n 0, 1) := by decide +kernel
theorem d_Bu_describe_63 : decode b_Bu_describe 63 = .ok (.getfield 25, 3) := by decide +kernel
theorem d_Bu_describe_66 : decode b_Bu_describe 66 = .ok (.ldc 211, 2) := by decide +kernel
theorem d_Bu_describe_68 : decode b_Bu_describe 68 = .ok (.invokevirtual 207, 3) := by decide +kernel
theorem d_Bu_describe_71 : decode b_Bu_describe 71 = .ok (.return_, 1) := by decide +kernel
theorem d_Bu_describe_72 : decode b_Bu_describe 72 = .ok (.aload_n 0, 1) := by decide +kernel
theorem d_Bu_describe_73 : decode b_Bu_describe 73 = .ok (.getfield 25, 3) := by decide +kernel
theorem d_Bu_describe_76 : decode b_Bu_describe 76 = .ok (.ldc 213, 2) := by decide +kernel
theorem d_Bu_describe_78 : decode b_Bu_describe 78 = .ok (.invokevirtual 207, 3) := by decide +kernel
theorem d_Bu_describe_81 : decode b_Bu_describe 81 = .ok (.return_, 1) := by decide +kernel
theorem d_Bu_describe_82 : decode b_Bu_describe 82 = .ok (.aload_n 0, 1) := by decide +kernel
theorem d_Bu_describe_83 : decode b_Bu_describe 83 = .ok (.getfield 25, 3) := by decide +kernel
theorem d_Bu_describe_86 : decode b_Bu_describe 86 = .ok (.lload_n 2, 1) := by decide +kernel
theorem d_Bu_describe_87 : decode b_Bu_describe 87 = .ok (.invokevirtual 215, 3) := by decide +kernel
theorem d_Bu_describe_90 : decode b_Bu_describe 90 = .ok (.return_, 1) := by decide +kernel
theorem d_Bu_describe_91 : decode b_Bu_describe 91 = .ok (.aload_n 0, 1) := by decide +kernel
theorem d_Bu_describe_92 : decode b_Bu_describe 92 = .ok (.getfield 25, 3) := by decide +kernel
theorem d_Bu_describe_95 : decode b_Bu_describe 95 = .ok (.ldc 219, 2) := by decide +kernel
theorem d_Bu_describe_97 : decode b_Bu_describe 97 = .ok (.invokevirtual 207, 3) := by decide +kernel
theorem d_Bu_describe_100 : decode b_Bu_describe 100 = .ok (.goto 35, 3) := by decide +kernel
theorem d_Bu_describe_103 : decode b_Bu_describe 103 = .ok (.aload_n 0, 1) := by decide +kernel
theorem d_Bu_describe_104 : decode b_Bu_describe 104 = .ok (.getfield 25, 3) := by decide +kernel
theorem d_Bu_describe_107 : decode b_Bu_describe 107 = .ok (.lload_n 2, 1) := by decide +kernel
theorem d_Bu_describe_108 : decode b_Bu_describe 108 = .ok (.lconst 0, 1) := by decide +kernel
theorem d_Bu_describe_109 : decode b_Bu_describe 109 = .ok (.lcmp, 1) := by decide +kernel
theorem d_Bu_describe_110 : decode b_Bu_describe 110 = .ok (.ifCond .ge 8, 3) := by decide +kernel
theorem d_Bu_describe_113 : decode b_Bu_describe 113 = .ok (.ldc 221, 2) := by decide +kernel
theorem d_Bu_describe_115 : decode b_Bu_describe 115 = .ok (.goto 5, 3) := by decide +kernel
theorem d_Bu_describe_118 : decode b_Bu_describe 118 = .ok (.ldc 223, 2) := by decide +kernel
theorem d_Bu_describe_120 : decode b_Bu_describe 120 = .ok (.invokevirtual 207, 3) := by decide +kernel
theorem d_Bu_describe_123 : decode b_Bu_describe 123 = .ok (.goto 12, 3) := by decide +kernel
theorem d_Bu_describe_126 : decode b_Bu_describe 126 = .ok (.aload_n 0, 1) := by decide +kernel
theorem d_Bu_describe_127 : decode b_Bu_describe 127 = .ok (.getfield 25, 3) := by decide +kernel
theorem d_Bu_describe_130 : decode b_Bu_describe 130 = .ok (.ldc 225, 2) := by decide +kernel
theorem d_Bu_describe_132 : decode b_Bu_describe 132 = .ok (.invokevirtual 207, 3) := by decide +kernel
theorem d_Bu_describe_135 : decode b_Bu_describe 135 = .ok (.aload_n 0, 1) := by decide +kernel
theorem d_Bu_describe_136 : decode b_Bu_describe 136 = .ok (.getfield 25, 3) := by decide +kernel
theorem d_Bu_describe_139 : decode b_Bu_describe 139 = .ok (.aload_n 0, 1) := by decide +kernel
theorem d_Bu_describe_140 : decode b_Bu_describe 140 = .ok (.getfield 25, 3) := by decide +kernel
theorem d_Bu_describe_143 : decode b_Bu_describe 143 = .ok (.lload_n 2, 1) := by decide +kernel
theorem d_Bu_describe_144 : decode b_Bu_describe 144 = .ok (.invokevirtual 227, 3) := by decide +kernel
theorem d_Bu_describe_147 : decode b_Bu_describe 147 = .ok (.invokevirtual 215, 3) := by decide +kernel
theorem d_Bu_describe_150 : decode b_Bu_describe 150 = .ok (.return_, 1) := by decide +kernel
theorem kw_1493 : Cond.fieldLink R_Bu 187 "LuaMachine$Heap" "workSize" "I" ∈ wA := kinm (show _ ∈ tables_1 from (List.mem_append_left _ (List.mem_of_getElem? (l := tables_1_1) (i := 159) (by decide +kernel)))) (by decide +kernel)
theorem kw_1494 : Cond.methodLink R_Bu 207 y_He_putText ∈ wA := kinm (show _ ∈ tables_1 from (List.mem_append_right _ (List.mem_append_right _ (List.mem_append_right _ (List.mem_append_right _ (List.mem_append_right _ (List.mem_append_right _ (List.mem_append_right _ (List.mem_append_left _ (List.mem_of_getElem? (l := tables_1_8) (i := 14) (by decide +kernel))))))))))) (by decide +kernel)
theorem kw_1495 : Cond.methodLink R_Bu 215 y_He_putDecimal ∈ wA := kinm (show _ ∈ tables_1 from (List.mem_append_right _ (List.mem_append_right _ (List.mem_append_right _ (List.mem_append_right _ (List.mem_append_right _ (List.mem_append_right _ (List.mem_append_right _ (List.mem_append_left _ (List.mem_of_getElem? (l := tables_1_8) (i := 23) (by decide +kernel))))))))))) (by decide +kernel)
theorem kw_1496 : Cond.methodLink R_Bu 227 y_He_numberOf ∈ wA := kinm (show _ ∈ tables_1 from (List.mem_append_right _ (List.mem_append_right _ (List.mem_append_right _ (List.mem_append_right _ (List.mem_append_right _ (List.mem_append_right _ (List.mem_append_right _ (List.mem_append_left _ (List.mem_of_getElem? (l := tables_1_8) (i := 36) (by decide +kernel))))))))))) (by decide +kernel)
theorem kw_1497 : Cond.instanceMethod y_Bu_describe ∈ wA := kinm (show _ ∈ tables_1 from (List.mem_append_right _ (List.mem_append_right _ (List.mem_append_right _ (List.mem_append_right _ (List.mem_append_right _ (List.mem_append_right _ (List.mem_append_right _ (List.mem_append_left _ (List.mem_of_getElem? (l := tables_1_8) (i := 11) (by decide +kernel))))))))))) (by decide +kernel)
theorem kw_1498 : Cond.selects R_Bu y_Bu_describe y_Bu_describe ∈ wA := kinp 68 (by decide +kernel) (by decide +kernel)
theorem cv_Bu_describe : CV y_Bu_describe b_Bu_describe 4 none 2 := ⟨kw_1497, kw_1498, kw_950, k_Bu_describe, by decide +kernel⟩
theorem j_Bu_describe_j135 {X : Cx} {q0 q : PL} (g : Gd X y_Bu_describe b_Bu_describe 4 none 6 172 R_Bu) {o : (Unit × (Nat × Nat)) × S1} (hR : RtX X [118, 154] q0 o.1.2 o.2 (fun _ => none)) (hx0 : Exq (xP X) [118, 154] q0 q) (l2 : Int64) (ln : Nat × Nat) (hm : Rmq (xP X) q ln) (s : S1) (ls : Array Slot) (hl : lv_has ls 4 [(0, .ref (q.1 130 0)), (2, .long l2)]) (h : M_Bu_describe_j135 l2 ln s = some o) : WW X q s 135 ls [] := by
  unfold M_Bu_describe_j135 at h
  refine ww_aload_n (pc := 135) g.1 d_Bu_describe_135 rfl (lv_at hl 0 rfl) ?_
  refine ww_gR (pc := 136) g (k := 3) cl_Bu (pz rfl (by decide)) (by decide) (Or.inl kw_974) (f := 16643) (t := 111) rfl rfl rfl d_Bu_describe_136 ?_
  refine ww_aload_n (pc := 139) g.1 d_Bu_describe_139 rfl (lv_at hl 0 rfl) ?_
  refine ww_gR (pc := 140) g (k := 3) cl_Bu (pz rfl (by decide)) (by decide) (Or.inl kw_974) (f := 16643) (t := 111) rfl rfl rfl d_Bu_describe_140 ?_
  refine ww_lload_n (pc := 143) g.1 d_Bu_describe_143 rfl (lv_at hl 1 rfl) ?_
  obtain ⟨v144, s, hc144, h⟩ := oB_of h
  refine ww_callV (pc := 144) (rest := [.ref (q.1 111 0)]) g cv_He_numberOf (Or.inl kw_1496) cl_He (pz rfl (by decide)) (ct_He_numberOf hc144) ⟨by decide, by decide⟩ rfl hl.1 (Nat.le_of_ble_eq_true rfl) d_Bu_describe_144 rfl (?_)
  refine ww_st (st' := [.long v144, .ref (q.1 111 0)]) rfl ?_
  refine ww_lo fun dlo => ?_
  obtain ⟨v147, s, hc147, h⟩ := oB_of h
  refine ww_callVX (pc := 147) (rest := []) g cv_He_putDecimal (Or.inl kw_1495) cl_He (pz rfl (by decide)) (ct_He_putDecimal hm hc147) ⟨by decide, by decide⟩ rfl hl.1 (Nat.le_of_ble_eq_true rfl) d_Bu_describe_147 rfl (fun q147 hE hm => ?_)
  have hl : lv_has ls 4 [(2, .long l2)] := lv_sub hl [1] rfl
  refine ww_st (st' := []) (by rfl) ?_
  have hx0 : Exq (xP X) [118, 154] _ q147 := hx0.tr (hE.sub (by decide))
  exact ww_vretX (pc := 150) g h hR hx0 hm d_Bu_describe_150

theorem j_Bu_describe_j120 {X : Cx} {q0 q : PL} (g : Gd X y_Bu_describe b_Bu_describe 4 none 6 172 R_Bu) {o : (Unit × (Nat × Nat)) × S1} (hR : RtX X [118, 154] q0 o.1.2 o.2 (fun _ => none)) (hx0 : Exq (xP X) [118, 154] q0 q) (l2 : Int64) (ln : Nat × Nat) (k0 : Nat) (hm : Rmq (xP X) q ln) (s : S1) (hp0 : k0 < nSt) (ls : Array Slot) (hl : lv_has ls 4 [(0, .ref (q.1 130 0)), (2, .long l2)]) (h : M_Bu_describe_j120 l2 ln k0 s = some o) : WW X q s 120 ls [.ref (aK (xP X) k0), .ref (q.1 111 0)] := by
  unfold M_Bu_describe_j120 at h
  refine ww_lo fun dlo => ?_
  obtain ⟨v120, s, hc120, h⟩ := oB_of h
  refine ww_callVX (pc := 120) (rest := []) g cv_He_putText (Or.inl kw_1494) cl_He (pz rfl (by decide)) (ct_He_putText hp0 hm hc120) ⟨by decide, by decide⟩ rfl hl.1 (Nat.le_of_ble_eq_true rfl) d_Bu_describe_120 rfl (fun q120 hE hm => ?_)
  have ex120_0 : q120.1 130 0 = q.1 130 0 := hE _ _ (by decide) (dlo _ _ (pz rfl (by decide)))
  have hl : lv_has ls 4 [(0, .ref (q120.1 130 0)), (2, .long l2)] := by rw [ex120_0]; exact hl
  refine ww_st (st' := []) (by rfl) ?_
  have hx0 : Exq (xP X) [118, 154] _ q120 := hx0.tr (hE.sub (by decide))
  refine ww_goto (pc := 123) (tgt := 135) g.1 d_Bu_describe_123 (by decide) ?_
  exact j_Bu_describe_j135 g hR hx0 l2 v120.2 hm s ls (lv_sub hl [0, 1] rfl) h

theorem ct_Bu_describe {l : Launch} {P : PP} {q : PL} {s s' : S1} {n0 n1 : Nat × Nat} {l1 : Int32} {l2 : Int64} {r : Unit} (hm : Rmq P q n0) (h : M_Bu_describe n0 l1 l2 s = some ((r, n1), s')) : CtX l y_Bu_describe b_Bu_describe 4 none 6 172 P [118, 154] q s [.ref (q.1 130 0), .int l1, .long l2] (fun _ => none) n1 s' := by
  refine ctX_of (by decide) (Nat.le_of_ble_eq_true rfl) fun X ls eP el g hR hl => ?_
  subst eP
  obtain ⟨q0, hq0⟩ : ∃ q0 : PL, q0 = q := ⟨q, rfl⟩
  have hx0 : Exq (xP X) [118, 154] q0 q := hq0 ▸ Exq.rf
  rw [← hq0] at hR
  have hR : RtX X [118, 154] q0 (((r, n1), s') : (Unit × (Nat × Nat)) × S1).1.2 (((r, n1), s') : (Unit × (Nat × Nat)) × S1).2 (fun _ => none) := hR
  have hl : lv_has ls 4 [(0, .ref (q.1 130 0)), (1, .int l1), (2, .long l2)] := hl
  generalize ((r, n1), s') = o at h hR
  unfold M_Bu_describe at h
  refine ww_aload_n (pc := 0) g.1 d_Bu_describe_0 rfl (lv_at hl 0 rfl) ?_
  refine ww_gR (pc := 1) g (k := 3) cl_Bu (pz rfl (by decide)) (by decide) (Or.inl kw_974) (f := 16643) (t := 111) rfl rfl rfl d_Bu_describe_1 ?_
  refine ww_iconst (pc := 4) g.1 (v := 0) d_Bu_describe_4 (by decide) ?_
  refine ww_pI (pc := 5) g (k := 9) cl_He (pz rfl (by decide)) (by decide) (Or.inl kw_1493) rfl (f := 14217) rfl rfl rfl rfl d_Bu_describe_5 h fun s hs h => ?_
  refine ww_iload_n (pc := 8) g.1 d_Bu_describe_8 rfl (lv_at hl 1 rfl) ?_
  by_cases c9_52 : l1 = 0
  · have h := oC_pos c9_52 h
    have c := c9_52
    refine ww_tableIn (pc := 9) (tgt := 52) g.1 d_Bu_describe_9 (by rw [c]; decide) (by rw [c]; decide) (by rw [c] <;> rfl) (by decide) ?_
    refine ww_aload_n (pc := 52) g.1 d_Bu_describe_52 rfl (lv_at hl 0 rfl) ?_
    refine ww_gR (pc := 53) g (k := 3) cl_Bu (pz rfl (by decide)) (by decide) (Or.inl kw_974) (f := 16643) (t := 111) rfl rfl rfl d_Bu_describe_53 ?_
    refine ww_ldcS (pc := 56) g (n := 63) (by decide) rfl rfl d_Bu_describe_56 ?_
    refine ww_lo fun dlo => ?_
    obtain ⟨v58, s, hc58, h⟩ := oB_of h
    refine ww_callVX (pc := 58) (rest := []) g cv_He_putText (Or.inl kw_1494) cl_He (pz rfl (by decide)) (ct_He_putText (by decide) hm hc58) ⟨by decide, by decide⟩ rfl hl.1 (Nat.le_of_ble_eq_true rfl) d_Bu_describe_58 rfl (fun q58 hE hm => ?_)
    have hl : lv_has ls 4 [(1, .int l1), (2, .long l2)] := lv_sub hl [1, 2] rfl
    refine ww_st (st' := []) (by rfl) ?_
    have hx0 : Exq (xP X) [118, 154] _ q58 := hx0.tr (hE.sub (by decide))
    exact ww_vretX (pc := 61) g h hR hx0 hm d_Bu_describe_61
  have h := oC_neg c9_52 h
  by_cases c9_62 : l1 = 1
  · have h := oC_pos c9_62 h
    have c := c9_62
    refine ww_tableIn (pc := 9) (tgt := 62) g.1 d_Bu_describe_9 (by rw [c]; decide) (by rw [c]; decide) (by rw [c] <;> rfl) (by decide) ?_
    refine ww_aload_n (pc := 62) g.1 d_Bu_describe_62 rfl (lv_at hl 0 rfl) ?_
    refine ww_gR (pc := 63) g (k := 3) cl_Bu (pz rfl (by decide)) (by decide) (Or.inl kw_974) (f := 16643) (t := 111) rfl rfl rfl d_Bu_describe_63 ?_
    refine ww_ldcS (pc := 66) g (n := 64) (by decide) rfl rfl d_Bu_describe_66 ?_
    refine ww_lo fun dlo => ?_
    obtain ⟨v68, s, hc68, h⟩ := oB_of h
    refine ww_callVX (pc := 68) (rest := []) g cv_He_putText (Or.inl kw_1494) cl_He (pz rfl (by decide)) (ct_He_putText (by decide) hm hc68) ⟨by decide, by decide⟩ rfl hl.1 (Nat.le_of_ble_eq_true rfl) d_Bu_describe_68 rfl (fun q68 hE hm => ?_)
    have hl : lv_has ls 4 [(1, .int l1), (2, .long l2)] := lv_sub hl [1, 2] rfl
    refine ww_st (st' := []) (by rfl) ?_
    have hx0 : Exq (xP X) [118, 154] _ q68 := hx0.tr (hE.sub (by decide))
    exact ww_vretX (pc := 71) g h hR hx0 hm d_Bu_describe_71
  have h := oC_neg c9_62 h
  by_cases c9_72 : l1 = 2
  · have h := oC_pos c9_72 h
    have c := c9_72
    refine ww_tableIn (pc := 9) (tgt := 72) g.1 d_Bu_describe_9 (by rw [c]; decide) (by rw [c]; decide) (by rw [c] <;> rfl) (by decide) ?_
    refine ww_aload_n (pc := 72) g.1 d_Bu_describe_72 rfl (lv_at hl 0 rfl) ?_
    refine ww_gR (pc := 73) g (k := 3) cl_Bu (pz rfl (by decide)) (by decide) (Or.inl kw_974) (f := 16643) (t := 111) rfl rfl rfl d_Bu_describe_73 ?_
    refine ww_ldcS (pc := 76) g (n := 65) (by decide) rfl rfl d_Bu_describe_76 ?_
    refine ww_lo fun dlo => ?_
    obtain ⟨v78, s, hc78, h⟩ := oB_of h
    refine ww_callVX (pc := 78) (rest := []) g cv_He_putText (Or.inl kw_1494) cl_He (pz rfl (by decide)) (ct_He_putText (by decide) hm hc78) ⟨by decide, by decide⟩ rfl hl.1 (Nat.le_of_ble_eq_true rfl) d_Bu_describe_78 rfl (fun q78 hE hm => ?_)
    have hl : lv_has ls 4 [(1, .int l1), (2, .long l2)] := lv_sub hl [1, 2] rfl
    refine ww_st (st' := []) (by rfl) ?_
    have hx0 : Exq (xP X) [118, 154] _ q78 := hx0.tr (hE.sub (by decide))
    exact ww_vretX (pc := 81) g h hR hx0 hm d_Bu_describe_81
  have h := oC_neg c9_72 h
  by_cases c9_82 : l1 = 3
  · have h := oC_pos c9_82 h
    have c := c9_82
    refine ww_tableIn (pc := 9) (tgt := 82) g.1 d_Bu_describe_9 (by rw [c]; decide) (by rw [c]; decide) (by rw [c] <;> rfl) (by decide) ?_
    refine ww_aload_n (pc := 82) g.1 d_Bu_describe_82 rfl (lv_at hl 0 rfl) ?_
    refine ww_gR (pc := 83) g (k := 3) cl_Bu (pz rfl (by decide)) (by decide) (Or.inl kw_974) (f := 16643) (t := 111) rfl rfl rfl d_Bu_describe_83 ?_
    refine ww_lload_n (pc := 86) g.1 d_Bu_describe_86 rfl (lv_at hl 2 rfl) ?_
    refine ww_lo fun dlo => ?_
    obtain ⟨v87, s, hc87, h⟩ := oB_of h
    refine ww_callVX (pc := 87) (rest := []) g cv_He_putDecimal (Or.inl kw_1495) cl_He (pz rfl (by decide)) (ct_He_putDecimal hm hc87) ⟨by decide, by decide⟩ rfl hl.1 (Nat.le_of_ble_eq_true rfl) d_Bu_describe_87 rfl (fun q87 hE hm => ?_)
    have hl : lv_has ls 4 [(1, .int l1), (2, .long l2)] := lv_sub hl [1, 2] rfl
    refine ww_st (st' := []) (by rfl) ?_
    have hx0 : Exq (xP X) [118, 154] _ q87 := hx0.tr (hE.sub (by decide))
    exact ww_vretX (pc := 90) g h hR hx0 hm d_Bu_describe_90
  have h := oC_neg c9_82 h
  by_cases c9_91 : l1 = 5
  · have h := oC_pos c9_91 h
    have c := c9_91
    refine ww_tableIn (pc := 9) (tgt := 91) g.1 d_Bu_describe_9 (by rw [c]; decide) (by rw [c]; decide) (by rw [c] <;> rfl) (by decide) ?_
    refine ww_aload_n (pc := 91) g.1 d_Bu_describe_91 rfl (lv_at hl 0 rfl) ?_
    refine ww_gR (pc := 92) g (k := 3) cl_Bu (pz rfl (by decide)) (by decide) (Or.inl kw_974) (f := 16643) (t := 111) rfl rfl rfl d_Bu_describe_92 ?_
    refine ww_ldcS (pc := 95) g (n := 66) (by decide) rfl rfl d_Bu_describe_95 ?_
    refine ww_lo fun dlo => ?_
    obtain ⟨v97, s, hc97, h⟩ := oB_of h
    refine ww_callVX (pc := 97) (rest := []) g cv_He_putText (Or.inl kw_1494) cl_He (pz rfl (by decide)) (ct_He_putText (by decide) hm hc97) ⟨by decide, by decide⟩ rfl hl.1 (Nat.le_of_ble_eq_true rfl) d_Bu_describe_97 rfl (fun q97 hE hm => ?_)
    have ex97_0 : q97.1 130 0 = q.1 130 0 := hE _ _ (by decide) (dlo _ _ (pz rfl (by decide)))
    have hl : lv_has ls 4 [(0, .ref (q97.1 130 0)), (1, .int l1), (2, .long l2)] := by rw [ex97_0]; exact hl
    refine ww_st (st' := []) (by rfl) ?_
    have hx0 : Exq (xP X) [118, 154] _ q97 := hx0.tr (hE.sub (by decide))
    refine ww_goto (pc := 100) (tgt := 135) g.1 d_Bu_describe_100 (by decide) ?_
    exact j_Bu_describe_j135 g hR hx0 l2 v97.2 hm s ls (lv_sub hl [0, 2] rfl) h
  have h := oC_neg c9_91 h
  by_cases c9_103 : l1 = 6
  · have h := oC_pos c9_103 h
    have c := c9_103
    refine ww_tableIn (pc := 9) (tgt := 103) g.1 d_Bu_describe_9 (by rw [c]; decide) (by rw [c]; decide) (by rw [c] <;> rfl) (by decide) ?_
    refine ww_aload_n (pc := 103) g.1 d_Bu_describe_103 rfl (lv_at hl 0 rfl) ?_
    refine ww_gR (pc := 104) g (k := 3) cl_Bu (pz rfl (by decide)) (by decide) (Or.inl kw_974) (f := 16643) (t := 111) rfl rfl rfl d_Bu_describe_104 ?_
    refine ww_lload_n (pc := 107) g.1 d_Bu_describe_107 rfl (lv_at hl 2 rfl) ?_
    refine ww_lconst (pc := 108) g.1 (v := 0) d_Bu_describe_108 (by decide) ?_
    refine ww_lcmp (pc := 109) g.1 d_Bu_describe_109 ?_
    refine ww_if_ge (pc := 110) (tgt := 118) g.1 d_Bu_describe_110 (by decide) h (fun c h => ?_) (fun c h => ?_)
    · refine ww_ldcS (pc := 118) g (n := 68) (by decide) rfl rfl d_Bu_describe_118 ?_
      exact j_Bu_describe_j120 g hR hx0 l2 n0 68 hm s (by decide) ls (lv_sub hl [0, 2] rfl) h
    · refine ww_ldcS (pc := 113) g (n := 67) (by decide) rfl rfl d_Bu_describe_113 ?_
      refine ww_goto (pc := 115) (tgt := 120) g.1 d_Bu_describe_115 (by decide) ?_
      exact j_Bu_describe_j120 g hR hx0 l2 n0 67 hm s (by decide) ls (lv_sub hl [0, 2] rfl) h
  have h := oC_neg c9_103 h
  have n_0 : ¬ l1.toInt = 0 := lv_neT (fun e => c9_52 e) rfl
  have n_1 : ¬ l1.toInt = 1 := lv_neT (fun e => c9_62 e) rfl
  have n_2 : ¬ l1.toInt = 2 := lv_neT (fun e => c9_72 e) rfl
  have n_3 : ¬ l1.toInt = 3 := lv_neT (fun e => c9_82 e) rfl
  have n_5 : ¬ l1.toInt = 5 := lv_neT (fun e => c9_91 e) rfl
  have n_6 : ¬ l1.toInt = 6 := lv_neT (fun e => c9_103 e) rfl
  by_cases hr : l1.toInt < 0 ∨ 6 < l1.toInt
  · refine ww_tableOut (pc := 9) (tgt := 126) g.1 d_Bu_describe_9 hr (by decide) ?_
    refine ww_aload_n (pc := 126) g.1 d_Bu_describe_126 rfl (lv_at hl 0 rfl) ?_
    refine ww_gR (pc := 127) g (k := 3) cl_Bu (pz rfl (by decide)) (by decide) (Or.inl kw_974) (f := 16643) (t := 111) rfl rfl rfl d_Bu_describe_127 ?_
    refine ww_ldcS (pc := 130) g (n := 69) (by decide) rfl rfl d_Bu_describe_130 ?_
    refine ww_lo fun dlo => ?_
    obtain ⟨v132, s, hc132, h⟩ := oB_of h
    refine ww_callVX (pc := 132) (rest := []) g cv_He_putText (Or.inl kw_1494) cl_He (pz rfl (by decide)) (ct_He_putText (by decide) hm hc132) ⟨by decide, by decide⟩ rfl hl.1 (Nat.le_of_ble_eq_true rfl) d_Bu_describe_132 rfl (fun q132 hE hm => ?_)
    have ex132_0 : q132.1 130 0 = q.1 130 0 := hE _ _ (by decide) (dlo _ _ (pz rfl (by decide)))
    have hl : lv_has ls 4 [(0, .ref (q132.1 130 0)), (1, .int l1), (2, .long l2)] := by rw [ex132_0]; exact hl
    refine ww_st (st' := []) (by rfl) ?_
    have hx0 : Exq (xP X) [118, 154] _ q132 := hx0.tr (hE.sub (by decide))
    exact j_Bu_describe_j135 g hR hx0 l2 v132.2 hm s ls (lv_sub hl [0, 2] rfl) h
  have hh : l1.toInt = 4 := by omega
  have c := hh
  refine ww_tableIn (pc := 9) (tgt := 126) g.1 d_Bu_describe_9 (by rw [c]; decide) (by rw [c]; decide) (by rw [c] <;> rfl) (by decide) ?_
  refine ww_aload_n (pc := 126) g.1 d_Bu_describe_126 rfl (lv_at hl 0 rfl) ?_
  refine ww_gR (pc := 127) g (k := 3) cl_Bu (pz rfl (by decide)) (by decide) (Or.inl kw_974) (f := 16643) (t := 111) rfl rfl rfl d_Bu_describe_127 ?_
  refine ww_ldcS (pc := 130) g (n := 69) (by decide) rfl rfl d_Bu_describe_130 ?_
  refine ww_lo fun dlo => ?_
  obtain ⟨v132, s, hc132, h⟩ := oB_of h
  refine ww_callVX (pc := 132) (rest := []) g cv_He_putText (Or.inl kw_1494) cl_He (pz rfl (by decide)) (ct_He_putText (by decide) hm hc132) ⟨by decide, by decide⟩ rfl hl.1 (Nat.le_of_ble_eq_true rfl) d_Bu_describe_132 rfl (fun q132 hE hm => ?_)
  have ex132_0 : q132.1 130 0 = q.1 130 0 := hE _ _ (by decide) (dlo _ _ (pz rfl (by decide)))
  have hl : lv_has ls 4 [(0, .ref (q132.1 130 0)), (1, .int l1), (2, .long l2)] := by rw [ex132_0]; exact hl
  refine ww_st (st' := []) (by rfl) ?_
  have hx0 : Exq (xP X) [118, 154] _ q132 := hx0.tr (hE.sub (by decide))
  exact j_Bu_describe_j135 g hR hx0 l2 v132.2 hm s ls (lv_sub hl [0, 2] rfl) h

abbrev b_St_putText : ByteArray := prog_10_method_24_code
def y_St_putText : MethodName := ⟨R_St, "putText", "(IJ)V"⟩
abbrev w_St_putText : List Cond := .code y_St_putText b_St_putText 4 none :: wA
theorem k_St_putText : Cond.code y_St_putText b_St_putText 4 none ∈ wA := kinm (show _ ∈ tables_1 from (List.mem_append_right _ (List.mem_append_right _ (List.mem_append_right _ (List.mem_append_right _ (List.mem_append_right _ (List.mem_append_right _ (List.mem_append_right _ (List.mem_append_right _ (List.mem_append_left _ (List.mem_of_getElem? (l := tables_1_9) (i := 23) (by decide +kernel)))))))))))) (by decide +kernel)
theorem d_St_putText_0 : decode b_St_putText 0 = .ok (.iload_n 1, 1) := by decide +kernel
theorem d_St_putText_1 : decode b_St_putText 1 = .ok (.iconst 4, 1) := by decide +kernel
theorem d_St_putText_2 : decode b_St_putText 2 = .ok (.if_icmp .ne 26, 3) := by decide +kernel
theorem d_St_putText_5 : decode b_St_putText 5 = .ok (.aload_n 0, 1) := by decide +kernel
theorem d_St_putText_6 : decode b_St_putText 6 = .ok (.getfield 21, 3) := by decide +kernel
theorem d_St_putText_9 : decode b_St_putText 9 = .ok (.aload_n 0, 1) := by decide +kernel
theorem d_St_putText_10 : decode b_St_putText 10 = .ok (.getfield 21, 3) := by decide +kernel
theorem d_St_putText_13 : decode b_St_putText 13 = .ok (.getfield 163, 3) := by decide +kernel
theorem d_St_putText_16 : decode b_St_putText 16 = .ok (.lload_n 2, 1) := by decide +kernel
theorem d_St_putText_17 : decode b_St_putText 17 = .ok (.l2i, 1) := by decide +kernel
theorem d_St_putText_18 : decode b_St_putText 18 = .ok (.aaload, 1) := by decide +kernel
theorem d_St_putText_19 : decode b_St_putText 19 = .ok (.getfield 270, 3) := by decide +kernel
theorem d_St_putText_22 : decode b_St_putText 22 = .ok (.invokevirtual 302, 3) := by decide +kernel
theorem d_St_putText_25 : decode b_St_putText 25 = .ok (.goto 11, 3) := by decide +kernel
theorem d_St_putText_28 : decode b_St_putText 28 = .ok (.aload_n 0, 1) := by decide +kernel
theorem d_St_putText_29 : decode b_St_putText 29 = .ok (.getfield 21, 3) := by decide +kernel
theorem d_St_putText_32 : decode b_St_putText 32 = .ok (.lload_n 2, 1) := by decide +kernel
theorem d_St_putText_33 : decode b_St_putText 33 = .ok (.invokevirtual 306, 3) := by decide +kernel
theorem d_St_putText_36 : decode b_St_putText 36 = .ok (.return_, 1) := by decide +kernel
theorem kw_1499 : Cond.methodLink R_St 306 y_He_putDecimal ∈ wA := kinm (show _ ∈ tables_1 from (List.mem_append_right _ (List.mem_append_right _ (List.mem_append_right _ (List.mem_append_right _ (List.mem_append_right _ (List.mem_append_right _ (List.mem_append_right _ (List.mem_append_right _ (List.mem_append_left _ (List.mem_of_getElem? (l := tables_1_9) (i := 30) (by decide +kernel)))))))))))) (by decide +kernel)
theorem kw_1500 : Cond.methodLink R_St 302 y_He_putBytes ∈ wA := kinm (show _ ∈ tables_1 from (List.mem_append_right _ (List.mem_append_right _ (List.mem_append_right _ (List.mem_append_right _ (List.mem_append_right _ (List.mem_append_right _ (List.mem_append_right _ (List.mem_append_right _ (List.mem_append_left _ (List.mem_of_getElem? (l := tables_1_9) (i := 24) (by decide +kernel)))))))))))) (by decide +kernel)
theorem kw_1501 : Cond.instanceMethod y_St_putText ∈ wA := kinm (show _ ∈ tables_1 from (List.mem_append_right _ (List.mem_append_right _ (List.mem_append_right _ (List.mem_append_right _ (List.mem_append_right _ (List.mem_append_right _ (List.mem_append_right _ (List.mem_append_right _ (List.mem_append_left _ (List.mem_of_getElem? (l := tables_1_9) (i := 22) (by decide +kernel)))))))))))) (by decide +kernel)
theorem kw_1502 : Cond.selects R_St y_St_putText y_St_putText ∈ wA := kinp 105 (by decide +kernel) (by decide +kernel)
theorem cv_St_putText : CV y_St_putText b_St_putText 4 none 2 := ⟨kw_1501, kw_1502, kw_883, k_St_putText, by decide +kernel⟩
theorem ct_St_putText {l : Launch} {P : PP} {q : PL} {s s' : S1} {n0 n1 : Nat × Nat} {l1 : Int32} {l2 : Int64} {r : Unit} (hm : Rmq P q n0) (h : M_St_putText n0 l1 l2 s = some ((r, n1), s')) : CtX l y_St_putText b_St_putText 4 none 4 93 P [118, 154] q s [.ref (q.1 129 0), .int l1, .long l2] (fun _ => none) n1 s' := by
  refine ctX_of (by decide) (Nat.le_of_ble_eq_true rfl) fun X ls eP el g hR hl => ?_
  subst eP
  obtain ⟨q0, hq0⟩ : ∃ q0 : PL, q0 = q := ⟨q, rfl⟩
  have hx0 : Exq (xP X) [118, 154] q0 q := hq0 ▸ Exq.rf
  rw [← hq0] at hR
  have hR : RtX X [118, 154] q0 (((r, n1), s') : (Unit × (Nat × Nat)) × S1).1.2 (((r, n1), s') : (Unit × (Nat × Nat)) × S1).2 (fun _ => none) := hR
  have hl : lv_has ls 4 [(0, .ref (q.1 129 0)), (1, .int l1), (2, .long l2)] := hl
  generalize ((r, n1), s') = o at h hR
  unfold M_St_putText at h
  refine ww_iload_n (pc := 0) g.1 d_St_putText_0 rfl (lv_at hl 1 rfl) ?_
  refine ww_iconst (pc := 1) g.1 (v := 4) d_St_putText_1 (by decide) ?_
  refine ww_icmp_ne (pc := 2) (tgt := 28) g.1 d_St_putText_2 (by decide) h (fun c h => ?_) (fun c h => ?_)
  · refine ww_aload_n (pc := 28) g.1 d_St_putText_28 rfl (lv_at hl 0 rfl) ?_
    refine ww_gR (pc := 29) g (k := 1) cl_St (pz rfl (by decide)) (by decide) (Or.inl kw_884) (f := 16513) (t := 111) rfl rfl rfl d_St_putText_29 ?_
    refine ww_lload_n (pc := 32) g.1 d_St_putText_32 rfl (lv_at hl 2 rfl) ?_
    refine ww_lo fun dlo => ?_
    obtain ⟨v33, s, hc33, h⟩ := oB_of h
    refine ww_callVX (pc := 33) (rest := []) g cv_He_putDecimal (Or.inl kw_1499) cl_He (pz rfl (by decide)) (ct_He_putDecimal hm hc33) ⟨by decide, by decide⟩ rfl hl.1 (Nat.le_of_ble_eq_true rfl) d_St_putText_33 rfl (fun q33 hE hm => ?_)
    have hl : lv_has ls 4 [(1, .int l1), (2, .long l2)] := lv_sub hl [1, 2] rfl
    refine ww_st (st' := []) (by rfl) ?_
    have hx0 : Exq (xP X) [118, 154] _ q33 := hx0.tr (hE.sub (by decide))
    exact ww_vretX (pc := 36) g h hR hx0 hm d_St_putText_36
  · refine ww_aload_n (pc := 5) g.1 d_St_putText_5 rfl (lv_at hl 0 rfl) ?_
    refine ww_gR (pc := 6) g (k := 1) cl_St (pz rfl (by decide)) (by decide) (Or.inl kw_884) (f := 16513) (t := 111) rfl rfl rfl d_St_putText_6 ?_
    refine ww_aload_n (pc := 9) g.1 d_St_putText_9 rfl (lv_at hl 0 rfl) ?_
    refine ww_gR (pc := 10) g (k := 1) cl_St (pz rfl (by decide)) (by decide) (Or.inl kw_884) (f := 16513) (t := 111) rfl rfl rfl d_St_putText_10 ?_
    refine ww_gR (pc := 13) g (k := 0) cl_He (pz rfl (by decide)) (by decide) (Or.inl kw_885) (f := 14208) (t := 112) rfl rfl rfl d_St_putText_13 ?_
    refine ww_lload_n (pc := 16) g.1 d_St_putText_16 rfl (lv_at hl 2 rfl) ?_
    refine ww_l2i (pc := 17) g.1 (v := l2.toInt32) d_St_putText_17 rfl ?_
    refine ww_a8 (pc := 18) g (t := 145) (n := 4000) (pz rfl (by decide)) rfl rfl rfl rfl d_St_putText_18 h fun pa18 h => ?_
    refine ww_g5 (pc := 19) g (k := 9) cl_Tg pa18 (by decide) (Or.inl kw_1125) (f := 18569) (t := 146) (f2 := 18815) rfl rfl rfl rfl d_St_putText_19 h fun v19 hv19 h => ?_
    refine ww_ok h fun cv19 h => ?_
    refine ww_dn cv19 ?_
    have pd19 : prs s 146 l2.toInt32 := pdn (hv19 ▸ cv19) pa18.2.1 pa18.2.2
    refine ww_lo fun dlo => ?_
    obtain ⟨v22, s, hc22, h⟩ := oB_of h
    refine ww_callVX (pc := 22) (rest := []) g cv_He_putBytes (Or.inl kw_1500) cl_He (pz rfl (by decide)) (ct_He_putBytes pd19 hm hc22) ⟨by decide, by decide⟩ rfl hl.1 (Nat.le_of_ble_eq_true rfl) d_St_putText_22 rfl (fun q22 hE hm => ?_)
    have hl : lv_has ls 4 [(1, .int l1), (2, .long l2)] := lv_sub hl [1, 2] rfl
    refine ww_st (st' := []) (by rfl) ?_
    have hx0 : Exq (xP X) [118, 154] _ q22 := hx0.tr (hE.sub (by decide))
    refine ww_goto (pc := 25) (tgt := 36) g.1 d_St_putText_25 (by decide) ?_
    exact ww_vretX (pc := 36) g h hR hx0 hm d_St_putText_36

abbrev b_Bu_print : ByteArray := prog_2_method_12_code
def y_Bu_print : MethodName := ⟨R_Bu, "print", "()V"⟩
abbrev w_Bu_print : List Cond := .code y_Bu_print b_Bu_print 3 none :: wA
theorem k_Bu_print : Cond.code y_Bu_print b_Bu_print 3 none ∈ wA := kinm (show _ ∈ tables_1 from (List.mem_append_right _ (List.mem_append_right _ (List.mem_append_right _ (List.mem_append_right _ (List.mem_append_right _ (List.mem_append_right _ (List.mem_append_left _ (List.mem_of_getElem? (l := tables_1_7) (i := 238) (by decide +kernel)))))))))) (by decide +kernel)
theorem d_Bu_print_0 : decode b_Bu_print 0 = .ok (.iconst 0, 1) := by decide +kernel
theorem d_Bu_print_1 : decode b_Bu_print 1 = .ok (.istore_n 1, 1) := by decide +kernel
theorem d_Bu_print_2 : decode b_Bu_print 2 = .ok (.iload_n 1, 1) := by decide +kernel
theorem d_Bu_print_3 : decode b_Bu_print 3 = .ok (.aload_n 0, 1) := by decide +kernel
theorem d_Bu_print_4 : decode b_Bu_print 4 = .ok (.getfield 35, 3) := by decide +kernel
theorem d_Bu_print_7 : decode b_Bu_print 7 = .ok (.getfield 167, 3) := by decide +kernel
theorem d_Bu_print_10 : decode b_Bu_print 10 = .ok (.if_icmp .ge 104, 3) := by decide +kernel
theorem d_Bu_print_13 : decode b_Bu_print 13 = .ok (.iload_n 1, 1) := by decide +kernel
theorem d_Bu_print_14 : decode b_Bu_print 14 = .ok (.ifCond .le 9, 3) := by decide +kernel
theorem d_Bu_print_17 : decode b_Bu_print 17 = .ok (.aload_n 0, 1) := by decide +kernel
theorem d_Bu_print_18 : decode b_Bu_print 18 = .ok (.bipush 9, 2) := by decide +kernel
theorem d_Bu_print_20 : decode b_Bu_print 20 = .ok (.invokevirtual 170, 3) := by decide +kernel
theorem d_Bu_print_23 : decode b_Bu_print 23 = .ok (.aload_n 0, 1) := by decide +kernel
theorem d_Bu_print_24 : decode b_Bu_print 24 = .ok (.getfield 35, 3) := by decide +kernel
theorem d_Bu_print_27 : decode b_Bu_print 27 = .ok (.getfield 173, 3) := by decide +kernel
theorem d_Bu_print_30 : decode b_Bu_print 30 = .ok (.iload_n 1, 1) := by decide +kernel
theorem d_Bu_print_31 : decode b_Bu_print 31 = .ok (.baload, 1) := by decide +kernel
theorem d_Bu_print_32 : decode b_Bu_print 32 = .ok (.iconst 4, 1) := by decide +kernel
theorem d_Bu_print_33 : decode b_Bu_print 33 = .ok (.if_icmp .ne 35, 3) := by decide +kernel
theorem d_Bu_print_36 : decode b_Bu_print 36 = .ok (.aload_n 0, 1) := by decide +kernel
theorem d_Bu_print_37 : decode b_Bu_print 37 = .ok (.getfield 25, 3) := by decide +kernel
theorem d_Bu_print_40 : decode b_Bu_print 40 = .ok (.getfield 149, 3) := by decide +kernel
theorem d_Bu_print_43 : decode b_Bu_print 43 = .ok (.aload_n 0, 1) := by decide +kernel
theorem d_Bu_print_44 : decode b_Bu_print 44 = .ok (.getfield 35, 3) := by decide +kernel
theorem d_Bu_print_47 : decode b_Bu_print 47 = .ok (.getfield 176, 3) := by decide +kernel
theorem d_Bu_print_50 : decode b_Bu_print 50 = .ok (.iload_n 1, 1) := by decide +kernel
theorem d_Bu_print_51 : decode b_Bu_print 51 = .ok (.laload, 1) := by decide +kernel
theorem d_Bu_print_52 : decode b_Bu_print 52 = .ok (.l2i, 1) := by decide +kernel
theorem d_Bu_print_53 : decode b_Bu_print 53 = .ok (.aaload, 1) := by decide +kernel
theorem d_Bu_print_54 : decode b_Bu_print 54 = .ok (.getfield 153, 3) := by decide +kernel
theorem d_Bu_print_57 : decode b_Bu_print 57 = .ok (.astore_n 2, 1) := by decide +kernel
theorem d_Bu_print_58 : decode b_Bu_print 58 = .ok (.aload_n 0, 1) := by decide +kernel
theorem d_Bu_print_59 : decode b_Bu_print 59 = .ok (.aload_n 2, 1) := by decide +kernel
theorem d_Bu_print_60 : decode b_Bu_print 60 = .ok (.aload_n 2, 1) := by decide +kernel
theorem d_Bu_print_61 : decode b_Bu_print 61 = .ok (.arraylength, 1) := by decide +kernel
theorem d_Bu_print_62 : decode b_Bu_print 62 = .ok (.invokevirtual 177, 3) := by decide +kernel
theorem d_Bu_print_65 : decode b_Bu_print 65 = .ok (.goto 43, 3) := by decide +kernel
theorem d_Bu_print_68 : decode b_Bu_print 68 = .ok (.aload_n 0, 1) := by decide +kernel
theorem d_Bu_print_69 : decode b_Bu_print 69 = .ok (.aload_n 0, 1) := by decide +kernel
theorem d_Bu_print_70 : decode b_Bu_print 70 = .ok (.getfield 35, 3) := by decide +kernel
theorem d_Bu_print_73 : decode b_Bu_print 73 = .ok (.getfield 173, 3) := by decide +kernel
theorem d_Bu_print_76 : decode b_Bu_print 76 = .ok (.iload_n 1, 1) := by decide +kernel
theorem d_Bu_print_77 : decode b_Bu_print 77 = .ok (.baload, 1) := by decide +kernel
theorem d_Bu_print_78 : decode b_Bu_print 78 = .ok (.aload_n 0, 1) := by decide +kernel
theorem d_Bu_print_79 : decode b_Bu_print 79 = .ok (.getfield 35, 3) := by decide +kernel
theorem d_Bu_print_82 : decode b_Bu_print 82 = .ok (.getfield 176, 3) := by decide +kernel
theorem d_Bu_print_85 : decode b_Bu_print 85 = .ok (.iload_n 1, 1) := by decide +kernel
theorem d_Bu_print_86 : decode b_Bu_print 86 = .ok (.laload, 1) := by decide +kernel
theorem d_Bu_print_87 : decode b_Bu_print 87 = .ok (.invokevirtual 181, 3) := by decide +kernel
theorem d_Bu_print_90 : decode b_Bu_print 90 = .ok (.aload_n 0, 1) := by decide +kernel
theorem d_Bu_print_91 : decode b_Bu_print 91 = .ok (.aload_n 0, 1) := by decide +kernel
theorem d_Bu_print_92 : decode b_Bu_print 92 = .ok (.getfield 25, 3) := by decide +kernel
theorem d_Bu_print_95 : decode b_Bu_print 95 = .ok (.getfield 184, 3) := by decide +kernel
theorem d_Bu_print_98 : decode b_Bu_print 98 = .ok (.aload_n 0, 1) := by decide +kernel
theorem d_Bu_print_99 : decode b_Bu_print 99 = .ok (.getfield 25, 3) := by decide +kernel
theorem d_Bu_print_102 : decode b_Bu_print 102 = .ok (.getfield 187, 3) := by decide +kernel
theorem d_Bu_print_105 : decode b_Bu_print 105 = .ok (.invokevirtual 177, 3) := by decide +kernel
theorem d_Bu_print_108 : decode b_Bu_print 108 = .ok (.iinc 1 1, 3) := by decide +kernel
theorem d_Bu_print_111 : decode b_Bu_print 111 = .ok (.goto (-109), 3) := by decide +kernel
theorem d_Bu_print_114 : decode b_Bu_print 114 = .ok (.aload_n 0, 1) := by decide +kernel
theorem d_Bu_print_115 : decode b_Bu_print 115 = .ok (.bipush 10, 2) := by decide +kernel
theorem d_Bu_print_117 : decode b_Bu_print 117 = .ok (.invokevirtual 170, 3) := by decide +kernel
theorem d_Bu_print_120 : decode b_Bu_print 120 = .ok (.return_, 1) := by decide +kernel
theorem kw_1503 : Cond.fieldLink R_Bu 173 "LuaMachine$Row" "kinds" "[B" ∈ wA := kinm (show _ ∈ tables_1 from (List.mem_append_right _ (List.mem_append_left _ (List.mem_of_getElem? (l := tables_1_2) (i := 26) (by decide +kernel))))) (by decide +kernel)
theorem kw_1504 : Cond.fieldLink R_Bu 176 "LuaMachine$Row" "values" "[J" ∈ wA := kinm (show _ ∈ tables_1 from (List.mem_append_right _ (List.mem_append_left _ (List.mem_of_getElem? (l := tables_1_2) (i := 32) (by decide +kernel))))) (by decide +kernel)
theorem kw_1505 : Cond.methodLink R_Bu 181 y_Bu_describe ∈ wA := kinm (show _ ∈ tables_1 from (List.mem_append_right _ (List.mem_append_right _ (List.mem_append_right _ (List.mem_append_right _ (List.mem_append_right _ (List.mem_append_right _ (List.mem_append_right _ (List.mem_append_left _ (List.mem_of_getElem? (l := tables_1_8) (i := 9) (by decide +kernel))))))))))) (by decide +kernel)
theorem kw_1506 : Cond.fieldLink R_Bu 184 "LuaMachine$Heap" "work" "[B" ∈ wA := kinm (show _ ∈ tables_1 from (List.mem_append_left _ (List.mem_of_getElem? (l := tables_1_1) (i := 155) (by decide +kernel)))) (by decide +kernel)
theorem kw_1507 : Cond.methodLink R_Bu 177 y_Bu_printBytes ∈ wA := kinm (show _ ∈ tables_1 from (List.mem_append_right _ (List.mem_append_right _ (List.mem_append_right _ (List.mem_append_right _ (List.mem_append_right _ (List.mem_append_right _ (List.mem_append_right _ (List.mem_append_left _ (List.mem_of_getElem? (l := tables_1_8) (i := 3) (by decide +kernel))))))))))) (by decide +kernel)
theorem kw_1508 : Cond.methodLink R_Bu 170 y_Bu_printByte ∈ wA := kinm (show _ ∈ tables_1 from (List.mem_append_right _ (List.mem_append_right _ (List.mem_append_right _ (List.mem_append_right _ (List.mem_append_right _ (List.mem_append_right _ (List.mem_append_left _ (List.mem_of_getElem? (l := tables_1_7) (i := 239) (by decide +kernel)))))))))) (by decide +kernel)
theorem kw_1509 : Cond.instanceMethod y_Bu_print ∈ wA := kinm (show _ ∈ tables_1 from (List.mem_append_right _ (List.mem_append_right _ (List.mem_append_right _ (List.mem_append_right _ (List.mem_append_right _ (List.mem_append_right _ (List.mem_append_left _ (List.mem_of_getElem? (l := tables_1_7) (i := 237) (by decide +kernel)))))))))) (by decide +kernel)
theorem kw_1510 : Cond.selects R_Bu y_Bu_print y_Bu_print ∈ wA := kinp 65 (by decide +kernel) (by decide +kernel)
theorem cv_Bu_print : CV y_Bu_print b_Bu_print 3 none 0 := ⟨kw_1509, kw_1510, kw_950, k_Bu_print, by decide +kernel⟩
theorem j_Bu_print_j108 {X : Cx} {q0 q : PL} (g : Gd X y_Bu_print b_Bu_print 3 none 7 195 R_Bu) {o : ((Int32 × (Nat × Nat)) ⊕ (((Nat × Nat)))) × S1} (hR : (Sum.elim (fun y : Int32 × (Nat × Nat) => ∀ q : PL, Exq (xP X) [118, 154] q0 q → Rmq (xP X) q y.2 → ∀ ls : Array Slot, lv_has ls 3 [(0, .ref (q.1 130 0)), (1, .int y.1)] → WW X q o.2 2 ls []) (fun y : (Nat × Nat) => ∀ q : PL, Exq (xP X) [118, 154] q0 q → Rmq (xP X) q y → ∀ ls : Array Slot, lv_has ls 3 [(0, .ref (q.1 130 0))] → WW X q o.2 114 ls []) o.1)) (hx0 : Exq (xP X) [118, 154] q0 q) (l1 : Int32) (ln : Nat × Nat) (hm : Rmq (xP X) q ln) (s : S1) (ls : Array Slot) (hl : lv_has ls 3 [(0, .ref (q.1 130 0)), (1, .int l1)]) (h : M_Bu_print_j108 l1 ln s = some o) : WW X q s 108 ls [] := by
  unfold M_Bu_print_j108 at h
  refine ww_iinc (pc := 108) g.1 (v := l1 + 1) (lv' := [(1, .int (l1 + 1)), (0, .ref (q.1 130 0))]) d_Bu_print_108 hl (k := 1) rfl (by rfl) (by decide) rfl fun ls hl => ?_
  refine ww_goto (pc := 111) (tgt := 2) g.1 d_Bu_print_111 (by decide) ?_
  rw [oR_eq h] at hR
  exact hR q hx0 hm ls (lv_sub hl [1, 0] rfl)

theorem j_Bu_print_j23 {X : Cx} {q0 q : PL} (g : Gd X y_Bu_print b_Bu_print 3 none 7 195 R_Bu) {o : ((Int32 × (Nat × Nat)) ⊕ (((Nat × Nat)))) × S1} (hR : (Sum.elim (fun y : Int32 × (Nat × Nat) => ∀ q : PL, Exq (xP X) [118, 154] q0 q → Rmq (xP X) q y.2 → ∀ ls : Array Slot, lv_has ls 3 [(0, .ref (q.1 130 0)), (1, .int y.1)] → WW X q o.2 2 ls []) (fun y : (Nat × Nat) => ∀ q : PL, Exq (xP X) [118, 154] q0 q → Rmq (xP X) q y → ∀ ls : Array Slot, lv_has ls 3 [(0, .ref (q.1 130 0))] → WW X q o.2 114 ls []) o.1)) (hx0 : Exq (xP X) [118, 154] q0 q) (l1 : Int32) (ln : Nat × Nat) (hm : Rmq (xP X) q ln) (s : S1) (ls : Array Slot) (hl : lv_has ls 3 [(0, .ref (q.1 130 0)), (1, .int l1)]) (h : M_Bu_print_j23 l1 ln s = some o) : WW X q s 23 ls [] := by
  unfold M_Bu_print_j23 at h
  refine ww_aload_n (pc := 23) g.1 d_Bu_print_23 rfl (lv_at hl 0 rfl) ?_
  refine ww_gR (pc := 24) g (k := 5) cl_Bu (pz rfl (by decide)) (by decide) (Or.inl kw_976) (f := 16645) (t := 132) rfl rfl rfl d_Bu_print_24 ?_
  refine ww_gR (pc := 27) g (k := 0) (cl_Ro ⟨by decide, rfl⟩) (pz rfl (by decide)) (by decide) (Or.inl kw_1503) (f := 16896) (t := 133) rfl rfl rfl d_Bu_print_27 ?_
  refine ww_iload_n (pc := 30) g.1 d_Bu_print_30 rfl (lv_at hl 1 rfl) ?_
  refine ww_ab (pc := 31) g (pz rfl (by decide)) rfl rfl d_Bu_print_31 h fun v31 h => ?_
  refine ww_iconst (pc := 32) g.1 (v := 4) d_Bu_print_32 (by decide) ?_
  refine ww_icmp_ne (pc := 33) (tgt := 68) g.1 d_Bu_print_33 (by decide) h (fun c h => ?_) (fun c h => ?_)
  · refine ww_aload_n (pc := 68) g.1 d_Bu_print_68 rfl (lv_at hl 0 rfl) ?_
    refine ww_aload_n (pc := 69) g.1 d_Bu_print_69 rfl (lv_at hl 0 rfl) ?_
    refine ww_gR (pc := 70) g (k := 5) cl_Bu (pz rfl (by decide)) (by decide) (Or.inl kw_976) (f := 16645) (t := 132) rfl rfl rfl d_Bu_print_70 ?_
    refine ww_gR (pc := 73) g (k := 0) (cl_Ro ⟨by decide, rfl⟩) (pz rfl (by decide)) (by decide) (Or.inl kw_1503) (f := 16896) (t := 133) rfl rfl rfl d_Bu_print_73 ?_
    refine ww_iload_n (pc := 76) g.1 d_Bu_print_76 rfl (lv_at hl 1 rfl) ?_
    refine ww_ab (pc := 77) g (pz rfl (by decide)) rfl rfl d_Bu_print_77 h fun v77 h => ?_
    refine ww_aload_n (pc := 78) g.1 d_Bu_print_78 rfl (lv_at hl 0 rfl) ?_
    refine ww_gR (pc := 79) g (k := 5) cl_Bu (pz rfl (by decide)) (by decide) (Or.inl kw_976) (f := 16645) (t := 132) rfl rfl rfl d_Bu_print_79 ?_
    refine ww_gR (pc := 82) g (k := 1) (cl_Ro ⟨by decide, rfl⟩) (pz rfl (by decide)) (by decide) (Or.inl kw_1504) (f := 16897) (t := 134) rfl rfl rfl d_Bu_print_82 ?_
    refine ww_iload_n (pc := 85) g.1 d_Bu_print_85 rfl (lv_at hl 1 rfl) ?_
    refine ww_al (pc := 86) g (pz rfl (by decide)) rfl rfl d_Bu_print_86 h fun v86 h => ?_
    refine ww_lo fun dlo => ?_
    obtain ⟨v87, s, hc87, h⟩ := oB_of h
    refine ww_callVX (pc := 87) (rest := []) g cv_Bu_describe (Or.inl kw_1505) cl_Bu (pz rfl (by decide)) (ct_Bu_describe hm hc87) ⟨by decide, by decide⟩ rfl hl.1 (Nat.le_of_ble_eq_true rfl) d_Bu_print_87 rfl (fun q87 hE hm => ?_)
    have ex87_0 : q87.1 130 0 = q.1 130 0 := hE _ _ (by decide) (dlo _ _ (pz rfl (by decide)))
    have hl : lv_has ls 3 [(0, .ref (q87.1 130 0)), (1, .int l1)] := by rw [ex87_0]; exact hl
    refine ww_st (st' := []) (by rfl) ?_
    have hx0 : Exq (xP X) [118, 154] _ q87 := hx0.tr (hE.sub (by decide))
    refine ww_aload_n (pc := 90) g.1 d_Bu_print_90 rfl (lv_at hl 0 rfl) ?_
    refine ww_aload_n (pc := 91) g.1 d_Bu_print_91 rfl (lv_at hl 0 rfl) ?_
    refine ww_gR (pc := 92) g (k := 3) cl_Bu (pz rfl (by decide)) (by decide) (Or.inl kw_974) (f := 16643) (t := 111) rfl rfl rfl d_Bu_print_92 ?_
    refine ww_gR (pc := 95) g (k := 8) cl_He (pz rfl (by decide)) (by decide) (Or.inl kw_1506) (f := 14216) (t := 118) rfl rfl rfl d_Bu_print_95 ?_
    refine ww_aload_n (pc := 98) g.1 d_Bu_print_98 rfl (lv_at hl 0 rfl) ?_
    refine ww_gR (pc := 99) g (k := 3) cl_Bu (pz rfl (by decide)) (by decide) (Or.inl kw_974) (f := 16643) (t := 111) rfl rfl rfl d_Bu_print_99 ?_
    refine ww_gI (pc := 102) g (k := 9) cl_He (pz rfl (by decide)) (by decide) (Or.inl kw_1493) (f := 14217) rfl rfl d_Bu_print_102 h fun v102 h => ?_
    obtain ⟨v105, s, hc105, h⟩ := oB_of h
    refine ww_callV (pc := 105) (rest := []) g cv_Bu_printBytes (Or.inl kw_1507) cl_Bu (pz rfl (by decide)) (ct_Bu_printBytes rfl (by decide) (pz rfl (by decide)) hc105) ⟨by decide, by decide⟩ rfl hl.1 (Nat.le_of_ble_eq_true rfl) d_Bu_print_105 rfl (?_)
    refine ww_st (st' := []) rfl ?_
    exact j_Bu_print_j108 g hR hx0 l1 v87.2 hm s ls (lv_sub hl [0, 1] rfl) h
  · refine ww_aload_n (pc := 36) g.1 d_Bu_print_36 rfl (lv_at hl 0 rfl) ?_
    refine ww_gR (pc := 37) g (k := 3) cl_Bu (pz rfl (by decide)) (by decide) (Or.inl kw_974) (f := 16643) (t := 111) rfl rfl rfl d_Bu_print_37 ?_
    refine ww_gR (pc := 40) g (k := 0) cl_He (pz rfl (by decide)) (by decide) (Or.inl kw_975) (f := 14208) (t := 112) rfl rfl rfl d_Bu_print_40 ?_
    refine ww_aload_n (pc := 43) g.1 d_Bu_print_43 rfl (lv_at hl 0 rfl) ?_
    refine ww_gR (pc := 44) g (k := 5) cl_Bu (pz rfl (by decide)) (by decide) (Or.inl kw_976) (f := 16645) (t := 132) rfl rfl rfl d_Bu_print_44 ?_
    refine ww_gR (pc := 47) g (k := 1) (cl_Ro ⟨by decide, rfl⟩) (pz rfl (by decide)) (by decide) (Or.inl kw_1504) (f := 16897) (t := 134) rfl rfl rfl d_Bu_print_47 ?_
    refine ww_iload_n (pc := 50) g.1 d_Bu_print_50 rfl (lv_at hl 1 rfl) ?_
    refine ww_al (pc := 51) g (pz rfl (by decide)) rfl rfl d_Bu_print_51 h fun v51 h => ?_
    refine ww_l2i (pc := 52) g.1 (v := v51.toInt32) d_Bu_print_52 rfl ?_
    refine ww_a8 (pc := 53) g (t := 145) (n := 4000) (pz rfl (by decide)) rfl rfl rfl rfl d_Bu_print_53 h fun pa53 h => ?_
    refine ww_g5 (pc := 54) g (k := 9) cl_Tg pa53 (by decide) (Or.inl kw_978) (f := 18569) (t := 146) (f2 := 18815) rfl rfl rfl rfl d_Bu_print_54 h fun v54 hv54 h => ?_
    refine ww_ok h fun cv54 h => ?_
    refine ww_dn cv54 ?_
    have pd54 : prs s 146 v51.toInt32 := pdn (hv54 ▸ cv54) pa53.2.1 pa53.2.2
    refine ww_astore_n (pc := 57) (i := 2) g.1 (lv' := [(2, .ref (q.1 146 v51.toInt32)), (0, .ref (q.1 130 0)), (1, .int l1)]) d_Bu_print_57 rfl hl (by decide) rfl fun ls hl => ?_
    refine ww_aload_n (pc := 58) g.1 d_Bu_print_58 rfl (lv_at hl 1 rfl) ?_
    refine ww_aload_n (pc := 59) g.1 d_Bu_print_59 rfl (lv_at hl 0 rfl) ?_
    refine ww_aload_n (pc := 60) g.1 d_Bu_print_60 rfl (lv_at hl 0 rfl) ?_
    refine ww_ln pd54 h fun n61 hmn61 hnn61 h => ?_
    refine ww_alen (pc := 61) g (n := n61) pd54 (by decide) hmn61 d_Bu_print_61 ?_
    refine ww_lo fun dlo => ?_
    obtain ⟨v62, s, hc62, h⟩ := oB_of h
    refine ww_callV (pc := 62) (rest := []) g cv_Bu_printBytes (Or.inl kw_1507) cl_Bu (pz rfl (by decide)) (ct_Bu_printBytes rfl (by decide) pd54 hc62) ⟨by decide, by decide⟩ rfl hl.1 (Nat.le_of_ble_eq_true rfl) d_Bu_print_62 rfl (?_)
    refine ww_st (st' := []) rfl ?_
    refine ww_hi fun dhi => ?_
    have pd54 : prs s 146 v51.toInt32 := dhi _ _ pd54.2.1 pd54.2.2 (dlo _ _ pd54)
    refine ww_goto (pc := 65) (tgt := 108) g.1 d_Bu_print_65 (by decide) ?_
    exact j_Bu_print_j108 g hR hx0 l1 ln hm s ls (lv_sub hl [1, 2] rfl) h

theorem lp_Bu_print_L2 {X : Cx} {q0 : PL} (g : Gd X y_Bu_print b_Bu_print 3 none 7 195 R_Bu) (x : Int32 × (Nat × Nat)) (s : S1) (o : ((Int32 × (Nat × Nat)) ⊕ (((Nat × Nat)))) × S1) (h : M_Bu_print_L2 x s = some o) (hR : (Sum.elim (fun y : Int32 × (Nat × Nat) => ∀ q : PL, Exq (xP X) [118, 154] q0 q → Rmq (xP X) q y.2 → ∀ ls : Array Slot, lv_has ls 3 [(0, .ref (q.1 130 0)), (1, .int y.1)] → WW X q o.2 2 ls []) (fun y : (Nat × Nat) => ∀ q : PL, Exq (xP X) [118, 154] q0 q → Rmq (xP X) q y → ∀ ls : Array Slot, lv_has ls 3 [(0, .ref (q.1 130 0))] → WW X q o.2 114 ls []) o.1)) : ∀ q : PL, Exq (xP X) [118, 154] q0 q → Rmq (xP X) q x.2 → ∀ ls : Array Slot, lv_has ls 3 [(0, .ref (q.1 130 0)), (1, .int x.1)] → WW X q s 2 ls [] := by
  intro q hx0 hm ls hl
  unfold M_Bu_print_L2 at h
  refine ww_iload_n (pc := 2) g.1 d_Bu_print_2 rfl (lv_at hl 1 rfl) ?_
  refine ww_aload_n (pc := 3) g.1 d_Bu_print_3 rfl (lv_at hl 0 rfl) ?_
  refine ww_gR (pc := 4) g (k := 5) cl_Bu (pz rfl (by decide)) (by decide) (Or.inl kw_976) (f := 16645) (t := 132) rfl rfl rfl d_Bu_print_4 ?_
  refine ww_gI (pc := 7) g (k := 2) (cl_Ro ⟨by decide, rfl⟩) (pz rfl (by decide)) (by decide) (Or.inl kw_1177) (f := 16898) rfl rfl d_Bu_print_7 h fun v7 h => ?_
  refine ww_icmp_ge (pc := 10) (tgt := 114) g.1 d_Bu_print_10 (by decide) h (fun c h => ?_) (fun c h => ?_)
  · rw [oR_eq h] at hR
    exact hR q hx0 hm ls (lv_sub hl [0] rfl)
  · refine ww_iload_n (pc := 13) g.1 d_Bu_print_13 rfl (lv_at hl 1 rfl) ?_
    refine ww_if_le (pc := 14) (tgt := 23) g.1 d_Bu_print_14 (by decide) h (fun c h => ?_) (fun c h => ?_)
    · exact j_Bu_print_j23 g hR hx0 x.1 x.2 hm s ls (lv_sub hl [0, 1] rfl) h
    · refine ww_aload_n (pc := 17) g.1 d_Bu_print_17 rfl (lv_at hl 0 rfl) ?_
      refine ww_bipush (pc := 18) g.1 (v := 9) d_Bu_print_18 (by decide) ?_
      obtain ⟨v20, s, hc20, h⟩ := oB_of h
      refine ww_callV (pc := 20) (rest := []) g cv_Bu_printByte (Or.inl kw_1508) cl_Bu (pz rfl (by decide)) (ct_Bu_printByte hc20) ⟨by decide, by decide⟩ rfl hl.1 (Nat.le_of_ble_eq_true rfl) d_Bu_print_20 rfl (?_)
      refine ww_st (st' := []) rfl ?_
      exact j_Bu_print_j23 g hR hx0 x.1 x.2 hm s ls (lv_sub hl [0, 1] rfl) h

theorem ct_Bu_print {l : Launch} {P : PP} {q : PL} {s s' : S1} {n0 n1 : Nat × Nat}  {r : Unit} (hm : Rmq P q n0) (h : M_Bu_print n0 s = some ((r, n1), s')) : CtX l y_Bu_print b_Bu_print 3 none 7 195 P [118, 154] q s [.ref (q.1 130 0)] (fun _ => none) n1 s' := by
  refine ctX_of (by decide) (Nat.le_of_ble_eq_true rfl) fun X ls eP el g hR hl => ?_
  subst eP
  obtain ⟨q0, hq0⟩ : ∃ q0 : PL, q0 = q := ⟨q, rfl⟩
  have hx0 : Exq (xP X) [118, 154] q0 q := hq0 ▸ Exq.rf
  rw [← hq0] at hR
  have hR : RtX X [118, 154] q0 (((r, n1), s') : (Unit × (Nat × Nat)) × S1).1.2 (((r, n1), s') : (Unit × (Nat × Nat)) × S1).2 (fun _ => none) := hR
  have hl : lv_has ls 3 [(0, .ref (q.1 130 0))] := hl
  generalize ((r, n1), s') = o at h hR
  unfold M_Bu_print at h
  refine ww_iconst (pc := 0) g.1 (v := 0) d_Bu_print_0 (by decide) ?_
  refine ww_istore_n (pc := 1) (i := 1) g.1 (lv' := [(1, .int 0), (0, .ref (q.1 130 0))]) d_Bu_print_1 rfl hl (by decide) rfl fun ls hl => ?_
  obtain ⟨e2, s1, hw, h⟩ := oB_of h
  refine oW_rule (Wh := fun (x : Int32 × (Nat × Nat)) (s : S1) => ∀ q : PL, Exq (xP X) [118, 154] q0 q → Rmq (xP X) q x.2 → ∀ ls : Array Slot, lv_has ls 3 [(0, .ref (q.1 130 0)), (1, .int x.1)] → WW X q s 2 ls []) (We := fun (e : ((Nat × Nat))) (s : S1) => ∀ q : PL, Exq (xP X) [118, 154] q0 q → Rmq (xP X) q e → ∀ ls : Array Slot, lv_has ls 3 [(0, .ref (q.1 130 0))] → WW X q s 114 ls []) (fun x s o hb hc => lp_Bu_print_L2 (q0 := q0) g x s o hb hc) hw ?_ q hx0 hm ls (lv_sub hl [1, 0] rfl)
  clear hw hl hx0 hm
  clear ls
  intro qL2 hx0 hm ls hl
  generalize s1 = s at h ⊢
  refine ww_aload_n (pc := 114) g.1 d_Bu_print_114 rfl (lv_at hl 0 rfl) ?_
  refine ww_bipush (pc := 115) g.1 (v := 10) d_Bu_print_115 (by decide) ?_
  obtain ⟨v117, s, hc117, h⟩ := oB_of h
  refine ww_callV (pc := 117) (rest := []) g cv_Bu_printByte (Or.inl kw_1508) cl_Bu (pz rfl (by decide)) (ct_Bu_printByte hc117) ⟨by decide, by decide⟩ rfl hl.1 (Nat.le_of_ble_eq_true rfl) d_Bu_print_117 rfl (?_)
  refine ww_st (st' := []) rfl ?_
  exact ww_vretX (pc := 120) g h hR hx0 hm d_Bu_print_120

abbrev b_He_intern : ByteArray := prog_6_method_10_code
def y_He_intern : MethodName := ⟨R_He, "intern", "([BII)I"⟩
abbrev w_He_intern : List Cond := .code y_He_intern b_He_intern 8 (some .int) :: wA
set_option maxRecDepth 20000 in
theorem k_He_intern : Cond.code y_He_intern b_He_intern 8 (some .int) ∈ wA := kinm (show _ ∈ tables_1 from (List.mem_append_right _ (List.mem_append_right _ (List.mem_append_right _ (List.mem_append_right _ (List.mem_append_right _ (List.mem_append_left _ (List.mem_of_getElem? (l := tables_1_6) (i := 12) rfl)))))))) rfl
theorem d_He_intern_0 : decode b_He_intern 0 = .ok (.iload_n 3, 1) := by decide +kernel
theorem d_He_intern_1 : decode b_He_intern 1 = .ok (.ldc 67, 2) := by decide +kernel
theorem d_He_intern_3 : decode b_He_intern 3 = .ok (.if_icmp .le 6, 3) := by decide +kernel
theorem d_He_intern_6 : decode b_He_intern 6 = .ok (.bipush (-11), 2) := by decide +kernel
theorem d_He_intern_8 : decode b_He_intern 8 = .ok (.ireturn, 1) := by decide +kernel
theorem d_He_intern_9 : decode b_He_intern 9 = .ok (.iload_n 3, 1) := by decide +kernel
theorem d_He_intern_10 : decode b_He_intern 10 = .ok (.istore 4, 2) := by decide +kernel
theorem d_He_intern_12 : decode b_He_intern 12 = .ok (.iconst 0, 1) := by decide +kernel
theorem d_He_intern_13 : decode b_He_intern 13 = .ok (.istore 5, 2) := by decide +kernel
theorem d_He_intern_15 : decode b_He_intern 15 = .ok (.iload 5, 2) := by decide +kernel
theorem d_He_intern_17 : decode b_He_intern 17 = .ok (.iload_n 3, 1) := by decide +kernel
theorem d_He_intern_18 : decode b_He_intern 18 = .ok (.if_icmp .ge 23, 3) := by decide +kernel
theorem d_He_intern_21 : decode b_He_intern 21 = .ok (.iload 4, 2) := by decide +kernel
theorem d_He_intern_23 : decode b_He_intern 23 = .ok (.bipush 31, 2) := by decide +kernel
theorem d_He_intern_25 : decode b_He_intern 25 = .ok (.imul, 1) := by decide +kernel
theorem d_He_intern_26 : decode b_He_intern 26 = .ok (.aload_n 1, 1) := by decide +kernel
theorem d_He_intern_27 : decode b_He_intern 27 = .ok (.iload_n 2, 1) := by decide +kernel
theorem d_He_intern_28 : decode b_He_intern 28 = .ok (.iload 5, 2) := by decide +kernel
theorem d_He_intern_30 : decode b_He_intern 30 = .ok (.iadd, 1) := by decide +kernel
theorem d_He_intern_31 : decode b_He_intern 31 = .ok (.baload, 1) := by decide +kernel
theorem d_He_intern_32 : decode b_He_intern 32 = .ok (.iadd, 1) := by decide +kernel
theorem d_He_intern_33 : decode b_He_intern 33 = .ok (.istore 4, 2) := by decide +kernel
theorem d_He_intern_35 : decode b_He_intern 35 = .ok (.iinc 5 1, 3) := by decide +kernel
theorem d_He_intern_38 : decode b_He_intern 38 = .ok (.goto (-23), 3) := by decide +kernel
theorem d_He_intern_41 : decode b_He_intern 41 = .ok (.iload 4, 2) := by decide +kernel
theorem d_He_intern_43 : decode b_He_intern 43 = .ok (.iload 4, 2) := by decide +kernel
theorem d_He_intern_45 : decode b_He_intern 45 = .ok (.bipush 15, 2) := by decide +kernel
theorem d_He_intern_47 : decode b_He_intern 47 = .ok (.iushr, 1) := by decide +kernel
theorem d_He_intern_48 : decode b_He_intern 48 = .ok (.ixor, 1) := by decide +kernel
theorem d_He_intern_49 : decode b_He_intern 49 = .ok (.sipush 4095, 3) := by decide +kernel
theorem d_He_intern_52 : decode b_He_intern 52 = .ok (.iand, 1) := by decide +kernel
theorem d_He_intern_53 : decode b_He_intern 53 = .ok (.istore 5, 2) := by decide +kernel
theorem d_He_intern_55 : decode b_He_intern 55 = .ok (.aload_n 0, 1) := by decide +kernel
theorem d_He_intern_56 : decode b_He_intern 56 = .ok (.getfield 33, 3) := by decide +kernel
theorem d_He_intern_59 : decode b_He_intern 59 = .ok (.iload 5, 2) := by decide +kernel
theorem d_He_intern_61 : decode b_He_intern 61 = .ok (.iaload, 1) := by decide +kernel
theorem d_He_intern_62 : decode b_He_intern 62 = .ok (.istore 6, 2) := by decide +kernel
theorem d_He_intern_64 : decode b_He_intern 64 = .ok (.iconst 0, 1) := by decide +kernel
theorem d_He_intern_65 : decode b_He_intern 65 = .ok (.istore 7, 2) := by decide +kernel
theorem d_He_intern_67 : decode b_He_intern 67 = .ok (.iload 6, 2) := by decide +kernel
theorem d_He_intern_69 : decode b_He_intern 69 = .ok (.ifCond .lt 66, 3) := by decide +kernel
theorem d_He_intern_72 : decode b_He_intern 72 = .ok (.iload 7, 2) := by decide +kernel
theorem d_He_intern_74 : decode b_He_intern 74 = .ok (.sipush 4000, 3) := by decide +kernel
theorem d_He_intern_77 : decode b_He_intern 77 = .ok (.if_icmp .ge 58, 3) := by decide +kernel
theorem d_He_intern_80 : decode b_He_intern 80 = .ok (.aload_n 0, 1) := by decide +kernel
theorem d_He_intern_81 : decode b_He_intern 81 = .ok (.getfield 11, 3) := by decide +kernel
theorem d_He_intern_84 : decode b_He_intern 84 = .ok (.iload 6, 2) := by decide +kernel
theorem d_He_intern_86 : decode b_He_intern 86 = .ok (.aaload, 1) := by decide +kernel
theorem d_He_intern_87 : decode b_He_intern 87 = .ok (.getfield 119, 3) := by decide +kernel
theorem d_He_intern_90 : decode b_He_intern 90 = .ok (.iload 4, 2) := by decide +kernel
theorem d_He_intern_92 : decode b_He_intern 92 = .ok (.if_icmp .ne 25, 3) := by decide +kernel
theorem d_He_intern_95 : decode b_He_intern 95 = .ok (.aload_n 0, 1) := by decide +kernel
theorem d_He_intern_96 : decode b_He_intern 96 = .ok (.getfield 11, 3) := by decide +kernel
theorem d_He_intern_99 : decode b_He_intern 99 = .ok (.iload 6, 2) := by decide +kernel
theorem d_He_intern_101 : decode b_He_intern 101 = .ok (.aaload, 1) := by decide +kernel
theorem d_He_intern_102 : decode b_He_intern 102 = .ok (.getfield 122, 3) := by decide +kernel
theorem d_He_intern_105 : decode b_He_intern 105 = .ok (.aload_n 1, 1) := by decide +kernel
theorem d_He_intern_106 : decode b_He_intern 106 = .ok (.iload_n 2, 1) := by decide +kernel
theorem d_He_intern_107 : decode b_He_intern 107 = .ok (.iload_n 3, 1) := by decide +kernel
theorem d_He_intern_108 : decode b_He_intern 108 = .ok (.invokestatic 125, 3) := by decide +kernel
theorem d_He_intern_111 : decode b_He_intern 111 = .ok (.ifCond .eq 6, 3) := by decide +kernel
theorem d_He_intern_114 : decode b_He_intern 114 = .ok (.iload 6, 2) := by decide +kernel
theorem d_He_intern_116 : decode b_He_intern 116 = .ok (.ireturn, 1) := by decide +kernel
theorem d_He_intern_117 : decode b_He_intern 117 = .ok (.aload_n 0, 1) := by decide +kernel
theorem d_He_intern_118 : decode b_He_intern 118 = .ok (.getfield 11, 3) := by decide +kernel
theorem d_He_intern_121 : decode b_He_intern 121 = .ok (.iload 6, 2) := by decide +kernel
theorem d_He_intern_123 : decode b_He_intern 123 = .ok (.aaload, 1) := by decide +kernel
theorem d_He_intern_124 : decode b_He_intern 124 = .ok (.getfield 129, 3) := by decide +kernel
theorem d_He_intern_127 : decode b_He_intern 127 = .ok (.istore 6, 2) := by decide +kernel
theorem d_He_intern_129 : decode b_He_intern 129 = .ok (.iinc 7 1, 3) := by decide +kernel
theorem d_He_intern_132 : decode b_He_intern 132 = .ok (.goto (-65), 3) := by decide +kernel
theorem d_He_intern_135 : decode b_He_intern 135 = .ok (.aload_n 0, 1) := by decide +kernel
theorem d_He_intern_136 : decode b_He_intern 136 = .ok (.iconst 4, 1) := by decide +kernel
theorem d_He_intern_137 : decode b_He_intern 137 = .ok (.iconst 0, 1) := by decide +kernel
theorem d_He_intern_138 : decode b_He_intern 138 = .ok (.iload_n 3, 1) := by decide +kernel
theorem d_He_intern_139 : decode b_He_intern 139 = .ok (.invokevirtual 93, 3) := by decide +kernel
theorem d_He_intern_142 : decode b_He_intern 142 = .ok (.istore 6, 2) := by decide +kernel
theorem d_He_intern_144 : decode b_He_intern 144 = .ok (.iload 6, 2) := by decide +kernel
theorem d_He_intern_146 : decode b_He_intern 146 = .ok (.ifCond .lt 53, 3) := by decide +kernel
theorem d_He_intern_149 : decode b_He_intern 149 = .ok (.aload_n 0, 1) := by decide +kernel
theorem d_He_intern_150 : decode b_He_intern 150 = .ok (.getfield 11, 3) := by decide +kernel
theorem d_He_intern_153 : decode b_He_intern 153 = .ok (.iload 6, 2) := by decide +kernel
theorem d_He_intern_155 : decode b_He_intern 155 = .ok (.aaload, 1) := by decide +kernel
theorem d_He_intern_156 : decode b_He_intern 156 = .ok (.astore 7, 2) := by decide +kernel
theorem d_He_intern_158 : decode b_He_intern 158 = .ok (.aload 7, 2) := by decide +kernel
theorem d_He_intern_160 : decode b_He_intern 160 = .ok (.aload_n 1, 1) := by decide +kernel
theorem d_He_intern_161 : decode b_He_intern 161 = .ok (.iload_n 2, 1) := by decide +kernel
theorem d_He_intern_162 : decode b_He_intern 162 = .ok (.iload_n 2, 1) := by decide +kernel
theorem d_He_intern_163 : decode b_He_intern 163 = .ok (.iload_n 3, 1) := by decide +kernel
theorem d_He_intern_164 : decode b_He_intern 164 = .ok (.iadd, 1) := by decide +kernel
theorem d_He_intern_165 : decode b_He_intern 165 = .ok (.invokestatic 132, 3) := by decide +kernel
theorem d_He_intern_168 : decode b_He_intern 168 = .ok (.putfield 122, 3) := by decide +kernel
theorem d_He_intern_171 : decode b_He_intern 171 = .ok (.aload 7, 2) := by decide +kernel
theorem d_He_intern_173 : decode b_He_intern 173 = .ok (.iload 4, 2) := by decide +kernel
theorem d_He_intern_175 : decode b_He_intern 175 = .ok (.putfield 119, 3) := by decide +kernel
theorem d_He_intern_178 : decode b_He_intern 178 = .ok (.aload 7, 2) := by decide +kernel
theorem d_He_intern_180 : decode b_He_intern 180 = .ok (.aload_n 0, 1) := by decide +kernel
theorem d_He_intern_181 : decode b_He_intern 181 = .ok (.getfield 33, 3) := by decide +kernel
theorem d_He_intern_184 : decode b_He_intern 184 = .ok (.iload 5, 2) := by decide +kernel
theorem d_He_intern_186 : decode b_He_intern 186 = .ok (.iaload, 1) := by decide +kernel
theorem d_He_intern_187 : decode b_He_intern 187 = .ok (.putfield 129, 3) := by decide +kernel
theorem d_He_intern_190 : decode b_He_intern 190 = .ok (.aload_n 0, 1) := by decide +kernel
theorem d_He_intern_191 : decode b_He_intern 191 = .ok (.getfield 33, 3) := by decide +kernel
theorem d_He_intern_194 : decode b_He_intern 194 = .ok (.iload 5, 2) := by decide +kernel
theorem d_He_intern_196 : decode b_He_intern 196 = .ok (.iload 6, 2) := by decide +kernel
theorem d_He_intern_198 : decode b_He_intern 198 = .ok (.iastore, 1) := by decide +kernel
theorem d_He_intern_199 : decode b_He_intern 199 = .ok (.iload 6, 2) := by decide +kernel
theorem d_He_intern_201 : decode b_He_intern 201 = .ok (.ireturn, 1) := by decide +kernel
theorem kw_1511 : Cond.fieldLink R_He 122 "LuaMachine$Thing" "bytes" "[B" ∈ wA := kinm (show _ ∈ tables_1 from (List.mem_append_right _ (List.mem_append_right _ (List.mem_append_right _ (List.mem_append_right _ (List.mem_append_left _ (List.mem_of_getElem? (l := tables_1_5) (i := 186) (by decide +kernel)))))))) (by decide +kernel)
theorem kw_1512 : Cond.methodLink R_He 125 y_He_isSame ∈ wA := kinm (show _ ∈ tables_1 from (List.mem_append_right _ (List.mem_append_right _ (List.mem_append_right _ (List.mem_append_right _ (List.mem_append_right _ (List.mem_append_left _ (List.mem_of_getElem? (l := tables_1_6) (i := 13) (by decide +kernel))))))))) (by decide +kernel)
theorem kw_1513 : Cond.methodLink R_He 132 y_Arr_copyOfRange ∈ wA := kinm (show _ ∈ tables_1 from (List.mem_append_right _ (List.mem_append_right _ (List.mem_append_right _ (List.mem_append_right _ (List.mem_append_right _ (List.mem_append_left _ (List.mem_of_getElem? (l := tables_1_6) (i := 17) (by decide +kernel))))))))) (by decide +kernel)
theorem kw_1514 : Cond.instanceMethod y_He_intern ∈ wA := kinm (show _ ∈ tables_1 from (List.mem_append_right _ (List.mem_append_right _ (List.mem_append_right _ (List.mem_append_right _ (List.mem_append_right _ (List.mem_append_left _ (List.mem_of_getElem? (l := tables_1_6) (i := 10) (by decide +kernel))))))))) (by decide +kernel)
theorem kw_1515 : Cond.selects R_He y_He_intern y_He_intern ∈ wA := kinm (show _ ∈ tables_1 from (List.mem_append_right _ (List.mem_append_right _ (List.mem_append_right _ (List.mem_append_right _ (List.mem_append_right _ (List.mem_append_left _ (List.mem_of_getElem? (l := tables_1_6) (i := 11) (by decide +kernel))))))))) (by decide +kernel)
theorem cv_He_intern : CV y_He_intern b_He_intern 8 (some .int) 3 := ⟨kw_1514, kw_1515, kw_712, k_He_intern, by decide +kernel⟩
theorem lp_He_intern_L15 {X : Cx} {q0 : PL} (g : Gd X y_He_intern b_He_intern 8 (some .int) 4 97 R_He) (x : Nat × Int32 × Int32 × Int32 × Int32 × Int32 × (Nat × Nat)) (s : S1) (o : ((Nat × Int32 × Int32 × Int32 × Int32 × Int32 × (Nat × Nat)) ⊕ ((Nat × Int32 × Int32 × Int32 × Int32 × (Nat × Nat)))) × S1) (h : M_He_intern_L15 x s = some o) (hR : (Sum.elim (fun y : Nat × Int32 × Int32 × Int32 × Int32 × Int32 × (Nat × Nat) => ∀ q : PL, Exq (xP X) [146, 154] q0 q → Rmq (xP X) q y.2.2.2.2.2.2 → ∀ ls : Array Slot, (rkF y.1 = 2) → (y.1 ≠ 154) → (prs o.2 y.1 y.2.1) → lv_has ls 8 [(0, .ref (q.1 111 0)), (1, .ref (q.1 y.1 y.2.1)), (2, .int y.2.2.1), (3, .int y.2.2.2.1), (4, .int y.2.2.2.2.1), (5, .int y.2.2.2.2.2.1)] → WW X q o.2 15 ls []) (fun y : Nat × Int32 × Int32 × Int32 × Int32 × (Nat × Nat) => ∀ q : PL, Exq (xP X) [146, 154] q0 q → Rmq (xP X) q y.2.2.2.2.2 → ∀ ls : Array Slot, (rkF y.1 = 2) → (y.1 ≠ 154) → (prs o.2 y.1 y.2.1) → lv_has ls 8 [(0, .ref (q.1 111 0)), (1, .ref (q.1 y.1 y.2.1)), (2, .int y.2.2.1), (3, .int y.2.2.2.1), (4, .int y.2.2.2.2.1)] → WW X q o.2 41 ls []) o.1)) : ∀ q : PL, Exq (xP X) [146, 154] q0 q → Rmq (xP X) q x.2.2.2.2.2.2 → ∀ ls : Array Slot, (rkF x.1 = 2) → (x.1 ≠ 154) → (prs s x.1 x.2.1) → lv_has ls 8 [(0, .ref (q.1 111 0)), (1, .ref (q.1 x.1 x.2.1)), (2, .int x.2.2.1), (3, .int x.2.2.2.1), (4, .int x.2.2.2.2.1), (5, .int x.2.2.2.2.2.1)] → WW X q s 15 ls [] := by
  intro q hx0 hm ls hp0 hp1 hp2 hl
  unfold M_He_intern_L15 at h
  refine ww_iload (pc := 15) g.1 d_He_intern_15 (lv_at hl 5 rfl) ?_
  refine ww_iload_n (pc := 17) g.1 d_He_intern_17 rfl (lv_at hl 3 rfl) ?_
  refine ww_icmp_ge (pc := 18) (tgt := 41) g.1 d_He_intern_18 (by decide) h (fun c h => ?_) (fun c h => ?_)
  · rw [oR_eq h] at hR
    exact hR q hx0 hm ls hp0 hp1 hp2 (lv_sub hl [0, 1, 2, 3, 4] rfl)
  · refine ww_iload (pc := 21) g.1 d_He_intern_21 (lv_at hl 4 rfl) ?_
    refine ww_bipush (pc := 23) g.1 (v := 31) d_He_intern_23 (by decide) ?_
    refine ww_imul (pc := 25) g.1 d_He_intern_25 ?_
    refine ww_aload_n (pc := 26) g.1 d_He_intern_26 rfl (lv_at hl 1 rfl) ?_
    refine ww_iload_n (pc := 27) g.1 d_He_intern_27 rfl (lv_at hl 2 rfl) ?_
    refine ww_iload (pc := 28) g.1 d_He_intern_28 (lv_at hl 5 rfl) ?_
    refine ww_iadd (pc := 30) g.1 d_He_intern_30 ?_
    refine ww_ln hp2 h fun n31 hmn31 hnn31 h => ?_
    refine ww_ab (pc := 31) g hp2 hp0 hnn31 d_He_intern_31 h fun v31 h => ?_
    refine ww_iadd (pc := 32) g.1 d_He_intern_32 ?_
    refine ww_leti h fun l4_33 h => ?_
    refine ww_istore (pc := 33) (i := 4) g.1 (lv' := [(4, .int l4_33), (0, .ref (q.1 111 0)), (1, .ref (q.1 x.1 x.2.1)), (2, .int x.2.2.1), (3, .int x.2.2.2.1), (5, .int x.2.2.2.2.2.1)]) d_He_intern_33 hl (by decide) rfl fun ls hl => ?_
    refine ww_iinc (pc := 35) g.1 (v := x.2.2.2.2.2.1 + 1) (lv' := [(5, .int (x.2.2.2.2.2.1 + 1)), (4, .int l4_33), (0, .ref (q.1 111 0)), (1, .ref (q.1 x.1 x.2.1)), (2, .int x.2.2.1), (3, .int x.2.2.2.1)]) d_He_intern_35 hl (k := 5) rfl (by rfl) (by decide) rfl fun ls hl => ?_
    refine ww_goto (pc := 38) (tgt := 15) g.1 d_He_intern_38 (by decide) ?_
    rw [oR_eq h] at hR
    exact hR q hx0 hm ls hp0 hp1 hp2 (lv_sub hl [2, 3, 4, 5, 1, 0] rfl)

theorem j_He_intern_j117 {X : Cx} {q0 q : PL} (g : Gd X y_He_intern b_He_intern 8 (some .int) 4 97 R_He) {o : ((Nat × Int32 × Int32 × Int32 × Int32 × Int32 × Int32 × Int32 × (Nat × Nat)) ⊕ ((Int32 × (Nat × Nat)) ⊕ (Nat × Int32 × Int32 × Int32 × Int32 × Int32 × (Nat × Nat)))) × S1} (hR : (Sum.elim (fun y : Nat × Int32 × Int32 × Int32 × Int32 × Int32 × Int32 × Int32 × (Nat × Nat) => ∀ q : PL, Exq (xP X) [146, 154] q0 q → Rmq (xP X) q y.2.2.2.2.2.2.2.2 → ∀ ls : Array Slot, (rkF y.1 = 2) → (y.1 ≠ 154) → (prs o.2 y.1 y.2.1) → lv_has ls 8 [(0, .ref (q.1 111 0)), (1, .ref (q.1 y.1 y.2.1)), (2, .int y.2.2.1), (3, .int y.2.2.2.1), (4, .int y.2.2.2.2.1), (5, .int y.2.2.2.2.2.1), (6, .int y.2.2.2.2.2.2.1), (7, .int y.2.2.2.2.2.2.2.1)] → WW X q o.2 67 ls []) (Sum.elim (fun y : Int32 × (Nat × Nat) => ∀ q : PL, Exq (xP X) [146, 154] q0 q → Rmq (xP X) q y.2 → ∀ ls : Array Slot, lv_has ls 8 [(6, .int y.1)] → WW X q o.2 114 ls []) (fun y : Nat × Int32 × Int32 × Int32 × Int32 × Int32 × (Nat × Nat) => ∀ q : PL, Exq (xP X) [146, 154] q0 q → Rmq (xP X) q y.2.2.2.2.2.2 → ∀ ls : Array Slot, (rkF y.1 = 2) → (y.1 ≠ 154) → (prs o.2 y.1 y.2.1) → lv_has ls 8 [(0, .ref (q.1 111 0)), (1, .ref (q.1 y.1 y.2.1)), (2, .int y.2.2.1), (3, .int y.2.2.2.1), (4, .int y.2.2.2.2.1), (5, .int y.2.2.2.2.2.1)] → WW X q o.2 135 ls [])) o.1)) (hx0 : Exq (xP X) [146, 154] q0 q) (l1r : Nat) (l1 : Int32) (l2 : Int32) (l3 : Int32) (l4 : Int32) (l5 : Int32) (l6 : Int32) (l7 : Int32) (ln : Nat × Nat) (hm : Rmq (xP X) q ln) (s : S1) (hp0 : rkF l1r = 2) (hp1 : l1r ≠ 154) (hp2 : prs s l1r l1) (ls : Array Slot) (hl : lv_has ls 8 [(0, .ref (q.1 111 0)), (1, .ref (q.1 l1r l1)), (2, .int l2), (3, .int l3), (4, .int l4), (5, .int l5), (6, .int l6), (7, .int l7)]) (h : M_He_intern_j117 l1r l1 l2 l3 l4 l5 l6 l7 ln s = some o) : WW X q s 117 ls [] := by
  unfold M_He_intern_j117 at h
  refine ww_aload_n (pc := 117) g.1 d_He_intern_117 rfl (lv_at hl 0 rfl) ?_
  refine ww_gR (pc := 118) g (k := 0) cl_He (pz rfl (by decide)) (by decide) (Or.inl kw_725) (f := 14208) (t := 112) rfl rfl rfl d_He_intern_118 ?_
  refine ww_iload (pc := 121) g.1 d_He_intern_121 (lv_at hl 6 rfl) ?_
  refine ww_a8 (pc := 123) g (t := 145) (n := 4000) (pz rfl (by decide)) rfl rfl rfl rfl d_He_intern_123 h fun pa123 h => ?_
  refine ww_gI (pc := 124) g (k := 5) cl_Tg pa123 (by decide) (Or.inl kw_744) (f := 18565) rfl rfl d_He_intern_124 h fun v124 h => ?_
  refine ww_istore (pc := 127) (i := 6) g.1 (lv' := [(6, .int v124), (0, .ref (q.1 111 0)), (1, .ref (q.1 l1r l1)), (2, .int l2), (3, .int l3), (4, .int l4), (5, .int l5), (7, .int l7)]) d_He_intern_127 hl (by decide) rfl fun ls hl => ?_
  refine ww_iinc (pc := 129) g.1 (v := l7 + 1) (lv' := [(7, .int (l7 + 1)), (6, .int v124), (0, .ref (q.1 111 0)), (1, .ref (q.1 l1r l1)), (2, .int l2), (3, .int l3), (4, .int l4), (5, .int l5)]) d_He_intern_129 hl (k := 7) rfl (by rfl) (by decide) rfl fun ls hl => ?_
  refine ww_goto (pc := 132) (tgt := 67) g.1 d_He_intern_132 (by decide) ?_
  rw [oR_eq h] at hR
  exact hR q hx0 hm ls hp0 hp1 hp2 (lv_sub hl [2, 3, 4, 5, 6, 7, 1, 0] rfl)

theorem lp_He_intern_L67 {X : Cx} {q0 : PL} (g : Gd X y_He_intern b_He_intern 8 (some .int) 4 97 R_He) (x : Nat × Int32 × Int32 × Int32 × Int32 × Int32 × Int32 × Int32 × (Nat × Nat)) (s : S1) (o : ((Nat × Int32 × Int32 × Int32 × Int32 × Int32 × Int32 × Int32 × (Nat × Nat)) ⊕ ((Int32 × (Nat × Nat)) ⊕ (Nat × Int32 × Int32 × Int32 × Int32 × Int32 × (Nat × Nat)))) × S1) (h : M_He_intern_L67 x s = some o) (hR : (Sum.elim (fun y : Nat × Int32 × Int32 × Int32 × Int32 × Int32 × Int32 × Int32 × (Nat × Nat) => ∀ q : PL, Exq (xP X) [146, 154] q0 q → Rmq (xP X) q y.2.2.2.2.2.2.2.2 → ∀ ls : Array Slot, (rkF y.1 = 2) → (y.1 ≠ 154) → (prs o.2 y.1 y.2.1) → lv_has ls 8 [(0, .ref (q.1 111 0)), (1, .ref (q.1 y.1 y.2.1)), (2, .int y.2.2.1), (3, .int y.2.2.2.1), (4, .int y.2.2.2.2.1), (5, .int y.2.2.2.2.2.1), (6, .int y.2.2.2.2.2.2.1), (7, .int y.2.2.2.2.2.2.2.1)] → WW X q o.2 67 ls []) (Sum.elim (fun y : Int32 × (Nat × Nat) => ∀ q : PL, Exq (xP X) [146, 154] q0 q → Rmq (xP X) q y.2 → ∀ ls : Array Slot, lv_has ls 8 [(6, .int y.1)] → WW X q o.2 114 ls []) (fun y : Nat × Int32 × Int32 × Int32 × Int32 × Int32 × (Nat × Nat) => ∀ q : PL, Exq (xP X) [146, 154] q0 q → Rmq (xP X) q y.2.2.2.2.2.2 → ∀ ls : Array Slot, (rkF y.1 = 2) → (y.1 ≠ 154) → (prs o.2 y.1 y.2.1) → lv_has ls 8 [(0, .ref (q.1 111 0)), (1, .ref (q.1 y.1 y.2.1)), (2, .int y.2.2.1), (3, .int y.2.2.2.1), (4, .int y.2.2.2.2.1), (5, .int y.2.2.2.2.2.1)] → WW X q o.2 135 ls [])) o.1)) : ∀ q : PL, Exq (xP X) [146, 154] q0 q → Rmq (xP X) q x.2.2.2.2.2.2.2.2 → ∀ ls : Array Slot, (rkF x.1 = 2) → (x.1 ≠ 154) → (prs s x.1 x.2.1) → lv_has ls 8 [(0, .ref (q.1 111 0)), (1, .ref (q.1 x.1 x.2.1)), (2, .int x.2.2.1), (3, .int x.2.2.2.1), (4, .int x.2.2.2.2.1), (5, .int x.2.2.2.2.2.1), (6, .int x.2.2.2.2.2.2.1), (7, .int x.2.2.2.2.2.2.2.1)] → WW X q s 67 ls [] := by
  intro q hx0 hm ls hp0 hp1 hp2 hl
  unfold M_He_intern_L67 at h
  refine ww_iload (pc := 67) g.1 d_He_intern_67 (lv_at hl 6 rfl) ?_
  refine ww_if_lt (pc := 69) (tgt := 135) g.1 d_He_intern_69 (by decide) h (fun c h => ?_) (fun c h => ?_)
  · rw [oR_eq h] at hR
    exact hR q hx0 hm ls hp0 hp1 hp2 (lv_sub hl [0, 1, 2, 3, 4, 5] rfl)
  · refine ww_iload (pc := 72) g.1 d_He_intern_72 (lv_at hl 7 rfl) ?_
    refine ww_sipush (pc := 74) g.1 (v := 4000) d_He_intern_74 (by decide) ?_
    refine ww_icmp_ge (pc := 77) (tgt := 135) g.1 d_He_intern_77 (by decide) h (fun c h => ?_) (fun c h => ?_)
    · rw [oR_eq h] at hR
      exact hR q hx0 hm ls hp0 hp1 hp2 (lv_sub hl [0, 1, 2, 3, 4, 5] rfl)
    · refine ww_aload_n (pc := 80) g.1 d_He_intern_80 rfl (lv_at hl 0 rfl) ?_
      refine ww_gR (pc := 81) g (k := 0) cl_He (pz rfl (by decide)) (by decide) (Or.inl kw_725) (f := 14208) (t := 112) rfl rfl rfl d_He_intern_81 ?_
      refine ww_iload (pc := 84) g.1 d_He_intern_84 (lv_at hl 6 rfl) ?_
      refine ww_a8 (pc := 86) g (t := 145) (n := 4000) (pz rfl (by decide)) rfl rfl rfl rfl d_He_intern_86 h fun pa86 h => ?_
      refine ww_gI (pc := 87) g (k := 6) cl_Tg pa86 (by decide) (Or.inl kw_762) (f := 18566) rfl rfl d_He_intern_87 h fun v87 h => ?_
      refine ww_iload (pc := 90) g.1 d_He_intern_90 (lv_at hl 4 rfl) ?_
      refine ww_icmp_ne (pc := 92) (tgt := 117) g.1 d_He_intern_92 (by decide) h (fun c h => ?_) (fun c h => ?_)
      · exact j_He_intern_j117 g hR hx0 x.1 x.2.1 x.2.2.1 x.2.2.2.1 x.2.2.2.2.1 x.2.2.2.2.2.1 x.2.2.2.2.2.2.1 x.2.2.2.2.2.2.2.1 x.2.2.2.2.2.2.2.2 hm s hp0 hp1 hp2 ls (lv_sub hl [0, 1, 2, 3, 4, 5, 6, 7] rfl) h
      · refine ww_aload_n (pc := 95) g.1 d_He_intern_95 rfl (lv_at hl 0 rfl) ?_
        refine ww_gR (pc := 96) g (k := 0) cl_He (pz rfl (by decide)) (by decide) (Or.inl kw_725) (f := 14208) (t := 112) rfl rfl rfl d_He_intern_96 ?_
        refine ww_iload (pc := 99) g.1 d_He_intern_99 (lv_at hl 6 rfl) ?_
        refine ww_a8 (pc := 101) g (t := 145) (n := 4000) (pz rfl (by decide)) rfl rfl rfl rfl d_He_intern_101 h fun pa101 h => ?_
        refine ww_g5 (pc := 102) g (k := 9) cl_Tg pa101 (by decide) (Or.inl kw_1511) (f := 18569) (t := 146) (f2 := 18815) rfl rfl rfl rfl d_He_intern_102 h fun v102 hv102 h => ?_
        refine ww_ok h fun cv102 h => ?_
        refine ww_dn cv102 ?_
        have pd102 : prs s 146 x.2.2.2.2.2.2.1 := pdn (hv102 ▸ cv102) pa101.2.1 pa101.2.2
        refine ww_aload_n (pc := 105) g.1 d_He_intern_105 rfl (lv_at hl 1 rfl) ?_
        refine ww_iload_n (pc := 106) g.1 d_He_intern_106 rfl (lv_at hl 2 rfl) ?_
        refine ww_iload_n (pc := 107) g.1 d_He_intern_107 rfl (lv_at hl 3 rfl) ?_
        refine ww_lo fun dlo => ?_
        obtain ⟨v108, s, hc108, h⟩ := oB_of h
        refine ww_callS (pc := 108) (rest := []) g cs_He_isSame (Or.inl kw_1512) (ct_He_isSame pd102 hp0 hp1 hp2 hc108) ⟨by decide, by decide⟩ rfl hl.1 (Nat.le_of_ble_eq_true rfl) d_He_intern_108 rfl (?_)
        refine ww_st (st' := [.int v108]) rfl ?_
        refine ww_hi fun dhi => ?_
        have hp2 : prs s x.1 x.2.1 := dhi _ _ hp2.2.1 hp2.2.2 (dlo _ _ hp2)
        refine ww_if_eq (pc := 111) (tgt := 117) g.1 d_He_intern_111 (by decide) h (fun c h => ?_) (fun c h => ?_)
        · exact j_He_intern_j117 g hR hx0 x.1 x.2.1 x.2.2.1 x.2.2.2.1 x.2.2.2.2.1 x.2.2.2.2.2.1 x.2.2.2.2.2.2.1 x.2.2.2.2.2.2.2.1 x.2.2.2.2.2.2.2.2 hm s hp0 hp1 hp2 ls (lv_sub hl [0, 1, 2, 3, 4, 5, 6, 7] rfl) h
        · rw [oR_eq h] at hR
          exact hR q hx0 hm ls (lv_sub hl [6] rfl)

theorem j_He_intern_j135 {X : Cx} {q0 q : PL} (g : Gd X y_He_intern b_He_intern 8 (some .int) 4 97 R_He) {o : (Int32 × (Nat × Nat)) × S1} (hR : RtX X [146, 154] q0 o.1.2 o.2 (fun _ => some (.int o.1.1))) (hx0 : Exq (xP X) [146, 154] q0 q) (l1r : Nat) (l1 : Int32) (l2 : Int32) (l3 : Int32) (l4 : Int32) (l5 : Int32) (ln : Nat × Nat) (hm : Rmq (xP X) q ln) (s : S1) (hp0 : rkF l1r = 2) (hp1 : l1r ≠ 154) (hp2 : prs s l1r l1) (ls : Array Slot) (hl : lv_has ls 8 [(0, .ref (q.1 111 0)), (1, .ref (q.1 l1r l1)), (2, .int l2), (3, .int l3), (4, .int l4), (5, .int l5)]) (h : M_He_intern_j135 l1r l1 l2 l3 l4 l5 ln s = some o) : WW X q s 135 ls [] := by
  unfold M_He_intern_j135 at h
  refine ww_aload_n (pc := 135) g.1 d_He_intern_135 rfl (lv_at hl 0 rfl) ?_
  refine ww_iconst (pc := 136) g.1 (v := 4) d_He_intern_136 (by decide) ?_
  refine ww_iconst (pc := 137) g.1 (v := 0) d_He_intern_137 (by decide) ?_
  refine ww_iload_n (pc := 138) g.1 d_He_intern_138 rfl (lv_at hl 3 rfl) ?_
  refine ww_lo fun dlo => ?_
  obtain ⟨v139, s, hc139, h⟩ := oB_of h
  refine ww_callVX (pc := 139) (rest := []) g cv_He_make (Or.inl kw_1357) cl_He (pz rfl (by decide)) (ct_He_make hm hc139) ⟨by decide, by decide⟩ rfl hl.1 (Nat.le_of_ble_eq_true rfl) d_He_intern_139 rfl (fun q139 hE hm => ?_)
  have ex139_0 : q139.1 111 0 = q.1 111 0 := hE _ _ (by decide) (dlo _ _ (pz rfl (by decide)))
  have ex139_1 : q139.1 l1r l1 = q.1 l1r l1 := hE _ _ (by simp) (dlo _ _ hp2)
  have hl : lv_has ls 8 [(0, .ref (q139.1 111 0)), (1, .ref (q139.1 l1r l1)), (2, .int l2), (3, .int l3), (4, .int l4), (5, .int l5)] := by rw [ex139_0, ex139_1]; exact hl
  refine ww_st (st' := [.int v139.1]) (by rfl) ?_
  refine ww_hi fun dhi => ?_
  have hp2 : prs s l1r l1 := dhi _ _ hp2.2.1 hp2.2.2 (by rw [ex139_1]; exact dlo _ _ hp2)
  have hx0 : Exq (xP X) [146, 154] _ q139 := hx0.tr (hE.sub (by decide))
  refine ww_istore (pc := 142) (i := 6) g.1 (lv' := [(6, .int v139.1), (0, .ref (q139.1 111 0)), (1, .ref (q139.1 l1r l1)), (2, .int l2), (3, .int l3), (4, .int l4), (5, .int l5)]) d_He_intern_142 hl (by decide) rfl fun ls hl => ?_
  refine ww_iload (pc := 144) g.1 d_He_intern_144 (lv_at hl 0 rfl) ?_
  refine ww_if_lt (pc := 146) (tgt := 199) g.1 d_He_intern_146 (by decide) h (fun c h => ?_) (fun c h => ?_)
  · refine ww_iload (pc := 199) g.1 d_He_intern_199 (lv_at hl 0 rfl) ?_
    exact ww_iretX (pc := 201) g h hR hx0 hm d_He_intern_201
  · refine ww_aload_n (pc := 149) g.1 d_He_intern_149 rfl (lv_at hl 1 rfl) ?_
    refine ww_gR (pc := 150) g (k := 0) cl_He (pz rfl (by decide)) (by decide) (Or.inl kw_725) (f := 14208) (t := 112) rfl rfl rfl d_He_intern_150 ?_
    refine ww_iload (pc := 153) g.1 d_He_intern_153 (lv_at hl 0 rfl) ?_
    refine ww_a8 (pc := 155) g (t := 145) (n := 4000) (pz rfl (by decide)) rfl rfl rfl rfl d_He_intern_155 h fun pa155 h => ?_
    refine ww_astore (pc := 156) (i := 7) g.1 (lv' := [(7, .ref (q139.1 145 v139.1)), (6, .int v139.1), (0, .ref (q139.1 111 0)), (1, .ref (q139.1 l1r l1)), (2, .int l2), (3, .int l3), (4, .int l4), (5, .int l5)]) d_He_intern_156 hl (by decide) rfl fun ls hl => ?_
    refine ww_aload (pc := 158) g.1 d_He_intern_158 (lv_at hl 0 rfl) ?_
    refine ww_aload_n (pc := 160) g.1 d_He_intern_160 rfl (lv_at hl 3 rfl) ?_
    refine ww_iload_n (pc := 161) g.1 d_He_intern_161 rfl (lv_at hl 4 rfl) ?_
    refine ww_iload_n (pc := 162) g.1 d_He_intern_162 rfl (lv_at hl 4 rfl) ?_
    refine ww_iload_n (pc := 163) g.1 d_He_intern_163 rfl (lv_at hl 5 rfl) ?_
    refine ww_iadd (pc := 164) g.1 d_He_intern_164 ?_
    refine ww_lo fun dlo => ?_
    obtain ⟨v165, s, hc165, h⟩ := oB_of h
    refine ww_callSX (pc := 165) (rest := [.ref (q139.1 145 v139.1)]) g cs_Arr_copyOfRange (Or.inl kw_1513) (ct_Arr_copyOfRange hp0 hp1 hp2 hm hc165) ⟨by decide, by decide⟩ rfl hl.1 (Nat.le_of_ble_eq_true rfl) d_He_intern_165 rfl (fun q165 hE hm => ?_)
    refine ww_st (st' := .ref (q165.1 154 v165.1) :: [.ref (q139.1 145 v139.1)]) rfl ?_
    have hl : lv_has ls 8 [(7, .ref (q139.1 145 v139.1)), (6, .int v139.1), (0, .ref (q139.1 111 0)), (2, .int l2), (3, .int l3), (4, .int l4), (5, .int l5)] := lv_sub hl [0, 1, 2, 4, 5, 6, 7] rfl
    have ex165_0 : q165.1 145 v139.1 = q139.1 145 v139.1 := hE _ _ (by decide) (dlo _ _ pa155)
    have ex165_1 : q165.1 111 0 = q139.1 111 0 := hE _ _ (by decide) (dlo _ _ (pz rfl (by decide)))
    have hl : lv_has ls 8 [(7, .ref (q165.1 145 v139.1)), (6, .int v139.1), (0, .ref (q165.1 111 0)), (2, .int l2), (3, .int l3), (4, .int l4), (5, .int l5)] := by rw [ex165_0, ex165_1]; exact hl
    refine ww_st (st' := [.ref (q165.1 154 v165.1), .ref (q165.1 145 v139.1)]) (by first | (rw [ex165_0]; done) | (rw [ex165_0]; rfl)) ?_
    refine ww_hi fun dhi => ?_
    have pa155 : prs s 145 v139.1 := dhi _ _ pa155.2.1 pa155.2.2 (by rw [ex165_0]; exact dlo _ _ pa155)
    have hx0 : Exq (xP X) [146, 154] _ q165 := hx0.tr (hE.sub (by decide))
    refine ww_ok h fun cz165 h => ?_
    refine ww_pr h fun pr165 h => ?_
    refine ww_st (st' := [.ref (q165.1 154 0), .ref (q165.1 145 v139.1)]) (by rw [cz165]) ?_
    refine ww_lo fun dlo => ?_
    refine ww_mvB (L := [146, 154]) (pc := 168) g (k := 9) (t := 146) cl_Tg pa155 pr165 (by decide) (Or.inl kw_1511) rfl rfl (by decide) pa155.2.2 (by decide) (by decide) ⟨rfl, rfl⟩ (by decide) hm d_He_intern_168 h fun q168 s hs hE hm pm168 h => ?_
    have ex168_0 : q168.1 145 v139.1 = q165.1 145 v139.1 := hE _ _ (by decide) (dlo _ _ pa155)
    have ex168_1 : q168.1 111 0 = q165.1 111 0 := hE _ _ (by decide) (dlo _ _ (pz rfl (by decide)))
    have hl : lv_has ls 8 [(7, .ref (q168.1 145 v139.1)), (6, .int v139.1), (0, .ref (q168.1 111 0)), (2, .int l2), (3, .int l3), (4, .int l4), (5, .int l5)] := by rw [ex168_0, ex168_1]; exact hl
    refine ww_st (st' := []) (by rfl) ?_
    refine ww_hi fun dhi => ?_
    have pa155 : prs s 145 v139.1 := dhi _ _ pa155.2.1 pa155.2.2 (by rw [ex168_0]; exact dlo _ _ pa155)
    have hx0 : Exq (xP X) [146, 154] _ q168 := hx0.tr (hE.sub (by decide))
    refine ww_aload (pc := 171) g.1 d_He_intern_171 (lv_at hl 0 rfl) ?_
    refine ww_iload (pc := 173) g.1 d_He_intern_173 (lv_at hl 5 rfl) ?_
    refine ww_pI (pc := 175) g (k := 6) cl_Tg pa155 (by decide) (Or.inl kw_762) rfl (f := 18566) rfl rfl rfl rfl d_He_intern_175 h fun s hs h => ?_
    have pa155 : prs s 145 v139.1 := prs_kI (r := 145) (k := 6) (by decide) hs pa155
    refine ww_aload (pc := 178) g.1 d_He_intern_178 (lv_at hl 0 rfl) ?_
    refine ww_aload_n (pc := 180) g.1 d_He_intern_180 rfl (lv_at hl 2 rfl) ?_
    refine ww_gR (pc := 181) g (k := 7) cl_He (pz rfl (by decide)) (by decide) (Or.inl kw_706) (f := 14215) (t := 117) rfl rfl rfl d_He_intern_181 ?_
    refine ww_iload (pc := 184) g.1 d_He_intern_184 (lv_at hl 6 rfl) ?_
    refine ww_ai (pc := 186) g (pz rfl (by decide)) rfl rfl d_He_intern_186 h fun v186 h => ?_
    refine ww_pI (pc := 187) g (k := 5) cl_Tg pa155 (by decide) (Or.inl kw_744) rfl (f := 18565) rfl rfl rfl rfl d_He_intern_187 h fun s hs h => ?_
    have pa155 : prs s 145 v139.1 := prs_kI (r := 145) (k := 5) (by decide) hs pa155
    refine ww_aload_n (pc := 190) g.1 d_He_intern_190 rfl (lv_at hl 2 rfl) ?_
    refine ww_gR (pc := 191) g (k := 7) cl_He (pz rfl (by decide)) (by decide) (Or.inl kw_706) (f := 14215) (t := 117) rfl rfl rfl d_He_intern_191 ?_
    refine ww_iload (pc := 194) g.1 d_He_intern_194 (lv_at hl 6 rfl) ?_
    refine ww_iload (pc := 196) g.1 d_He_intern_196 (lv_at hl 1 rfl) ?_
    refine ww_si (pc := 198) g (pz rfl (by decide)) rfl rfl d_He_intern_198 h fun s hs h => ?_
    have pa155 : prs s 145 v139.1 := hs ▸ pa155
    refine ww_iload (pc := 199) g.1 d_He_intern_199 (lv_at hl 1 rfl) ?_
    exact ww_iretX (pc := 201) g h hR hx0 hm d_He_intern_201

theorem ct_He_intern {l : Launch} {P : PP} {q : PL} {s s' : S1} {n0 n1 : Nat × Nat} {l1r : Nat} {l1 : Int32} {l2 : Int32} {l3 : Int32} (hp0 : rkF l1r = 2) (hp1 : l1r ≠ 154) (hp2 : prs s l1r l1) {r : Int32} (hm : Rmq P q n0) (h : M_He_intern n0 l1r l1 l2 l3 s = some ((r, n1), s')) : CtX l y_He_intern b_He_intern 8 (some .int) 4 97 P [146, 154] q s [.ref (q.1 111 0), .ref (q.1 l1r l1), .int l2, .int l3] (fun _ => some (.int r)) n1 s' := by
  refine ctX_of (by decide) (Nat.le_of_ble_eq_true rfl) fun X ls eP el g hR hl => ?_
  subst eP
  obtain ⟨q0, hq0⟩ : ∃ q0 : PL, q0 = q := ⟨q, rfl⟩
  have hx0 : Exq (xP X) [146, 154] q0 q := hq0 ▸ Exq.rf
  rw [← hq0] at hR
  have hR : RtX X [146, 154] q0 (((r, n1), s') : (Int32 × (Nat × Nat)) × S1).1.2 (((r, n1), s') : (Int32 × (Nat × Nat)) × S1).2 (fun _ => some (.int (((r, n1), s') : (Int32 × (Nat × Nat)) × S1).1.1)) := hR
  have hl : lv_has ls 8 [(0, .ref (q.1 111 0)), (1, .ref (q.1 l1r l1)), (2, .int l2), (3, .int l3)] := hl
  generalize ((r, n1), s') = o at h hR
  unfold M_He_intern at h
  refine ww_iload_n (pc := 0) g.1 d_He_intern_0 rfl (lv_at hl 3 rfl) ?_
  refine ww_ldc (pc := 1) g (v := 400000) kw_1350 d_He_intern_1 ?_
  refine ww_icmp_le (pc := 3) (tgt := 9) g.1 d_He_intern_3 (by decide) h (fun c h => ?_) (fun c h => ?_)
  · refine ww_iload_n (pc := 9) g.1 d_He_intern_9 rfl (lv_at hl 3 rfl) ?_
    refine ww_istore (pc := 10) (i := 4) g.1 (lv' := [(4, .int l3), (0, .ref (q.1 111 0)), (1, .ref (q.1 l1r l1)), (2, .int l2), (3, .int l3)]) d_He_intern_10 hl (by decide) rfl fun ls hl => ?_
    refine ww_iconst (pc := 12) g.1 (v := 0) d_He_intern_12 (by decide) ?_
    refine ww_istore (pc := 13) (i := 5) g.1 (lv' := [(5, .int 0), (4, .int l3), (0, .ref (q.1 111 0)), (1, .ref (q.1 l1r l1)), (2, .int l2), (3, .int l3)]) d_He_intern_13 hl (by decide) rfl fun ls hl => ?_
    obtain ⟨e15, s1, hw, h⟩ := oB_of h
    refine oW_rule (Wh := fun (x : Nat × Int32 × Int32 × Int32 × Int32 × Int32 × (Nat × Nat)) (s : S1) => ∀ q : PL, Exq (xP X) [146, 154] q0 q → Rmq (xP X) q x.2.2.2.2.2.2 → ∀ ls : Array Slot, (rkF x.1 = 2) → (x.1 ≠ 154) → (prs s x.1 x.2.1) → lv_has ls 8 [(0, .ref (q.1 111 0)), (1, .ref (q.1 x.1 x.2.1)), (2, .int x.2.2.1), (3, .int x.2.2.2.1), (4, .int x.2.2.2.2.1), (5, .int x.2.2.2.2.2.1)] → WW X q s 15 ls []) (We := fun (e : (Nat × Int32 × Int32 × Int32 × Int32 × (Nat × Nat))) (s : S1) => ∀ q : PL, Exq (xP X) [146, 154] q0 q → Rmq (xP X) q e.2.2.2.2.2 → ∀ ls : Array Slot, (rkF e.1 = 2) → (e.1 ≠ 154) → (prs s e.1 e.2.1) → lv_has ls 8 [(0, .ref (q.1 111 0)), (1, .ref (q.1 e.1 e.2.1)), (2, .int e.2.2.1), (3, .int e.2.2.2.1), (4, .int e.2.2.2.2.1)] → WW X q s 41 ls []) (fun x s o hb hc => lp_He_intern_L15 (q0 := q0) g x s o hb hc) hw ?_ q hx0 hm ls hp0 hp1 hp2 (lv_sub hl [2, 3, 4, 5, 1, 0] rfl)
    clear hw hl hx0 hm
    clear ls
    generalize s1 = s at h ⊢
    intro qL15 hx0 hm ls hq15_0 hq15_1 hq15_2 hl
    refine ww_iload (pc := 41) g.1 d_He_intern_41 (lv_at hl 4 rfl) ?_
    refine ww_iload (pc := 43) g.1 d_He_intern_43 (lv_at hl 4 rfl) ?_
    refine ww_bipush (pc := 45) g.1 (v := 15) d_He_intern_45 (by decide) ?_
    refine ww_iushr (pc := 47) g.1 (v := iushr e15.2.2.2.2.1 (15 : Int32)) d_He_intern_47 rfl ?_
    refine ww_ixor (pc := 48) g.1 d_He_intern_48 ?_
    refine ww_sipush (pc := 49) g.1 (v := 4095) d_He_intern_49 (by decide) ?_
    refine ww_iand (pc := 52) g.1 d_He_intern_52 ?_
    refine ww_leti h fun l5_53 h => ?_
    refine ww_istore (pc := 53) (i := 5) g.1 (lv' := [(5, .int l5_53), (0, .ref (qL15.1 111 0)), (1, .ref (qL15.1 e15.1 e15.2.1)), (2, .int e15.2.2.1), (3, .int e15.2.2.2.1), (4, .int e15.2.2.2.2.1)]) d_He_intern_53 hl (by decide) rfl fun ls hl => ?_
    refine ww_aload_n (pc := 55) g.1 d_He_intern_55 rfl (lv_at hl 1 rfl) ?_
    refine ww_gR (pc := 56) g (k := 7) cl_He (pz rfl (by decide)) (by decide) (Or.inl kw_706) (f := 14215) (t := 117) rfl rfl rfl d_He_intern_56 ?_
    refine ww_iload (pc := 59) g.1 d_He_intern_59 (lv_at hl 0 rfl) ?_
    refine ww_ai (pc := 61) g (pz rfl (by decide)) rfl rfl d_He_intern_61 h fun v61 h => ?_
    refine ww_istore (pc := 62) (i := 6) g.1 (lv' := [(6, .int v61), (5, .int l5_53), (0, .ref (qL15.1 111 0)), (1, .ref (qL15.1 e15.1 e15.2.1)), (2, .int e15.2.2.1), (3, .int e15.2.2.2.1), (4, .int e15.2.2.2.2.1)]) d_He_intern_62 hl (by decide) rfl fun ls hl => ?_
    refine ww_iconst (pc := 64) g.1 (v := 0) d_He_intern_64 (by decide) ?_
    refine ww_istore (pc := 65) (i := 7) g.1 (lv' := [(7, .int 0), (6, .int v61), (5, .int l5_53), (0, .ref (qL15.1 111 0)), (1, .ref (qL15.1 e15.1 e15.2.1)), (2, .int e15.2.2.1), (3, .int e15.2.2.2.1), (4, .int e15.2.2.2.2.1)]) d_He_intern_65 hl (by decide) rfl fun ls hl => ?_
    obtain ⟨e67, s1, hw, h⟩ := oB_of h
    refine oW_rule (Wh := fun (x : Nat × Int32 × Int32 × Int32 × Int32 × Int32 × Int32 × Int32 × (Nat × Nat)) (s : S1) => ∀ q : PL, Exq (xP X) [146, 154] q0 q → Rmq (xP X) q x.2.2.2.2.2.2.2.2 → ∀ ls : Array Slot, (rkF x.1 = 2) → (x.1 ≠ 154) → (prs s x.1 x.2.1) → lv_has ls 8 [(0, .ref (q.1 111 0)), (1, .ref (q.1 x.1 x.2.1)), (2, .int x.2.2.1), (3, .int x.2.2.2.1), (4, .int x.2.2.2.2.1), (5, .int x.2.2.2.2.2.1), (6, .int x.2.2.2.2.2.2.1), (7, .int x.2.2.2.2.2.2.2.1)] → WW X q s 67 ls []) (We := fun (e : (Int32 × (Nat × Nat)) ⊕ (Nat × Int32 × Int32 × Int32 × Int32 × Int32 × (Nat × Nat))) (s : S1) => (Sum.elim (fun y : Int32 × (Nat × Nat) => ∀ q : PL, Exq (xP X) [146, 154] q0 q → Rmq (xP X) q y.2 → ∀ ls : Array Slot, lv_has ls 8 [(6, .int y.1)] → WW X q s 114 ls []) (fun y : Nat × Int32 × Int32 × Int32 × Int32 × Int32 × (Nat × Nat) => ∀ q : PL, Exq (xP X) [146, 154] q0 q → Rmq (xP X) q y.2.2.2.2.2.2 → ∀ ls : Array Slot, (rkF y.1 = 2) → (y.1 ≠ 154) → (prs s y.1 y.2.1) → lv_has ls 8 [(0, .ref (q.1 111 0)), (1, .ref (q.1 y.1 y.2.1)), (2, .int y.2.2.1), (3, .int y.2.2.2.1), (4, .int y.2.2.2.2.1), (5, .int y.2.2.2.2.2.1)] → WW X q s 135 ls [])) e) (fun x s o hb hc => lp_He_intern_L67 (q0 := q0) g x s o hb hc) hw ?_ qL15 hx0 hm ls hq15_0 hq15_1 hq15_2 (lv_sub hl [3, 4, 5, 6, 7, 2, 1, 0] rfl)
    clear hw hl hx0 hm
    clear ls
    generalize s1 = s at h ⊢
    rcases e67 with y67_114 | y67_135
    · intro qL67 hx0 hm ls hl
      dsimp only [Sum.elim_inl, Sum.elim_inr] at h
      refine ww_iload (pc := 114) g.1 d_He_intern_114 (lv_at hl 0 rfl) ?_
      exact ww_iretX (pc := 116) g h hR hx0 hm d_He_intern_116
    · intro qL67 hx0 hm ls hq67_0 hq67_1 hq67_2 hl
      dsimp only [Sum.elim_inl, Sum.elim_inr] at h
      exact j_He_intern_j135 g hR hx0 y67_135.1 y67_135.2.1 y67_135.2.2.1 y67_135.2.2.2.1 y67_135.2.2.2.2.1 y67_135.2.2.2.2.2.1 y67_135.2.2.2.2.2.2 hm s hq67_0 hq67_1 hq67_2 ls (lv_sub hl [0, 1, 2, 3, 4, 5] rfl) h
  · refine ww_bipush (pc := 6) g.1 (v := (-11)) d_He_intern_6 (by decide) ?_
    exact ww_iretX (pc := 8) g h hR hx0 hm d_He_intern_8


