abbrev b_Ch_readConstants : ByteArray := prog_3_method_11_code
def y_Ch_readConstants : MethodName := ⟨R_Ch, "readConstants", "(LLuaMachine$Prototype;)Z"⟩
abbrev w_Ch_readConstants : List Cond := .code y_Ch_readConstants b_Ch_readConstants 4 (some .boolean) :: wA
theorem k_Ch_readConstants : Cond.code y_Ch_readConstants b_Ch_readConstants 4 (some .boolean) ∈ wA := kinm (show _ ∈ tables_1 from (List.mem_append_right _ (List.mem_append_right _ (List.mem_append_left _ (List.mem_of_getElem? (l := tables_1_3) (i := 199) (by decide +kernel)))))) (by decide +kernel)
theorem d_Ch_readConstants_0 : decode b_Ch_readConstants 0 = .ok (.aload_n 1, 1) := by decide +kernel
theorem d_Ch_readConstants_1 : decode b_Ch_readConstants 1 = .ok (.aload_n 0, 1) := by decide +kernel
theorem d_Ch_readConstants_2 : decode b_Ch_readConstants 2 = .ok (.getfield 78, 3) := by decide +kernel
theorem d_Ch_readConstants_5 : decode b_Ch_readConstants 5 = .ok (.putfield 125, 3) := by decide +kernel
theorem d_Ch_readConstants_8 : decode b_Ch_readConstants 8 = .ok (.aload_n 1, 1) := by decide +kernel
theorem d_Ch_readConstants_9 : decode b_Ch_readConstants 9 = .ok (.aload_n 0, 1) := by decide +kernel
theorem d_Ch_readConstants_10 : decode b_Ch_readConstants 10 = .ok (.iconst 2, 1) := by decide +kernel
theorem d_Ch_readConstants_11 : decode b_Ch_readConstants 11 = .ok (.invokevirtual 104, 3) := by decide +kernel
theorem d_Ch_readConstants_14 : decode b_Ch_readConstants 14 = .ok (.putfield 128, 3) := by decide +kernel
theorem d_Ch_readConstants_17 : decode b_Ch_readConstants 17 = .ok (.aload_n 1, 1) := by decide +kernel
theorem d_Ch_readConstants_18 : decode b_Ch_readConstants 18 = .ok (.getfield 128, 3) := by decide +kernel
theorem d_Ch_readConstants_21 : decode b_Ch_readConstants 21 = .ok (.ifCond .ge 5, 3) := by decide +kernel
theorem d_Ch_readConstants_24 : decode b_Ch_readConstants 24 = .ok (.iconst 0, 1) := by decide +kernel
theorem d_Ch_readConstants_25 : decode b_Ch_readConstants 25 = .ok (.ireturn, 1) := by decide +kernel
theorem d_Ch_readConstants_26 : decode b_Ch_readConstants 26 = .ok (.iconst 0, 1) := by decide +kernel
theorem d_Ch_readConstants_27 : decode b_Ch_readConstants 27 = .ok (.istore_n 2, 1) := by decide +kernel
theorem d_Ch_readConstants_28 : decode b_Ch_readConstants 28 = .ok (.iload_n 2, 1) := by decide +kernel
theorem d_Ch_readConstants_29 : decode b_Ch_readConstants 29 = .ok (.aload_n 1, 1) := by decide +kernel
theorem d_Ch_readConstants_30 : decode b_Ch_readConstants 30 = .ok (.getfield 128, 3) := by decide +kernel
theorem d_Ch_readConstants_33 : decode b_Ch_readConstants 33 = .ok (.if_icmp .ge 75, 3) := by decide +kernel
theorem d_Ch_readConstants_36 : decode b_Ch_readConstants 36 = .ok (.aload_n 0, 1) := by decide +kernel
theorem d_Ch_readConstants_37 : decode b_Ch_readConstants 37 = .ok (.iconst 1, 1) := by decide +kernel
theorem d_Ch_readConstants_38 : decode b_Ch_readConstants 38 = .ok (.invokevirtual 104, 3) := by decide +kernel
theorem d_Ch_readConstants_41 : decode b_Ch_readConstants 41 = .ok (.istore_n 3, 1) := by decide +kernel
theorem d_Ch_readConstants_42 : decode b_Ch_readConstants 42 = .ok (.iload_n 3, 1) := by decide +kernel
theorem d_Ch_readConstants_43 : decode b_Ch_readConstants 43 = .ok (.ifCond .ge 5, 3) := by decide +kernel
theorem d_Ch_readConstants_46 : decode b_Ch_readConstants 46 = .ok (.iconst 0, 1) := by decide +kernel
theorem d_Ch_readConstants_47 : decode b_Ch_readConstants 47 = .ok (.ireturn, 1) := by decide +kernel
theorem d_Ch_readConstants_48 : decode b_Ch_readConstants 48 = .ok (.aload_n 0, 1) := by decide +kernel
theorem d_Ch_readConstants_49 : decode b_Ch_readConstants 49 = .ok (.getfield 78, 3) := by decide +kernel
theorem d_Ch_readConstants_52 : decode b_Ch_readConstants 52 = .ok (.aload_n 0, 1) := by decide +kernel
theorem d_Ch_readConstants_53 : decode b_Ch_readConstants 53 = .ok (.getfield 81, 3) := by decide +kernel
theorem d_Ch_readConstants_56 : decode b_Ch_readConstants 56 = .ok (.iadd, 1) := by decide +kernel
theorem d_Ch_readConstants_57 : decode b_Ch_readConstants 57 = .ok (.sipush 20000, 3) := by decide +kernel
theorem d_Ch_readConstants_60 : decode b_Ch_readConstants 60 = .ok (.if_icmp .lt 15, 3) := by decide +kernel
theorem d_Ch_readConstants_63 : decode b_Ch_readConstants 63 = .ok (.aload_n 0, 1) := by decide +kernel
theorem d_Ch_readConstants_64 : decode b_Ch_readConstants 64 = .ok (.iconst 4, 1) := by decide +kernel
theorem d_Ch_readConstants_65 : decode b_Ch_readConstants 65 = .ok (.aload_n 0, 1) := by decide +kernel
theorem d_Ch_readConstants_66 : decode b_Ch_readConstants 66 = .ok (.getfield 57, 3) := by decide +kernel
theorem d_Ch_readConstants_69 : decode b_Ch_readConstants 69 = .ok (.iconst 1, 1) := by decide +kernel
theorem d_Ch_readConstants_70 : decode b_Ch_readConstants 70 = .ok (.isub, 1) := by decide +kernel
theorem d_Ch_readConstants_71 : decode b_Ch_readConstants 71 = .ok (.invokevirtual 63, 3) := by decide +kernel
theorem d_Ch_readConstants_74 : decode b_Ch_readConstants 74 = .ok (.ireturn, 1) := by decide +kernel
theorem d_Ch_readConstants_75 : decode b_Ch_readConstants 75 = .ok (.iload_n 3, 1) := by decide +kernel
theorem d_Ch_readConstants_76 : decode b_Ch_readConstants 76 = .ok (.iconst 4, 1) := by decide +kernel
theorem d_Ch_readConstants_77 : decode b_Ch_readConstants 77 = .ok (.if_icmp .le 15, 3) := by decide +kernel
theorem d_Ch_readConstants_80 : decode b_Ch_readConstants 80 = .ok (.aload_n 0, 1) := by decide +kernel
theorem d_Ch_readConstants_81 : decode b_Ch_readConstants 81 = .ok (.iconst 2, 1) := by decide +kernel
theorem d_Ch_readConstants_82 : decode b_Ch_readConstants 82 = .ok (.aload_n 0, 1) := by decide +kernel
theorem d_Ch_readConstants_83 : decode b_Ch_readConstants 83 = .ok (.getfield 57, 3) := by decide +kernel
theorem d_Ch_readConstants_86 : decode b_Ch_readConstants 86 = .ok (.iconst 1, 1) := by decide +kernel
theorem d_Ch_readConstants_87 : decode b_Ch_readConstants 87 = .ok (.isub, 1) := by decide +kernel
theorem d_Ch_readConstants_88 : decode b_Ch_readConstants 88 = .ok (.invokevirtual 63, 3) := by decide +kernel
theorem d_Ch_readConstants_91 : decode b_Ch_readConstants 91 = .ok (.ireturn, 1) := by decide +kernel
theorem d_Ch_readConstants_92 : decode b_Ch_readConstants 92 = .ok (.aload_n 0, 1) := by decide +kernel
theorem d_Ch_readConstants_93 : decode b_Ch_readConstants 93 = .ok (.iload_n 3, 1) := by decide +kernel
theorem d_Ch_readConstants_94 : decode b_Ch_readConstants 94 = .ok (.invokevirtual 131, 3) := by decide +kernel
theorem d_Ch_readConstants_97 : decode b_Ch_readConstants 97 = .ok (.ifCond .ne 5, 3) := by decide +kernel
theorem d_Ch_readConstants_100 : decode b_Ch_readConstants 100 = .ok (.iconst 0, 1) := by decide +kernel
theorem d_Ch_readConstants_101 : decode b_Ch_readConstants 101 = .ok (.ireturn, 1) := by decide +kernel
theorem d_Ch_readConstants_102 : decode b_Ch_readConstants 102 = .ok (.iinc 2 1, 3) := by decide +kernel
theorem d_Ch_readConstants_105 : decode b_Ch_readConstants 105 = .ok (.goto (-77), 3) := by decide +kernel
theorem d_Ch_readConstants_108 : decode b_Ch_readConstants 108 = .ok (.iconst 1, 1) := by decide +kernel
theorem d_Ch_readConstants_109 : decode b_Ch_readConstants 109 = .ok (.ireturn, 1) := by decide +kernel
theorem kw_1057 : Cond.fieldLink R_Ch 125 "LuaMachine$Prototype" "constantStart" "I" ∈ wA := kinm (show _ ∈ tables_1 from (List.mem_append_right _ (List.mem_append_right _ (List.mem_append_left _ (List.mem_of_getElem? (l := tables_1_3) (i := 145) (by decide +kernel)))))) (by decide +kernel)
theorem kw_1058 : Cond.methodLink R_Ch 131 y_Ch_readConstant ∈ wA := kinm (show _ ∈ tables_1 from (List.mem_append_right _ (List.mem_append_right _ (List.mem_append_left _ (List.mem_of_getElem? (l := tables_1_3) (i := 200) (by decide +kernel)))))) (by decide +kernel)
theorem kw_1059 : Cond.instanceMethod y_Ch_readConstants ∈ wA := kinm (show _ ∈ tables_1 from (List.mem_append_right _ (List.mem_append_right _ (List.mem_append_left _ (List.mem_of_getElem? (l := tables_1_3) (i := 198) (by decide +kernel)))))) (by decide +kernel)
theorem kw_1060 : Cond.selects R_Ch y_Ch_readConstants y_Ch_readConstants ∈ wA := kinp 9 (by decide +kernel) (by decide +kernel)
theorem cv_Ch_readConstants : CV y_Ch_readConstants b_Ch_readConstants 4 (some .boolean) 1 := ⟨kw_1059, kw_1060, kw_664, k_Ch_readConstants, by decide +kernel⟩
theorem lp_Ch_readConstants_L28 {X : Cx} {q : PL} (g : Gd X y_Ch_readConstants b_Ch_readConstants 4 (some .boolean) 3 69 R_Ch) (x : Int32 × Int32) (s : S1) (o : ((Int32 × Int32) ⊕ ((Unit) ⊕ (Unit) ⊕ (Unit) ⊕ (Unit) ⊕ (Unit))) × S1) (h : M_Ch_readConstants_L28 x s = some o) (hR : (Sum.elim (fun y : Int32 × Int32 => ∀ ls : Array Slot, (prs o.2 144 y.1) → lv_has ls 4 [(0, .ref (q.1 101 0)), (1, .ref (q.1 144 y.1)), (2, .int y.2)] → WW X q o.2 28 ls []) (Sum.elim (fun y : Unit => ∀ ls : Array Slot, lv_has ls 4 [] → WW X q o.2 46 ls []) (Sum.elim (fun y : Unit => ∀ ls : Array Slot, lv_has ls 4 [(0, .ref (q.1 101 0))] → WW X q o.2 63 ls []) (Sum.elim (fun y : Unit => ∀ ls : Array Slot, lv_has ls 4 [(0, .ref (q.1 101 0))] → WW X q o.2 80 ls []) (Sum.elim (fun y : Unit => ∀ ls : Array Slot, lv_has ls 4 [] → WW X q o.2 100 ls []) (fun y : Unit => ∀ ls : Array Slot, lv_has ls 4 [] → WW X q o.2 108 ls []))))) o.1)) : ∀ ls : Array Slot, (prs s 144 x.1) → lv_has ls 4 [(0, .ref (q.1 101 0)), (1, .ref (q.1 144 x.1)), (2, .int x.2)] → WW X q s 28 ls [] := by
  intro ls hp0 hl
  unfold M_Ch_readConstants_L28 at h
  refine ww_iload_n (pc := 28) g.1 d_Ch_readConstants_28 rfl (lv_at hl 2 rfl) ?_
  refine ww_aload_n (pc := 29) g.1 d_Ch_readConstants_29 rfl (lv_at hl 1 rfl) ?_
  refine ww_gI (pc := 30) g (k := 5) cl_Pr hp0 (by decide) (Or.inl kw_696) (f := 18437) rfl rfl d_Ch_readConstants_30 h fun v30 h => ?_
  refine ww_icmp_ge (pc := 33) (tgt := 108) g.1 d_Ch_readConstants_33 (by decide) h (fun c h => ?_) (fun c h => ?_)
  · rw [oR_eq h] at hR
    exact hR ls (lv_sub hl [] rfl)
  · refine ww_aload_n (pc := 36) g.1 d_Ch_readConstants_36 rfl (lv_at hl 0 rfl) ?_
    refine ww_iconst (pc := 37) g.1 (v := 1) d_Ch_readConstants_37 (by decide) ?_
    refine ww_lo fun dlo => ?_
    obtain ⟨v38, s, hc38, h⟩ := oB_of h
    refine ww_callV (pc := 38) (rest := []) g cv_Ch_readNumber (Or.inl kw_680) cl_Ch (pz rfl (by decide)) (ct_Ch_readNumber hc38) ⟨by decide, by decide⟩ rfl hl.1 (Nat.le_of_ble_eq_true rfl) d_Ch_readConstants_38 rfl (?_)
    refine ww_st (st' := [.int v38]) rfl ?_
    refine ww_hi fun dhi => ?_
    have hp0 : prs s 144 x.1 := dhi _ _ hp0.2.1 hp0.2.2 (dlo _ _ hp0)
    refine ww_istore_n (pc := 41) (i := 3) g.1 (lv' := [(3, .int v38), (0, .ref (q.1 101 0)), (1, .ref (q.1 144 x.1)), (2, .int x.2)]) d_Ch_readConstants_41 rfl hl (by decide) rfl fun ls hl => ?_
    refine ww_iload_n (pc := 42) g.1 d_Ch_readConstants_42 rfl (lv_at hl 0 rfl) ?_
    refine ww_if_ge (pc := 43) (tgt := 48) g.1 d_Ch_readConstants_43 (by decide) h (fun c h => ?_) (fun c h => ?_)
    · refine ww_aload_n (pc := 48) g.1 d_Ch_readConstants_48 rfl (lv_at hl 1 rfl) ?_
      refine ww_gI (pc := 49) g (k := 10) cl_Ch (pz rfl (by decide)) (by decide) (Or.inl kw_659) (f := 12938) rfl rfl d_Ch_readConstants_49 h fun v49 h => ?_
      refine ww_aload_n (pc := 52) g.1 d_Ch_readConstants_52 rfl (lv_at hl 1 rfl) ?_
      refine ww_gI (pc := 53) g (k := 11) cl_Ch (pz rfl (by decide)) (by decide) (Or.inl kw_660) (f := 12939) rfl rfl d_Ch_readConstants_53 h fun v53 h => ?_
      refine ww_iadd (pc := 56) g.1 d_Ch_readConstants_56 ?_
      refine ww_sipush (pc := 57) g.1 (v := 20000) d_Ch_readConstants_57 (by decide) ?_
      refine ww_icmp_lt (pc := 60) (tgt := 75) g.1 d_Ch_readConstants_60 (by decide) h (fun c h => ?_) (fun c h => ?_)
      · refine ww_iload_n (pc := 75) g.1 d_Ch_readConstants_75 rfl (lv_at hl 0 rfl) ?_
        refine ww_iconst (pc := 76) g.1 (v := 4) d_Ch_readConstants_76 (by decide) ?_
        refine ww_icmp_le (pc := 77) (tgt := 92) g.1 d_Ch_readConstants_77 (by decide) h (fun c h => ?_) (fun c h => ?_)
        · refine ww_aload_n (pc := 92) g.1 d_Ch_readConstants_92 rfl (lv_at hl 1 rfl) ?_
          refine ww_iload_n (pc := 93) g.1 d_Ch_readConstants_93 rfl (lv_at hl 0 rfl) ?_
          refine ww_lo fun dlo => ?_
          obtain ⟨v94, s, hc94, h⟩ := oB_of h
          refine ww_callV (pc := 94) (rest := []) g cv_Ch_readConstant (Or.inl kw_1058) cl_Ch (pz rfl (by decide)) (ct_Ch_readConstant hc94) ⟨by decide, by decide⟩ rfl hl.1 (Nat.le_of_ble_eq_true rfl) d_Ch_readConstants_94 rfl (?_)
          refine ww_st (st' := [.int v94]) rfl ?_
          refine ww_hi fun dhi => ?_
          have hp0 : prs s 144 x.1 := dhi _ _ hp0.2.1 hp0.2.2 (dlo _ _ hp0)
          refine ww_if_ne (pc := 97) (tgt := 102) g.1 d_Ch_readConstants_97 (by decide) h (fun c h => ?_) (fun c h => ?_)
          · refine ww_iinc (pc := 102) g.1 (v := x.2 + 1) (lv' := [(2, .int (x.2 + 1)), (3, .int v38), (0, .ref (q.1 101 0)), (1, .ref (q.1 144 x.1))]) d_Ch_readConstants_102 hl (k := 3) rfl (by rfl) (by decide) rfl fun ls hl => ?_
            refine ww_goto (pc := 105) (tgt := 28) g.1 d_Ch_readConstants_105 (by decide) ?_
            rw [oR_eq h] at hR
            exact hR ls hp0 (lv_sub hl [2, 3, 0] rfl)
          · rw [oR_eq h] at hR
            exact hR ls (lv_sub hl [] rfl)
        · rw [oR_eq h] at hR
          exact hR ls (lv_sub hl [1] rfl)
      · rw [oR_eq h] at hR
        exact hR ls (lv_sub hl [1] rfl)
    · rw [oR_eq h] at hR
      exact hR ls (lv_sub hl [] rfl)

theorem ct_Ch_readConstants {l : Launch} {P : PP} {q : PL} {s s' : S1} {l1 : Int32} (hp0 : prs s 144 l1) {r : Int32} (h : M_Ch_readConstants l1 s = some (r, s')) : Ct l y_Ch_readConstants b_Ch_readConstants 4 (some .boolean) 3 69 P q s [.ref (q.1 101 0), .ref (q.1 144 l1)] (some (.int r)) q s' := by
  refine ct_of (by decide) (Nat.le_of_ble_eq_true rfl) fun X ls eP el g hR hl => ?_
  subst eP
  have hR : Rt X q ((r, s') : Int32 × S1).2 (some (.int ((r, s') : Int32 × S1).1)) := hR
  have hl : lv_has ls 4 [(0, .ref (q.1 101 0)), (1, .ref (q.1 144 l1))] := hl
  generalize (r, s') = o at h hR
  unfold M_Ch_readConstants at h
  refine ww_aload_n (pc := 0) g.1 d_Ch_readConstants_0 rfl (lv_at hl 1 rfl) ?_
  refine ww_aload_n (pc := 1) g.1 d_Ch_readConstants_1 rfl (lv_at hl 0 rfl) ?_
  refine ww_gI (pc := 2) g (k := 10) cl_Ch (pz rfl (by decide)) (by decide) (Or.inl kw_659) (f := 12938) rfl rfl d_Ch_readConstants_2 h fun v2 h => ?_
  refine ww_pI (pc := 5) g (k := 6) cl_Pr hp0 (by decide) (Or.inl kw_1057) rfl (f := 18438) rfl rfl rfl rfl d_Ch_readConstants_5 h fun s hs h => ?_
  have hp0 : prs s 144 l1 := prs_kI (r := 144) (k := 6) (by decide) hs hp0
  refine ww_aload_n (pc := 8) g.1 d_Ch_readConstants_8 rfl (lv_at hl 1 rfl) ?_
  refine ww_aload_n (pc := 9) g.1 d_Ch_readConstants_9 rfl (lv_at hl 0 rfl) ?_
  refine ww_iconst (pc := 10) g.1 (v := 2) d_Ch_readConstants_10 (by decide) ?_
  refine ww_lo fun dlo => ?_
  obtain ⟨v11, s, hc11, h⟩ := oB_of h
  refine ww_callV (pc := 11) (rest := [.ref (q.1 144 l1)]) g cv_Ch_readNumber (Or.inl kw_680) cl_Ch (pz rfl (by decide)) (ct_Ch_readNumber hc11) ⟨by decide, by decide⟩ rfl hl.1 (Nat.le_of_ble_eq_true rfl) d_Ch_readConstants_11 rfl (?_)
  refine ww_st (st' := [.int v11, .ref (q.1 144 l1)]) rfl ?_
  refine ww_hi fun dhi => ?_
  have hp0 : prs s 144 l1 := dhi _ _ hp0.2.1 hp0.2.2 (dlo _ _ hp0)
  refine ww_pI (pc := 14) g (k := 5) cl_Pr hp0 (by decide) (Or.inl kw_696) rfl (f := 18437) rfl rfl rfl rfl d_Ch_readConstants_14 h fun s hs h => ?_
  have hp0 : prs s 144 l1 := prs_kI (r := 144) (k := 5) (by decide) hs hp0
  refine ww_aload_n (pc := 17) g.1 d_Ch_readConstants_17 rfl (lv_at hl 1 rfl) ?_
  refine ww_gI (pc := 18) g (k := 5) cl_Pr hp0 (by decide) (Or.inl kw_696) (f := 18437) rfl rfl d_Ch_readConstants_18 h fun v18 h => ?_
  refine ww_if_ge (pc := 21) (tgt := 26) g.1 d_Ch_readConstants_21 (by decide) h (fun c h => ?_) (fun c h => ?_)
  · refine ww_iconst (pc := 26) g.1 (v := 0) d_Ch_readConstants_26 (by decide) ?_
    refine ww_istore_n (pc := 27) (i := 2) g.1 (lv' := [(2, .int 0), (0, .ref (q.1 101 0)), (1, .ref (q.1 144 l1))]) d_Ch_readConstants_27 rfl hl (by decide) rfl fun ls hl => ?_
    obtain ⟨e28, s1, hw, h⟩ := oB_of h
    refine oW_rule (Wh := fun (x : Int32 × Int32) (s : S1) => ∀ ls : Array Slot, (prs s 144 x.1) → lv_has ls 4 [(0, .ref (q.1 101 0)), (1, .ref (q.1 144 x.1)), (2, .int x.2)] → WW X q s 28 ls []) (We := fun (e : (Unit) ⊕ (Unit) ⊕ (Unit) ⊕ (Unit) ⊕ (Unit)) (s : S1) => (Sum.elim (fun y : Unit => ∀ ls : Array Slot, lv_has ls 4 [] → WW X q s 46 ls []) (Sum.elim (fun y : Unit => ∀ ls : Array Slot, lv_has ls 4 [(0, .ref (q.1 101 0))] → WW X q s 63 ls []) (Sum.elim (fun y : Unit => ∀ ls : Array Slot, lv_has ls 4 [(0, .ref (q.1 101 0))] → WW X q s 80 ls []) (Sum.elim (fun y : Unit => ∀ ls : Array Slot, lv_has ls 4 [] → WW X q s 100 ls []) (fun y : Unit => ∀ ls : Array Slot, lv_has ls 4 [] → WW X q s 108 ls []))))) e) (fun x s o hb hc => lp_Ch_readConstants_L28 (q := q) g x s o hb hc) hw ?_ ls hp0 (lv_sub hl [1, 2, 0] rfl)
    clear hw hl
    clear ls
    generalize s1 = s at h ⊢
    rcases e28 with y28_46 | y28_63 | y28_80 | y28_100 | y28_108
    · intro ls hl
      dsimp only [Sum.elim_inl, Sum.elim_inr] at h
      refine ww_iconst (pc := 46) g.1 (v := 0) d_Ch_readConstants_46 (by decide) ?_
      exact ww_zretH (pc := 47) g h hR (Or.inl rfl) d_Ch_readConstants_47
    · intro ls hl
      dsimp only [Sum.elim_inl, Sum.elim_inr] at h
      refine ww_aload_n (pc := 63) g.1 d_Ch_readConstants_63 rfl (lv_at hl 0 rfl) ?_
      refine ww_iconst (pc := 64) g.1 (v := 4) d_Ch_readConstants_64 (by decide) ?_
      refine ww_aload_n (pc := 65) g.1 d_Ch_readConstants_65 rfl (lv_at hl 0 rfl) ?_
      refine ww_gI (pc := 66) g (k := 14) cl_Ch (pz rfl (by decide)) (by decide) (Or.inl kw_655) (f := 12942) rfl rfl d_Ch_readConstants_66 h fun v66 h => ?_
      refine ww_iconst (pc := 69) g.1 (v := 1) d_Ch_readConstants_69 (by decide) ?_
      refine ww_isub (pc := 70) g.1 d_Ch_readConstants_70 ?_
      obtain ⟨v71, s, hc71, h⟩ := oB_of h
      refine ww_callV (pc := 71) (rest := []) g cv_Ch_refuse (Or.inl kw_671) cl_Ch (pz rfl (by decide)) (ct_Ch_refuse hc71) ⟨by decide, by decide⟩ rfl hl.1 (Nat.le_of_ble_eq_true rfl) d_Ch_readConstants_71 rfl (?_)
      refine ww_st (st' := [.int v71]) rfl ?_
      refine ww_ok h fun cz h => ?_
      exact ww_zretH (pc := 74) g h hR cz d_Ch_readConstants_74
    · intro ls hl
      dsimp only [Sum.elim_inl, Sum.elim_inr] at h
      refine ww_aload_n (pc := 80) g.1 d_Ch_readConstants_80 rfl (lv_at hl 0 rfl) ?_
      refine ww_iconst (pc := 81) g.1 (v := 2) d_Ch_readConstants_81 (by decide) ?_
      refine ww_aload_n (pc := 82) g.1 d_Ch_readConstants_82 rfl (lv_at hl 0 rfl) ?_
      refine ww_gI (pc := 83) g (k := 14) cl_Ch (pz rfl (by decide)) (by decide) (Or.inl kw_655) (f := 12942) rfl rfl d_Ch_readConstants_83 h fun v83 h => ?_
      refine ww_iconst (pc := 86) g.1 (v := 1) d_Ch_readConstants_86 (by decide) ?_
      refine ww_isub (pc := 87) g.1 d_Ch_readConstants_87 ?_
      obtain ⟨v88, s, hc88, h⟩ := oB_of h
      refine ww_callV (pc := 88) (rest := []) g cv_Ch_refuse (Or.inl kw_671) cl_Ch (pz rfl (by decide)) (ct_Ch_refuse hc88) ⟨by decide, by decide⟩ rfl hl.1 (Nat.le_of_ble_eq_true rfl) d_Ch_readConstants_88 rfl (?_)
      refine ww_st (st' := [.int v88]) rfl ?_
      refine ww_ok h fun cz h => ?_
      exact ww_zretH (pc := 91) g h hR cz d_Ch_readConstants_91
    · intro ls hl
      dsimp only [Sum.elim_inl, Sum.elim_inr] at h
      refine ww_iconst (pc := 100) g.1 (v := 0) d_Ch_readConstants_100 (by decide) ?_
      exact ww_zretH (pc := 101) g h hR (Or.inl rfl) d_Ch_readConstants_101
    · intro ls hl
      dsimp only [Sum.elim_inl, Sum.elim_inr] at h
      refine ww_iconst (pc := 108) g.1 (v := 1) d_Ch_readConstants_108 (by decide) ?_
      exact ww_zretH (pc := 109) g h hR (Or.inr rfl) d_Ch_readConstants_109
  · refine ww_iconst (pc := 24) g.1 (v := 0) d_Ch_readConstants_24 (by decide) ?_
    exact ww_zretH (pc := 25) g h hR (Or.inl rfl) d_Ch_readConstants_25

abbrev b_Ch_namesWhatIsThere : ByteArray := prog_3_method_17_code
def y_Ch_namesWhatIsThere : MethodName := ⟨R_Ch, "namesWhatIsThere", "(LLuaMachine$Prototype;I)Z"⟩
abbrev w_Ch_namesWhatIsThere : List Cond := .code y_Ch_namesWhatIsThere b_Ch_namesWhatIsThere 6 (some .boolean) :: wA
set_option maxRecDepth 20000 in
theorem k_Ch_namesWhatIsThere : Cond.code y_Ch_namesWhatIsThere b_Ch_namesWhatIsThere 6 (some .boolean) ∈ wA := kinm (show _ ∈ tables_1 from (List.mem_append_right _ (List.mem_append_right _ (List.mem_append_left _ (List.mem_of_getElem? (l := tables_1_3) (i := 223) rfl))))) rfl
theorem d_Ch_namesWhatIsThere_0 : decode b_Ch_namesWhatIsThere 0 = .ok (.iload_n 1, 1) := by decide +kernel
theorem d_Ch_namesWhatIsThere_1 : decode b_Ch_namesWhatIsThere 1 = .ok (.bipush 63, 2) := by decide +kernel
theorem d_Ch_namesWhatIsThere_3 : decode b_Ch_namesWhatIsThere 3 = .ok (.iand, 1) := by decide +kernel
theorem d_Ch_namesWhatIsThere_4 : decode b_Ch_namesWhatIsThere 4 = .ok (.istore_n 2, 1) := by decide +kernel
theorem d_Ch_namesWhatIsThere_5 : decode b_Ch_namesWhatIsThere 5 = .ok (.iload_n 1, 1) := by decide +kernel
theorem d_Ch_namesWhatIsThere_6 : decode b_Ch_namesWhatIsThere 6 = .ok (.bipush 6, 2) := by decide +kernel
theorem d_Ch_namesWhatIsThere_8 : decode b_Ch_namesWhatIsThere 8 = .ok (.iushr, 1) := by decide +kernel
theorem d_Ch_namesWhatIsThere_9 : decode b_Ch_namesWhatIsThere 9 = .ok (.sipush 255, 3) := by decide +kernel
theorem d_Ch_namesWhatIsThere_12 : decode b_Ch_namesWhatIsThere 12 = .ok (.iand, 1) := by decide +kernel
theorem d_Ch_namesWhatIsThere_13 : decode b_Ch_namesWhatIsThere 13 = .ok (.istore_n 3, 1) := by decide +kernel
theorem d_Ch_namesWhatIsThere_14 : decode b_Ch_namesWhatIsThere 14 = .ok (.iload_n 1, 1) := by decide +kernel
theorem d_Ch_namesWhatIsThere_15 : decode b_Ch_namesWhatIsThere 15 = .ok (.bipush 23, 2) := by decide +kernel
theorem d_Ch_namesWhatIsThere_17 : decode b_Ch_namesWhatIsThere 17 = .ok (.iushr, 1) := by decide +kernel
theorem d_Ch_namesWhatIsThere_18 : decode b_Ch_namesWhatIsThere 18 = .ok (.istore 4, 2) := by decide +kernel
theorem d_Ch_namesWhatIsThere_20 : decode b_Ch_namesWhatIsThere 20 = .ok (.iload_n 1, 1) := by decide +kernel
theorem d_Ch_namesWhatIsThere_21 : decode b_Ch_namesWhatIsThere 21 = .ok (.bipush 14, 2) := by decide +kernel
theorem d_Ch_namesWhatIsThere_23 : decode b_Ch_namesWhatIsThere 23 = .ok (.iushr, 1) := by decide +kernel
theorem d_Ch_namesWhatIsThere_24 : decode b_Ch_namesWhatIsThere 24 = .ok (.sipush 511, 3) := by decide +kernel
theorem d_Ch_namesWhatIsThere_27 : decode b_Ch_namesWhatIsThere 27 = .ok (.iand, 1) := by decide +kernel
theorem d_Ch_namesWhatIsThere_28 : decode b_Ch_namesWhatIsThere 28 = .ok (.istore 5, 2) := by decide +kernel
theorem d_Ch_namesWhatIsThere_30 : decode b_Ch_namesWhatIsThere 30 = .ok (.ldc 166, 2) := by decide +kernel
theorem d_Ch_namesWhatIsThere_32 : decode b_Ch_namesWhatIsThere 32 = .ok (.iload_n 2, 1) := by decide +kernel
theorem d_Ch_namesWhatIsThere_33 : decode b_Ch_namesWhatIsThere 33 = .ok (.invokevirtual 168, 3) := by decide +kernel
theorem d_Ch_namesWhatIsThere_36 : decode b_Ch_namesWhatIsThere 36 = .ok (.iload_n 3, 1) := by decide +kernel
theorem d_Ch_namesWhatIsThere_37 : decode b_Ch_namesWhatIsThere 37 = .ok (.aload_n 0, 1) := by decide +kernel
theorem d_Ch_namesWhatIsThere_38 : decode b_Ch_namesWhatIsThere 38 = .ok (.invokestatic 174, 3) := by decide +kernel
theorem d_Ch_namesWhatIsThere_41 : decode b_Ch_namesWhatIsThere 41 = .ok (.ifCond .eq 49, 3) := by decide +kernel
theorem d_Ch_namesWhatIsThere_44 : decode b_Ch_namesWhatIsThere 44 = .ok (.ldc 178, 2) := by decide +kernel
theorem d_Ch_namesWhatIsThere_46 : decode b_Ch_namesWhatIsThere 46 = .ok (.iload_n 2, 1) := by decide +kernel
theorem d_Ch_namesWhatIsThere_47 : decode b_Ch_namesWhatIsThere 47 = .ok (.invokevirtual 168, 3) := by decide +kernel
theorem d_Ch_namesWhatIsThere_50 : decode b_Ch_namesWhatIsThere 50 = .ok (.iload 4, 2) := by decide +kernel
theorem d_Ch_namesWhatIsThere_52 : decode b_Ch_namesWhatIsThere 52 = .ok (.aload_n 0, 1) := by decide +kernel
theorem d_Ch_namesWhatIsThere_53 : decode b_Ch_namesWhatIsThere 53 = .ok (.invokestatic 174, 3) := by decide +kernel
theorem d_Ch_namesWhatIsThere_56 : decode b_Ch_namesWhatIsThere 56 = .ok (.ifCond .eq 34, 3) := by decide +kernel
theorem d_Ch_namesWhatIsThere_59 : decode b_Ch_namesWhatIsThere 59 = .ok (.ldc 180, 2) := by decide +kernel
theorem d_Ch_namesWhatIsThere_61 : decode b_Ch_namesWhatIsThere 61 = .ok (.iload_n 2, 1) := by decide +kernel
theorem d_Ch_namesWhatIsThere_62 : decode b_Ch_namesWhatIsThere 62 = .ok (.invokevirtual 168, 3) := by decide +kernel
theorem d_Ch_namesWhatIsThere_65 : decode b_Ch_namesWhatIsThere 65 = .ok (.iload 5, 2) := by decide +kernel
theorem d_Ch_namesWhatIsThere_67 : decode b_Ch_namesWhatIsThere 67 = .ok (.aload_n 0, 1) := by decide +kernel
theorem d_Ch_namesWhatIsThere_68 : decode b_Ch_namesWhatIsThere 68 = .ok (.invokestatic 174, 3) := by decide +kernel
theorem d_Ch_namesWhatIsThere_71 : decode b_Ch_namesWhatIsThere 71 = .ok (.ifCond .eq 19, 3) := by decide +kernel
theorem d_Ch_namesWhatIsThere_74 : decode b_Ch_namesWhatIsThere 74 = .ok (.iload_n 2, 1) := by decide +kernel
theorem d_Ch_namesWhatIsThere_75 : decode b_Ch_namesWhatIsThere 75 = .ok (.iload_n 3, 1) := by decide +kernel
theorem d_Ch_namesWhatIsThere_76 : decode b_Ch_namesWhatIsThere 76 = .ok (.iload 4, 2) := by decide +kernel
theorem d_Ch_namesWhatIsThere_78 : decode b_Ch_namesWhatIsThere 78 = .ok (.iload 5, 2) := by decide +kernel
theorem d_Ch_namesWhatIsThere_80 : decode b_Ch_namesWhatIsThere 80 = .ok (.invokestatic 182, 3) := by decide +kernel
theorem d_Ch_namesWhatIsThere_83 : decode b_Ch_namesWhatIsThere 83 = .ok (.aload_n 0, 1) := by decide +kernel
theorem d_Ch_namesWhatIsThere_84 : decode b_Ch_namesWhatIsThere 84 = .ok (.getfield 113, 3) := by decide +kernel
theorem d_Ch_namesWhatIsThere_87 : decode b_Ch_namesWhatIsThere 87 = .ok (.if_icmp .lt 5, 3) := by decide +kernel
theorem d_Ch_namesWhatIsThere_90 : decode b_Ch_namesWhatIsThere 90 = .ok (.iconst 0, 1) := by decide +kernel
theorem d_Ch_namesWhatIsThere_91 : decode b_Ch_namesWhatIsThere 91 = .ok (.ireturn, 1) := by decide +kernel
theorem d_Ch_namesWhatIsThere_92 : decode b_Ch_namesWhatIsThere 92 = .ok (.iload_n 2, 1) := by decide +kernel
theorem d_Ch_namesWhatIsThere_93 : decode b_Ch_namesWhatIsThere 93 = .ok (.lookupswitch 120 #[(1, 51), (29, 68), (41, 81), (43, 92), (44, 103)], 51) := by decide +kernel
theorem d_Ch_namesWhatIsThere_144 : decode b_Ch_namesWhatIsThere 144 = .ok (.iload_n 1, 1) := by decide +kernel
theorem d_Ch_namesWhatIsThere_145 : decode b_Ch_namesWhatIsThere 145 = .ok (.bipush 14, 2) := by decide +kernel
theorem d_Ch_namesWhatIsThere_147 : decode b_Ch_namesWhatIsThere 147 = .ok (.iushr, 1) := by decide +kernel
theorem d_Ch_namesWhatIsThere_148 : decode b_Ch_namesWhatIsThere 148 = .ok (.aload_n 0, 1) := by decide +kernel
theorem d_Ch_namesWhatIsThere_149 : decode b_Ch_namesWhatIsThere 149 = .ok (.getfield 128, 3) := by decide +kernel
theorem d_Ch_namesWhatIsThere_152 : decode b_Ch_namesWhatIsThere 152 = .ok (.if_icmp .ge 7, 3) := by decide +kernel
theorem d_Ch_namesWhatIsThere_155 : decode b_Ch_namesWhatIsThere 155 = .ok (.iconst 1, 1) := by decide +kernel
theorem d_Ch_namesWhatIsThere_156 : decode b_Ch_namesWhatIsThere 156 = .ok (.goto 4, 3) := by decide +kernel
theorem d_Ch_namesWhatIsThere_159 : decode b_Ch_namesWhatIsThere 159 = .ok (.iconst 0, 1) := by decide +kernel
theorem d_Ch_namesWhatIsThere_160 : decode b_Ch_namesWhatIsThere 160 = .ok (.ireturn, 1) := by decide +kernel
theorem d_Ch_namesWhatIsThere_161 : decode b_Ch_namesWhatIsThere 161 = .ok (.iload 4, 2) := by decide +kernel
theorem d_Ch_namesWhatIsThere_163 : decode b_Ch_namesWhatIsThere 163 = .ok (.iload 5, 2) := by decide +kernel
theorem d_Ch_namesWhatIsThere_165 : decode b_Ch_namesWhatIsThere 165 = .ok (.if_icmp .ge 7, 3) := by decide +kernel
theorem d_Ch_namesWhatIsThere_168 : decode b_Ch_namesWhatIsThere 168 = .ok (.iconst 1, 1) := by decide +kernel
theorem d_Ch_namesWhatIsThere_169 : decode b_Ch_namesWhatIsThere 169 = .ok (.goto 4, 3) := by decide +kernel
theorem d_Ch_namesWhatIsThere_172 : decode b_Ch_namesWhatIsThere 172 = .ok (.iconst 0, 1) := by decide +kernel
theorem d_Ch_namesWhatIsThere_173 : decode b_Ch_namesWhatIsThere 173 = .ok (.ireturn, 1) := by decide +kernel
theorem d_Ch_namesWhatIsThere_174 : decode b_Ch_namesWhatIsThere 174 = .ok (.iload 5, 2) := by decide +kernel
theorem d_Ch_namesWhatIsThere_176 : decode b_Ch_namesWhatIsThere 176 = .ok (.ifCond .le 7, 3) := by decide +kernel
theorem d_Ch_namesWhatIsThere_179 : decode b_Ch_namesWhatIsThere 179 = .ok (.iconst 1, 1) := by decide +kernel
theorem d_Ch_namesWhatIsThere_180 : decode b_Ch_namesWhatIsThere 180 = .ok (.goto 4, 3) := by decide +kernel
theorem d_Ch_namesWhatIsThere_183 : decode b_Ch_namesWhatIsThere 183 = .ok (.iconst 0, 1) := by decide +kernel
theorem d_Ch_namesWhatIsThere_184 : decode b_Ch_namesWhatIsThere 184 = .ok (.ireturn, 1) := by decide +kernel
theorem d_Ch_namesWhatIsThere_185 : decode b_Ch_namesWhatIsThere 185 = .ok (.iload 5, 2) := by decide +kernel
theorem d_Ch_namesWhatIsThere_187 : decode b_Ch_namesWhatIsThere 187 = .ok (.ifCond .le 7, 3) := by decide +kernel
theorem d_Ch_namesWhatIsThere_190 : decode b_Ch_namesWhatIsThere 190 = .ok (.iconst 1, 1) := by decide +kernel
theorem d_Ch_namesWhatIsThere_191 : decode b_Ch_namesWhatIsThere 191 = .ok (.goto 4, 3) := by decide +kernel
theorem d_Ch_namesWhatIsThere_194 : decode b_Ch_namesWhatIsThere 194 = .ok (.iconst 0, 1) := by decide +kernel
theorem d_Ch_namesWhatIsThere_195 : decode b_Ch_namesWhatIsThere 195 = .ok (.ireturn, 1) := by decide +kernel
theorem d_Ch_namesWhatIsThere_196 : decode b_Ch_namesWhatIsThere 196 = .ok (.iload_n 1, 1) := by decide +kernel
theorem d_Ch_namesWhatIsThere_197 : decode b_Ch_namesWhatIsThere 197 = .ok (.bipush 14, 2) := by decide +kernel
theorem d_Ch_namesWhatIsThere_199 : decode b_Ch_namesWhatIsThere 199 = .ok (.iushr, 1) := by decide +kernel
theorem d_Ch_namesWhatIsThere_200 : decode b_Ch_namesWhatIsThere 200 = .ok (.aload_n 0, 1) := by decide +kernel
theorem d_Ch_namesWhatIsThere_201 : decode b_Ch_namesWhatIsThere 201 = .ok (.getfield 70, 3) := by decide +kernel
theorem d_Ch_namesWhatIsThere_204 : decode b_Ch_namesWhatIsThere 204 = .ok (.if_icmp .ge 7, 3) := by decide +kernel
theorem d_Ch_namesWhatIsThere_207 : decode b_Ch_namesWhatIsThere 207 = .ok (.iconst 1, 1) := by decide +kernel
theorem d_Ch_namesWhatIsThere_208 : decode b_Ch_namesWhatIsThere 208 = .ok (.goto 4, 3) := by decide +kernel
theorem d_Ch_namesWhatIsThere_211 : decode b_Ch_namesWhatIsThere 211 = .ok (.iconst 0, 1) := by decide +kernel
theorem d_Ch_namesWhatIsThere_212 : decode b_Ch_namesWhatIsThere 212 = .ok (.ireturn, 1) := by decide +kernel
theorem d_Ch_namesWhatIsThere_213 : decode b_Ch_namesWhatIsThere 213 = .ok (.iconst 1, 1) := by decide +kernel
theorem d_Ch_namesWhatIsThere_214 : decode b_Ch_namesWhatIsThere 214 = .ok (.ireturn, 1) := by decide +kernel
theorem kw_1061 : Cond.methodLink R_Ch 168 y_Str_charAt ∈ wA := kinm (show _ ∈ tables_1 from (List.mem_append_right _ (List.mem_append_right _ (List.mem_append_left _ (List.mem_of_getElem? (l := tables_1_3) (i := 225) (by decide +kernel)))))) (by decide +kernel)
theorem kw_1062 : Cond.methodLink R_Ch 174 y_Ch_isThere ∈ wA := kinm (show _ ∈ tables_1 from (List.mem_append_right _ (List.mem_append_right _ (List.mem_append_right _ (List.mem_append_left _ (List.mem_of_getElem? (l := tables_1_4) (i := 25) (by decide +kernel))))))) (by decide +kernel)
theorem kw_1063 : Cond.methodLink R_Ch 182 y_Ch_lastOfRow ∈ wA := kinm (show _ ∈ tables_1 from (List.mem_append_right _ (List.mem_append_right _ (List.mem_append_right _ (List.mem_append_left _ (List.mem_of_getElem? (l := tables_1_4) (i := 30) (by decide +kernel))))))) (by decide +kernel)
theorem kw_1064 : Cond.static y_Ch_namesWhatIsThere ∈ wA := kinm (show _ ∈ tables_1 from (List.mem_append_right _ (List.mem_append_right _ (List.mem_append_left _ (List.mem_of_getElem? (l := tables_1_3) (i := 222) (by decide +kernel)))))) (by decide +kernel)
theorem cs_Ch_namesWhatIsThere : CS y_Ch_namesWhatIsThere b_Ch_namesWhatIsThere 6 (some .boolean) 2 := ⟨kw_1064, kw_664, k_Ch_namesWhatIsThere, by decide +kernel⟩
theorem ct_Ch_namesWhatIsThere {l : Launch} {P : PP} {q : PL} {s s' : S1} {l0 : Int32} {l1 : Int32} (hp0 : prs s 144 l0) {r : Int32} (h : M_Ch_namesWhatIsThere l0 l1 s = some (r, s')) : Ct l y_Ch_namesWhatIsThere b_Ch_namesWhatIsThere 6 (some .boolean) 5 150 P q s [.ref (q.1 144 l0), .int l1] (some (.int r)) q s' := by
  refine ct_of (by decide) (Nat.le_of_ble_eq_true rfl) fun X ls eP el g hR hl => ?_
  subst eP
  have hR : Rt X q ((r, s') : Int32 × S1).2 (some (.int ((r, s') : Int32 × S1).1)) := hR
  have hl : lv_has ls 6 [(0, .ref (q.1 144 l0)), (1, .int l1)] := hl
  generalize (r, s') = o at h hR
  unfold M_Ch_namesWhatIsThere at h
  refine ww_iload_n (pc := 0) g.1 d_Ch_namesWhatIsThere_0 rfl (lv_at hl 1 rfl) ?_
  refine ww_bipush (pc := 1) g.1 (v := 63) d_Ch_namesWhatIsThere_1 (by decide) ?_
  refine ww_iand (pc := 3) g.1 d_Ch_namesWhatIsThere_3 ?_
  refine ww_leti h fun l2_4 h => ?_
  refine ww_istore_n (pc := 4) (i := 2) g.1 (lv' := [(2, .int l2_4), (0, .ref (q.1 144 l0)), (1, .int l1)]) d_Ch_namesWhatIsThere_4 rfl hl (by decide) rfl fun ls hl => ?_
  refine ww_iload_n (pc := 5) g.1 d_Ch_namesWhatIsThere_5 rfl (lv_at hl 2 rfl) ?_
  refine ww_bipush (pc := 6) g.1 (v := 6) d_Ch_namesWhatIsThere_6 (by decide) ?_
  refine ww_iushr (pc := 8) g.1 (v := iushr l1 (6 : Int32)) d_Ch_namesWhatIsThere_8 rfl ?_
  refine ww_sipush (pc := 9) g.1 (v := 255) d_Ch_namesWhatIsThere_9 (by decide) ?_
  refine ww_iand (pc := 12) g.1 d_Ch_namesWhatIsThere_12 ?_
  refine ww_leti h fun l3_13 h => ?_
  refine ww_istore_n (pc := 13) (i := 3) g.1 (lv' := [(3, .int l3_13), (2, .int l2_4), (0, .ref (q.1 144 l0)), (1, .int l1)]) d_Ch_namesWhatIsThere_13 rfl hl (by decide) rfl fun ls hl => ?_
  refine ww_iload_n (pc := 14) g.1 d_Ch_namesWhatIsThere_14 rfl (lv_at hl 3 rfl) ?_
  refine ww_bipush (pc := 15) g.1 (v := 23) d_Ch_namesWhatIsThere_15 (by decide) ?_
  refine ww_iushr (pc := 17) g.1 (v := iushr l1 (23 : Int32)) d_Ch_namesWhatIsThere_17 rfl ?_
  refine ww_leti h fun l4_18 h => ?_
  refine ww_istore (pc := 18) (i := 4) g.1 (lv' := [(4, .int l4_18), (3, .int l3_13), (2, .int l2_4), (0, .ref (q.1 144 l0)), (1, .int l1)]) d_Ch_namesWhatIsThere_18 hl (by decide) rfl fun ls hl => ?_
  refine ww_iload_n (pc := 20) g.1 d_Ch_namesWhatIsThere_20 rfl (lv_at hl 4 rfl) ?_
  refine ww_bipush (pc := 21) g.1 (v := 14) d_Ch_namesWhatIsThere_21 (by decide) ?_
  refine ww_iushr (pc := 23) g.1 (v := iushr l1 (14 : Int32)) d_Ch_namesWhatIsThere_23 rfl ?_
  refine ww_sipush (pc := 24) g.1 (v := 511) d_Ch_namesWhatIsThere_24 (by decide) ?_
  refine ww_iand (pc := 27) g.1 d_Ch_namesWhatIsThere_27 ?_
  refine ww_leti h fun l5_28 h => ?_
  refine ww_istore (pc := 28) (i := 5) g.1 (lv' := [(5, .int l5_28), (4, .int l4_18), (3, .int l3_13), (2, .int l2_4), (0, .ref (q.1 144 l0)), (1, .int l1)]) d_Ch_namesWhatIsThere_28 hl (by decide) rfl fun ls hl => ?_
  refine ww_ldcS (pc := 30) g (n := 57) (by decide) rfl rfl d_Ch_namesWhatIsThere_30 ?_
  refine ww_iload_n (pc := 32) g.1 d_Ch_namesWhatIsThere_32 rfl (lv_at hl 3 rfl) ?_
  refine ww_ok h fun cs33 h => ?_
  refine ww_schar (pc := 33) g (n := 57) (by decide) cs33 kw_1061 ⟨by decide, by decide⟩ hl.1 (Nat.le_of_ble_eq_true rfl) d_Ch_namesWhatIsThere_33 ?_
  refine ww_iload_n (pc := 36) g.1 d_Ch_namesWhatIsThere_36 rfl (lv_at hl 2 rfl) ?_
  refine ww_aload_n (pc := 37) g.1 d_Ch_namesWhatIsThere_37 rfl (lv_at hl 4 rfl) ?_
  refine ww_lo fun dlo => ?_
  obtain ⟨v38, s, hc38, h⟩ := oB_of h
  refine ww_callS (pc := 38) (rest := []) g cs_Ch_isThere (Or.inl kw_1062) (ct_Ch_isThere hp0 hc38) ⟨by decide, by decide⟩ rfl hl.1 (Nat.le_of_ble_eq_true rfl) d_Ch_namesWhatIsThere_38 rfl (?_)
  refine ww_st (st' := [.int v38]) rfl ?_
  refine ww_hi fun dhi => ?_
  have hp0 : prs s 144 l0 := dhi _ _ hp0.2.1 hp0.2.2 (dlo _ _ hp0)
  refine ww_if_eq (pc := 41) (tgt := 90) g.1 d_Ch_namesWhatIsThere_41 (by decide) h (fun c h => ?_) (fun c h => ?_)
  · refine ww_iconst (pc := 90) g.1 (v := 0) d_Ch_namesWhatIsThere_90 (by decide) ?_
    exact ww_zretH (pc := 91) g h hR (Or.inl rfl) d_Ch_namesWhatIsThere_91
  · refine ww_ldcS (pc := 44) g (n := 58) (by decide) rfl rfl d_Ch_namesWhatIsThere_44 ?_
    refine ww_iload_n (pc := 46) g.1 d_Ch_namesWhatIsThere_46 rfl (lv_at hl 3 rfl) ?_
    refine ww_ok h fun cs47 h => ?_
    refine ww_schar (pc := 47) g (n := 58) (by decide) cs47 kw_1061 ⟨by decide, by decide⟩ hl.1 (Nat.le_of_ble_eq_true rfl) d_Ch_namesWhatIsThere_47 ?_
    refine ww_iload (pc := 50) g.1 d_Ch_namesWhatIsThere_50 (lv_at hl 1 rfl) ?_
    refine ww_aload_n (pc := 52) g.1 d_Ch_namesWhatIsThere_52 rfl (lv_at hl 4 rfl) ?_
    refine ww_lo fun dlo => ?_
    obtain ⟨v53, s, hc53, h⟩ := oB_of h
    refine ww_callS (pc := 53) (rest := []) g cs_Ch_isThere (Or.inl kw_1062) (ct_Ch_isThere hp0 hc53) ⟨by decide, by decide⟩ rfl hl.1 (Nat.le_of_ble_eq_true rfl) d_Ch_namesWhatIsThere_53 rfl (?_)
    refine ww_st (st' := [.int v53]) rfl ?_
    refine ww_hi fun dhi => ?_
    have hp0 : prs s 144 l0 := dhi _ _ hp0.2.1 hp0.2.2 (dlo _ _ hp0)
    refine ww_if_eq (pc := 56) (tgt := 90) g.1 d_Ch_namesWhatIsThere_56 (by decide) h (fun c h => ?_) (fun c h => ?_)
    · refine ww_iconst (pc := 90) g.1 (v := 0) d_Ch_namesWhatIsThere_90 (by decide) ?_
      exact ww_zretH (pc := 91) g h hR (Or.inl rfl) d_Ch_namesWhatIsThere_91
    · refine ww_ldcS (pc := 59) g (n := 59) (by decide) rfl rfl d_Ch_namesWhatIsThere_59 ?_
      refine ww_iload_n (pc := 61) g.1 d_Ch_namesWhatIsThere_61 rfl (lv_at hl 3 rfl) ?_
      refine ww_ok h fun cs62 h => ?_
      refine ww_schar (pc := 62) g (n := 59) (by decide) cs62 kw_1061 ⟨by decide, by decide⟩ hl.1 (Nat.le_of_ble_eq_true rfl) d_Ch_namesWhatIsThere_62 ?_
      refine ww_iload (pc := 65) g.1 d_Ch_namesWhatIsThere_65 (lv_at hl 0 rfl) ?_
      refine ww_aload_n (pc := 67) g.1 d_Ch_namesWhatIsThere_67 rfl (lv_at hl 4 rfl) ?_
      refine ww_lo fun dlo => ?_
      obtain ⟨v68, s, hc68, h⟩ := oB_of h
      refine ww_callS (pc := 68) (rest := []) g cs_Ch_isThere (Or.inl kw_1062) (ct_Ch_isThere hp0 hc68) ⟨by decide, by decide⟩ rfl hl.1 (Nat.le_of_ble_eq_true rfl) d_Ch_namesWhatIsThere_68 rfl (?_)
      refine ww_st (st' := [.int v68]) rfl ?_
      refine ww_hi fun dhi => ?_
      have hp0 : prs s 144 l0 := dhi _ _ hp0.2.1 hp0.2.2 (dlo _ _ hp0)
      refine ww_if_eq (pc := 71) (tgt := 90) g.1 d_Ch_namesWhatIsThere_71 (by decide) h (fun c h => ?_) (fun c h => ?_)
      · refine ww_iconst (pc := 90) g.1 (v := 0) d_Ch_namesWhatIsThere_90 (by decide) ?_
        exact ww_zretH (pc := 91) g h hR (Or.inl rfl) d_Ch_namesWhatIsThere_91
      · refine ww_iload_n (pc := 74) g.1 d_Ch_namesWhatIsThere_74 rfl (lv_at hl 3 rfl) ?_
        refine ww_iload_n (pc := 75) g.1 d_Ch_namesWhatIsThere_75 rfl (lv_at hl 2 rfl) ?_
        refine ww_iload (pc := 76) g.1 d_Ch_namesWhatIsThere_76 (lv_at hl 1 rfl) ?_
        refine ww_iload (pc := 78) g.1 d_Ch_namesWhatIsThere_78 (lv_at hl 0 rfl) ?_
        refine ww_lo fun dlo => ?_
        obtain ⟨v80, s, hc80, h⟩ := oB_of h
        refine ww_callS (pc := 80) (rest := []) g cs_Ch_lastOfRow (Or.inl kw_1063) (ct_Ch_lastOfRow hc80) ⟨by decide, by decide⟩ rfl hl.1 (Nat.le_of_ble_eq_true rfl) d_Ch_namesWhatIsThere_80 rfl (?_)
        refine ww_st (st' := [.int v80]) rfl ?_
        refine ww_hi fun dhi => ?_
        have hp0 : prs s 144 l0 := dhi _ _ hp0.2.1 hp0.2.2 (dlo _ _ hp0)
        refine ww_aload_n (pc := 83) g.1 d_Ch_namesWhatIsThere_83 rfl (lv_at hl 4 rfl) ?_
        refine ww_gI (pc := 84) g (k := 2) cl_Pr hp0 (by decide) (Or.inl kw_675) (f := 18434) rfl rfl d_Ch_namesWhatIsThere_84 h fun v84 h => ?_
        refine ww_icmp_lt (pc := 87) (tgt := 92) g.1 d_Ch_namesWhatIsThere_87 (by decide) h (fun c h => ?_) (fun c h => ?_)
        · refine ww_iload_n (pc := 92) g.1 d_Ch_namesWhatIsThere_92 rfl (lv_at hl 3 rfl) ?_
          by_cases c93_144 : l2_4 = 1
          · have h := oC_pos c93_144 h
            have c := c93_144
            refine ww_lookup (pc := 93) (tgt := 144) g.1 d_Ch_namesWhatIsThere_93 (by decide) (by rw [c] <;> rfl) (by decide) ?_
            refine ww_iload_n (pc := 144) g.1 d_Ch_namesWhatIsThere_144 rfl (lv_at hl 5 rfl) ?_
            refine ww_bipush (pc := 145) g.1 (v := 14) d_Ch_namesWhatIsThere_145 (by decide) ?_
            refine ww_iushr (pc := 147) g.1 (v := iushr l1 (14 : Int32)) d_Ch_namesWhatIsThere_147 rfl ?_
            refine ww_aload_n (pc := 148) g.1 d_Ch_namesWhatIsThere_148 rfl (lv_at hl 4 rfl) ?_
            refine ww_gI (pc := 149) g (k := 5) cl_Pr hp0 (by decide) (Or.inl kw_696) (f := 18437) rfl rfl d_Ch_namesWhatIsThere_149 h fun v149 h => ?_
            refine ww_icmp_ge (pc := 152) (tgt := 159) g.1 d_Ch_namesWhatIsThere_152 (by decide) h (fun c h => ?_) (fun c h => ?_)
            · refine ww_iconst (pc := 159) g.1 (v := 0) d_Ch_namesWhatIsThere_159 (by decide) ?_
              exact ww_zretH (pc := 160) g h hR (Or.inl rfl) d_Ch_namesWhatIsThere_160
            · refine ww_iconst (pc := 155) g.1 (v := 1) d_Ch_namesWhatIsThere_155 (by decide) ?_
              refine ww_goto (pc := 156) (tgt := 160) g.1 d_Ch_namesWhatIsThere_156 (by decide) ?_
              exact ww_zretH (pc := 160) g h hR (Or.inr rfl) d_Ch_namesWhatIsThere_160
          have h := oC_neg c93_144 h
          by_cases c93_161 : l2_4 = 29
          · have h := oC_pos c93_161 h
            have c := c93_161
            refine ww_lookup (pc := 93) (tgt := 161) g.1 d_Ch_namesWhatIsThere_93 (by decide) (by rw [c] <;> rfl) (by decide) ?_
            refine ww_iload (pc := 161) g.1 d_Ch_namesWhatIsThere_161 (lv_at hl 1 rfl) ?_
            refine ww_iload (pc := 163) g.1 d_Ch_namesWhatIsThere_163 (lv_at hl 0 rfl) ?_
            refine ww_icmp_ge (pc := 165) (tgt := 172) g.1 d_Ch_namesWhatIsThere_165 (by decide) h (fun c h => ?_) (fun c h => ?_)
            · refine ww_iconst (pc := 172) g.1 (v := 0) d_Ch_namesWhatIsThere_172 (by decide) ?_
              exact ww_zretH (pc := 173) g h hR (Or.inl rfl) d_Ch_namesWhatIsThere_173
            · refine ww_iconst (pc := 168) g.1 (v := 1) d_Ch_namesWhatIsThere_168 (by decide) ?_
              refine ww_goto (pc := 169) (tgt := 173) g.1 d_Ch_namesWhatIsThere_169 (by decide) ?_
              exact ww_zretH (pc := 173) g h hR (Or.inr rfl) d_Ch_namesWhatIsThere_173
          have h := oC_neg c93_161 h
          by_cases c93_174 : l2_4 = 41
          · have h := oC_pos c93_174 h
            have c := c93_174
            refine ww_lookup (pc := 93) (tgt := 174) g.1 d_Ch_namesWhatIsThere_93 (by decide) (by rw [c] <;> rfl) (by decide) ?_
            refine ww_iload (pc := 174) g.1 d_Ch_namesWhatIsThere_174 (lv_at hl 0 rfl) ?_
            refine ww_if_le (pc := 176) (tgt := 183) g.1 d_Ch_namesWhatIsThere_176 (by decide) h (fun c h => ?_) (fun c h => ?_)
            · refine ww_iconst (pc := 183) g.1 (v := 0) d_Ch_namesWhatIsThere_183 (by decide) ?_
              exact ww_zretH (pc := 184) g h hR (Or.inl rfl) d_Ch_namesWhatIsThere_184
            · refine ww_iconst (pc := 179) g.1 (v := 1) d_Ch_namesWhatIsThere_179 (by decide) ?_
              refine ww_goto (pc := 180) (tgt := 184) g.1 d_Ch_namesWhatIsThere_180 (by decide) ?_
              exact ww_zretH (pc := 184) g h hR (Or.inr rfl) d_Ch_namesWhatIsThere_184
          have h := oC_neg c93_174 h
          by_cases c93_185 : l2_4 = 43
          · have h := oC_pos c93_185 h
            have c := c93_185
            refine ww_lookup (pc := 93) (tgt := 185) g.1 d_Ch_namesWhatIsThere_93 (by decide) (by rw [c] <;> rfl) (by decide) ?_
            refine ww_iload (pc := 185) g.1 d_Ch_namesWhatIsThere_185 (lv_at hl 0 rfl) ?_
            refine ww_if_le (pc := 187) (tgt := 194) g.1 d_Ch_namesWhatIsThere_187 (by decide) h (fun c h => ?_) (fun c h => ?_)
            · refine ww_iconst (pc := 194) g.1 (v := 0) d_Ch_namesWhatIsThere_194 (by decide) ?_
              exact ww_zretH (pc := 195) g h hR (Or.inl rfl) d_Ch_namesWhatIsThere_195
            · refine ww_iconst (pc := 190) g.1 (v := 1) d_Ch_namesWhatIsThere_190 (by decide) ?_
              refine ww_goto (pc := 191) (tgt := 195) g.1 d_Ch_namesWhatIsThere_191 (by decide) ?_
              exact ww_zretH (pc := 195) g h hR (Or.inr rfl) d_Ch_namesWhatIsThere_195
          have h := oC_neg c93_185 h
          by_cases c93_196 : l2_4 = 44
          · have h := oC_pos c93_196 h
            have c := c93_196
            refine ww_lookup (pc := 93) (tgt := 196) g.1 d_Ch_namesWhatIsThere_93 (by decide) (by rw [c] <;> rfl) (by decide) ?_
            refine ww_iload_n (pc := 196) g.1 d_Ch_namesWhatIsThere_196 rfl (lv_at hl 5 rfl) ?_
            refine ww_bipush (pc := 197) g.1 (v := 14) d_Ch_namesWhatIsThere_197 (by decide) ?_
            refine ww_iushr (pc := 199) g.1 (v := iushr l1 (14 : Int32)) d_Ch_namesWhatIsThere_199 rfl ?_
            refine ww_aload_n (pc := 200) g.1 d_Ch_namesWhatIsThere_200 rfl (lv_at hl 4 rfl) ?_
            refine ww_gI (pc := 201) g (k := 10) cl_Pr hp0 (by decide) (Or.inl kw_691) (f := 18442) rfl rfl d_Ch_namesWhatIsThere_201 h fun v201 h => ?_
            refine ww_icmp_ge (pc := 204) (tgt := 211) g.1 d_Ch_namesWhatIsThere_204 (by decide) h (fun c h => ?_) (fun c h => ?_)
            · refine ww_iconst (pc := 211) g.1 (v := 0) d_Ch_namesWhatIsThere_211 (by decide) ?_
              exact ww_zretH (pc := 212) g h hR (Or.inl rfl) d_Ch_namesWhatIsThere_212
            · refine ww_iconst (pc := 207) g.1 (v := 1) d_Ch_namesWhatIsThere_207 (by decide) ?_
              refine ww_goto (pc := 208) (tgt := 212) g.1 d_Ch_namesWhatIsThere_208 (by decide) ?_
              exact ww_zretH (pc := 212) g h hR (Or.inr rfl) d_Ch_namesWhatIsThere_212
          have h := oC_neg c93_196 h
          have n_1 : ¬ l2_4.toInt = 1 := lv_neT (fun e => c93_144 e) rfl
          have n_29 : ¬ l2_4.toInt = 29 := lv_neT (fun e => c93_161 e) rfl
          have n_41 : ¬ l2_4.toInt = 41 := lv_neT (fun e => c93_174 e) rfl
          have n_43 : ¬ l2_4.toInt = 43 := lv_neT (fun e => c93_185 e) rfl
          have n_44 : ¬ l2_4.toInt = 44 := lv_neT (fun e => c93_196 e) rfl
          refine ww_lookup (pc := 93) (tgt := 213) (off := 120) g.1 d_Ch_namesWhatIsThere_93 (by decide) ((lv_osw (x := l2_4) (k := 1) (a := 1) (o := 51) (d := 120) (r := [(29, 68), (41, 81), (43, 92), (44, 103)]) (fun e => n_1 (by rw [e] <;> rfl)) rfl).trans ((lv_osw (x := l2_4) (k := 29) (a := 29) (o := 68) (d := 120) (r := [(41, 81), (43, 92), (44, 103)]) (fun e => n_29 (by rw [e] <;> rfl)) rfl).trans ((lv_osw (x := l2_4) (k := 41) (a := 41) (o := 81) (d := 120) (r := [(43, 92), (44, 103)]) (fun e => n_41 (by rw [e] <;> rfl)) rfl).trans ((lv_osw (x := l2_4) (k := 43) (a := 43) (o := 92) (d := 120) (r := [(44, 103)]) (fun e => n_43 (by rw [e] <;> rfl)) rfl).trans ((lv_osw (x := l2_4) (k := 44) (a := 44) (o := 103) (d := 120) (r := []) (fun e => n_44 (by rw [e] <;> rfl)) rfl).trans rfl))))) (by decide) ?_
          refine ww_iconst (pc := 213) g.1 (v := 1) d_Ch_namesWhatIsThere_213 (by decide) ?_
          exact ww_zretH (pc := 214) g h hR (Or.inr rfl) d_Ch_namesWhatIsThere_214
        · refine ww_iconst (pc := 90) g.1 (v := 0) d_Ch_namesWhatIsThere_90 (by decide) ?_
          exact ww_zretH (pc := 91) g h hR (Or.inl rfl) d_Ch_namesWhatIsThere_91

abbrev b_Ch_mayBeReached : ByteArray := prog_3_method_21_code
def y_Ch_mayBeReached : MethodName := ⟨R_Ch, "mayBeReached", "(LLuaMachine$Prototype;I)Z"⟩
abbrev w_Ch_mayBeReached : List Cond := .code y_Ch_mayBeReached b_Ch_mayBeReached 3 (some .boolean) :: wA
theorem k_Ch_mayBeReached : Cond.code y_Ch_mayBeReached b_Ch_mayBeReached 3 (some .boolean) ∈ wA := kinm (show _ ∈ tables_1 from (List.mem_append_right _ (List.mem_append_right _ (List.mem_append_right _ (List.mem_append_left _ (List.mem_of_getElem? (l := tables_1_4) (i := 43) (by decide +kernel))))))) (by decide +kernel)
theorem d_Ch_mayBeReached_0 : decode b_Ch_mayBeReached 0 = .ok (.iload_n 2, 1) := by decide +kernel
theorem d_Ch_mayBeReached_1 : decode b_Ch_mayBeReached 1 = .ok (.ifCond .lt 32, 3) := by decide +kernel
theorem d_Ch_mayBeReached_4 : decode b_Ch_mayBeReached 4 = .ok (.iload_n 2, 1) := by decide +kernel
theorem d_Ch_mayBeReached_5 : decode b_Ch_mayBeReached 5 = .ok (.aload_n 1, 1) := by decide +kernel
theorem d_Ch_mayBeReached_6 : decode b_Ch_mayBeReached 6 = .ok (.getfield 140, 3) := by decide +kernel
theorem d_Ch_mayBeReached_9 : decode b_Ch_mayBeReached 9 = .ok (.if_icmp .ge 24, 3) := by decide +kernel
theorem d_Ch_mayBeReached_12 : decode b_Ch_mayBeReached 12 = .ok (.aload_n 0, 1) := by decide +kernel
theorem d_Ch_mayBeReached_13 : decode b_Ch_mayBeReached 13 = .ok (.getfield 21, 3) := by decide +kernel
theorem d_Ch_mayBeReached_16 : decode b_Ch_mayBeReached 16 = .ok (.aload_n 1, 1) := by decide +kernel
theorem d_Ch_mayBeReached_17 : decode b_Ch_mayBeReached 17 = .ok (.getfield 137, 3) := by decide +kernel
theorem d_Ch_mayBeReached_20 : decode b_Ch_mayBeReached 20 = .ok (.iload_n 2, 1) := by decide +kernel
theorem d_Ch_mayBeReached_21 : decode b_Ch_mayBeReached 21 = .ok (.iadd, 1) := by decide +kernel
theorem d_Ch_mayBeReached_22 : decode b_Ch_mayBeReached 22 = .ok (.iaload, 1) := by decide +kernel
theorem d_Ch_mayBeReached_23 : decode b_Ch_mayBeReached 23 = .ok (.invokestatic 196, 3) := by decide +kernel
theorem d_Ch_mayBeReached_26 : decode b_Ch_mayBeReached 26 = .ok (.ifCond .ne 7, 3) := by decide +kernel
theorem d_Ch_mayBeReached_29 : decode b_Ch_mayBeReached 29 = .ok (.iconst 1, 1) := by decide +kernel
theorem d_Ch_mayBeReached_30 : decode b_Ch_mayBeReached 30 = .ok (.goto 4, 3) := by decide +kernel
theorem d_Ch_mayBeReached_33 : decode b_Ch_mayBeReached 33 = .ok (.iconst 0, 1) := by decide +kernel
theorem d_Ch_mayBeReached_34 : decode b_Ch_mayBeReached 34 = .ok (.ireturn, 1) := by decide +kernel
theorem kw_1065 : Cond.methodLink R_Ch 196 y_Ch_usesOpenRow ∈ wA := kinm (show _ ∈ tables_1 from (List.mem_append_right _ (List.mem_append_right _ (List.mem_append_right _ (List.mem_append_left _ (List.mem_of_getElem? (l := tables_1_4) (i := 44) (by decide +kernel))))))) (by decide +kernel)
theorem kw_1066 : Cond.instanceMethod y_Ch_mayBeReached ∈ wA := kinm (show _ ∈ tables_1 from (List.mem_append_right _ (List.mem_append_right _ (List.mem_append_right _ (List.mem_append_left _ (List.mem_of_getElem? (l := tables_1_4) (i := 42) (by decide +kernel))))))) (by decide +kernel)
theorem kw_1067 : Cond.selects R_Ch y_Ch_mayBeReached y_Ch_mayBeReached ∈ wA := kinp 15 (by decide +kernel) (by decide +kernel)
theorem cv_Ch_mayBeReached : CV y_Ch_mayBeReached b_Ch_mayBeReached 3 (some .boolean) 2 := ⟨kw_1066, kw_1067, kw_664, k_Ch_mayBeReached, by decide +kernel⟩
theorem j_Ch_mayBeReached_j33 {X : Cx} {q : PL} (g : Gd X y_Ch_mayBeReached b_Ch_mayBeReached 3 (some .boolean) 1 21 R_Ch) {o : (Int32) × S1} (hR : Rt X q o.2 (some (.int o.1)))  (s : S1) (ls : Array Slot) (hl : lv_has ls 3 []) (h : M_Ch_mayBeReached_j33 s = some o) : WW X q s 33 ls [] := by
  unfold M_Ch_mayBeReached_j33 at h
  refine ww_iconst (pc := 33) g.1 (v := 0) d_Ch_mayBeReached_33 (by decide) ?_
  exact ww_zretH (pc := 34) g h hR (Or.inl rfl) d_Ch_mayBeReached_34

theorem ct_Ch_mayBeReached {l : Launch} {P : PP} {q : PL} {s s' : S1} {l1 : Int32} {l2 : Int32} (hp0 : prs s 144 l1) {r : Int32} (h : M_Ch_mayBeReached l1 l2 s = some (r, s')) : Ct l y_Ch_mayBeReached b_Ch_mayBeReached 3 (some .boolean) 1 21 P q s [.ref (q.1 101 0), .ref (q.1 144 l1), .int l2] (some (.int r)) q s' := by
  refine ct_of (by decide) (Nat.le_of_ble_eq_true rfl) fun X ls eP el g hR hl => ?_
  subst eP
  have hR : Rt X q ((r, s') : Int32 × S1).2 (some (.int ((r, s') : Int32 × S1).1)) := hR
  have hl : lv_has ls 3 [(0, .ref (q.1 101 0)), (1, .ref (q.1 144 l1)), (2, .int l2)] := hl
  generalize (r, s') = o at h hR
  unfold M_Ch_mayBeReached at h
  refine ww_iload_n (pc := 0) g.1 d_Ch_mayBeReached_0 rfl (lv_at hl 2 rfl) ?_
  refine ww_if_lt (pc := 1) (tgt := 33) g.1 d_Ch_mayBeReached_1 (by decide) h (fun c h => ?_) (fun c h => ?_)
  · exact j_Ch_mayBeReached_j33 g hR s ls (lv_sub hl [] rfl) h
  · refine ww_iload_n (pc := 4) g.1 d_Ch_mayBeReached_4 rfl (lv_at hl 2 rfl) ?_
    refine ww_aload_n (pc := 5) g.1 d_Ch_mayBeReached_5 rfl (lv_at hl 1 rfl) ?_
    refine ww_gI (pc := 6) g (k := 7) cl_Pr hp0 (by decide) (Or.inl kw_684) (f := 18439) rfl rfl d_Ch_mayBeReached_6 h fun v6 h => ?_
    refine ww_icmp_ge (pc := 9) (tgt := 33) g.1 d_Ch_mayBeReached_9 (by decide) h (fun c h => ?_) (fun c h => ?_)
    · exact j_Ch_mayBeReached_j33 g hR s ls (lv_sub hl [] rfl) h
    · refine ww_aload_n (pc := 12) g.1 d_Ch_mayBeReached_12 rfl (lv_at hl 0 rfl) ?_
      refine ww_gR (pc := 13) g (k := 2) cl_Ch (pz rfl (by decide)) (by decide) (Or.inl kw_686) (f := 12930) (t := 104) rfl rfl rfl d_Ch_mayBeReached_13 ?_
      refine ww_aload_n (pc := 16) g.1 d_Ch_mayBeReached_16 rfl (lv_at hl 1 rfl) ?_
      refine ww_gI (pc := 17) g (k := 8) cl_Pr hp0 (by decide) (Or.inl kw_683) (f := 18440) rfl rfl d_Ch_mayBeReached_17 h fun v17 h => ?_
      refine ww_iload_n (pc := 20) g.1 d_Ch_mayBeReached_20 rfl (lv_at hl 2 rfl) ?_
      refine ww_iadd (pc := 21) g.1 d_Ch_mayBeReached_21 ?_
      refine ww_ai (pc := 22) g (pz rfl (by decide)) rfl rfl d_Ch_mayBeReached_22 h fun v22 h => ?_
      refine ww_lo fun dlo => ?_
      obtain ⟨v23, s, hc23, h⟩ := oB_of h
      refine ww_callS (pc := 23) (rest := []) g cs_Ch_usesOpenRow (Or.inl kw_1065) (ct_Ch_usesOpenRow hc23) ⟨by decide, by decide⟩ rfl hl.1 (Nat.le_of_ble_eq_true rfl) d_Ch_mayBeReached_23 rfl (?_)
      refine ww_st (st' := [.int v23]) rfl ?_
      refine ww_hi fun dhi => ?_
      have hp0 : prs s 144 l1 := dhi _ _ hp0.2.1 hp0.2.2 (dlo _ _ hp0)
      refine ww_if_ne (pc := 26) (tgt := 33) g.1 d_Ch_mayBeReached_26 (by decide) h (fun c h => ?_) (fun c h => ?_)
      · exact j_Ch_mayBeReached_j33 g hR s ls (lv_sub hl [] rfl) h
      · refine ww_iconst (pc := 29) g.1 (v := 1) d_Ch_mayBeReached_29 (by decide) ?_
        refine ww_goto (pc := 30) (tgt := 34) g.1 d_Ch_mayBeReached_30 (by decide) ?_
        exact ww_zretH (pc := 34) g h hR (Or.inr rfl) d_Ch_mayBeReached_34

abbrev b_Ch_keepsOpenRows : ByteArray := prog_3_method_24_code
def y_Ch_keepsOpenRows : MethodName := ⟨R_Ch, "keepsOpenRows", "(LLuaMachine$Prototype;II)Z"⟩
abbrev w_Ch_keepsOpenRows : List Cond := .code y_Ch_keepsOpenRows b_Ch_keepsOpenRows 6 (some .boolean) :: wA
theorem k_Ch_keepsOpenRows : Cond.code y_Ch_keepsOpenRows b_Ch_keepsOpenRows 6 (some .boolean) ∈ wA := kinm (show _ ∈ tables_1 from (List.mem_append_right _ (List.mem_append_right _ (List.mem_append_right _ (List.mem_append_left _ (List.mem_of_getElem? (l := tables_1_4) (i := 51) (by decide +kernel))))))) (by decide +kernel)
theorem d_Ch_keepsOpenRows_0 : decode b_Ch_keepsOpenRows 0 = .ok (.iload_n 3, 1) := by decide +kernel
theorem d_Ch_keepsOpenRows_1 : decode b_Ch_keepsOpenRows 1 = .ok (.invokestatic 196, 3) := by decide +kernel
theorem d_Ch_keepsOpenRows_4 : decode b_Ch_keepsOpenRows 4 = .ok (.ifCond .eq 28, 3) := by decide +kernel
theorem d_Ch_keepsOpenRows_7 : decode b_Ch_keepsOpenRows 7 = .ok (.iload_n 2, 1) := by decide +kernel
theorem d_Ch_keepsOpenRows_8 : decode b_Ch_keepsOpenRows 8 = .ok (.ifCond .eq 22, 3) := by decide +kernel
theorem d_Ch_keepsOpenRows_11 : decode b_Ch_keepsOpenRows 11 = .ok (.aload_n 0, 1) := by decide +kernel
theorem d_Ch_keepsOpenRows_12 : decode b_Ch_keepsOpenRows 12 = .ok (.getfield 21, 3) := by decide +kernel
theorem d_Ch_keepsOpenRows_15 : decode b_Ch_keepsOpenRows 15 = .ok (.aload_n 1, 1) := by decide +kernel
theorem d_Ch_keepsOpenRows_16 : decode b_Ch_keepsOpenRows 16 = .ok (.getfield 137, 3) := by decide +kernel
theorem d_Ch_keepsOpenRows_19 : decode b_Ch_keepsOpenRows 19 = .ok (.iload_n 2, 1) := by decide +kernel
theorem d_Ch_keepsOpenRows_20 : decode b_Ch_keepsOpenRows 20 = .ok (.iadd, 1) := by decide +kernel
theorem d_Ch_keepsOpenRows_21 : decode b_Ch_keepsOpenRows 21 = .ok (.iconst 1, 1) := by decide +kernel
theorem d_Ch_keepsOpenRows_22 : decode b_Ch_keepsOpenRows 22 = .ok (.isub, 1) := by decide +kernel
theorem d_Ch_keepsOpenRows_23 : decode b_Ch_keepsOpenRows 23 = .ok (.iaload, 1) := by decide +kernel
theorem d_Ch_keepsOpenRows_24 : decode b_Ch_keepsOpenRows 24 = .ok (.invokestatic 199, 3) := by decide +kernel
theorem d_Ch_keepsOpenRows_27 : decode b_Ch_keepsOpenRows 27 = .ok (.ifCond .ne 5, 3) := by decide +kernel
theorem d_Ch_keepsOpenRows_30 : decode b_Ch_keepsOpenRows 30 = .ok (.iconst 0, 1) := by decide +kernel
theorem d_Ch_keepsOpenRows_31 : decode b_Ch_keepsOpenRows 31 = .ok (.ireturn, 1) := by decide +kernel
theorem d_Ch_keepsOpenRows_32 : decode b_Ch_keepsOpenRows 32 = .ok (.iload_n 3, 1) := by decide +kernel
theorem d_Ch_keepsOpenRows_33 : decode b_Ch_keepsOpenRows 33 = .ok (.invokestatic 199, 3) := by decide +kernel
theorem d_Ch_keepsOpenRows_36 : decode b_Ch_keepsOpenRows 36 = .ok (.ifCond .ne 5, 3) := by decide +kernel
theorem d_Ch_keepsOpenRows_39 : decode b_Ch_keepsOpenRows 39 = .ok (.iconst 1, 1) := by decide +kernel
theorem d_Ch_keepsOpenRows_40 : decode b_Ch_keepsOpenRows 40 = .ok (.ireturn, 1) := by decide +kernel
theorem d_Ch_keepsOpenRows_41 : decode b_Ch_keepsOpenRows 41 = .ok (.aload_n 0, 1) := by decide +kernel
theorem d_Ch_keepsOpenRows_42 : decode b_Ch_keepsOpenRows 42 = .ok (.getfield 21, 3) := by decide +kernel
theorem d_Ch_keepsOpenRows_45 : decode b_Ch_keepsOpenRows 45 = .ok (.aload_n 1, 1) := by decide +kernel
theorem d_Ch_keepsOpenRows_46 : decode b_Ch_keepsOpenRows 46 = .ok (.getfield 137, 3) := by decide +kernel
theorem d_Ch_keepsOpenRows_49 : decode b_Ch_keepsOpenRows 49 = .ok (.iload_n 2, 1) := by decide +kernel
theorem d_Ch_keepsOpenRows_50 : decode b_Ch_keepsOpenRows 50 = .ok (.iadd, 1) := by decide +kernel
theorem d_Ch_keepsOpenRows_51 : decode b_Ch_keepsOpenRows 51 = .ok (.iconst 1, 1) := by decide +kernel
theorem d_Ch_keepsOpenRows_52 : decode b_Ch_keepsOpenRows 52 = .ok (.iadd, 1) := by decide +kernel
theorem d_Ch_keepsOpenRows_53 : decode b_Ch_keepsOpenRows 53 = .ok (.iaload, 1) := by decide +kernel
theorem d_Ch_keepsOpenRows_54 : decode b_Ch_keepsOpenRows 54 = .ok (.istore 4, 2) := by decide +kernel
theorem d_Ch_keepsOpenRows_56 : decode b_Ch_keepsOpenRows 56 = .ok (.iload 4, 2) := by decide +kernel
theorem d_Ch_keepsOpenRows_58 : decode b_Ch_keepsOpenRows 58 = .ok (.bipush 6, 2) := by decide +kernel
theorem d_Ch_keepsOpenRows_60 : decode b_Ch_keepsOpenRows 60 = .ok (.iushr, 1) := by decide +kernel
theorem d_Ch_keepsOpenRows_61 : decode b_Ch_keepsOpenRows 61 = .ok (.sipush 255, 3) := by decide +kernel
theorem d_Ch_keepsOpenRows_64 : decode b_Ch_keepsOpenRows 64 = .ok (.iand, 1) := by decide +kernel
theorem d_Ch_keepsOpenRows_65 : decode b_Ch_keepsOpenRows 65 = .ok (.iload 4, 2) := by decide +kernel
theorem d_Ch_keepsOpenRows_67 : decode b_Ch_keepsOpenRows 67 = .ok (.bipush 63, 2) := by decide +kernel
theorem d_Ch_keepsOpenRows_69 : decode b_Ch_keepsOpenRows 69 = .ok (.iand, 1) := by decide +kernel
theorem d_Ch_keepsOpenRows_70 : decode b_Ch_keepsOpenRows 70 = .ok (.bipush 38, 2) := by decide +kernel
theorem d_Ch_keepsOpenRows_72 : decode b_Ch_keepsOpenRows 72 = .ok (.if_icmp .ne 7, 3) := by decide +kernel
theorem d_Ch_keepsOpenRows_75 : decode b_Ch_keepsOpenRows 75 = .ok (.iconst 0, 1) := by decide +kernel
theorem d_Ch_keepsOpenRows_76 : decode b_Ch_keepsOpenRows 76 = .ok (.goto 4, 3) := by decide +kernel
theorem d_Ch_keepsOpenRows_79 : decode b_Ch_keepsOpenRows 79 = .ok (.iconst 1, 1) := by decide +kernel
theorem d_Ch_keepsOpenRows_80 : decode b_Ch_keepsOpenRows 80 = .ok (.iadd, 1) := by decide +kernel
theorem d_Ch_keepsOpenRows_81 : decode b_Ch_keepsOpenRows 81 = .ok (.istore 5, 2) := by decide +kernel
theorem d_Ch_keepsOpenRows_83 : decode b_Ch_keepsOpenRows 83 = .ok (.iload 4, 2) := by decide +kernel
theorem d_Ch_keepsOpenRows_85 : decode b_Ch_keepsOpenRows 85 = .ok (.invokestatic 196, 3) := by decide +kernel
theorem d_Ch_keepsOpenRows_88 : decode b_Ch_keepsOpenRows 88 = .ok (.ifCond .eq 20, 3) := by decide +kernel
theorem d_Ch_keepsOpenRows_91 : decode b_Ch_keepsOpenRows 91 = .ok (.iload 5, 2) := by decide +kernel
theorem d_Ch_keepsOpenRows_93 : decode b_Ch_keepsOpenRows 93 = .ok (.iload_n 3, 1) := by decide +kernel
theorem d_Ch_keepsOpenRows_94 : decode b_Ch_keepsOpenRows 94 = .ok (.bipush 6, 2) := by decide +kernel
theorem d_Ch_keepsOpenRows_96 : decode b_Ch_keepsOpenRows 96 = .ok (.iushr, 1) := by decide +kernel
theorem d_Ch_keepsOpenRows_97 : decode b_Ch_keepsOpenRows 97 = .ok (.sipush 255, 3) := by decide +kernel
theorem d_Ch_keepsOpenRows_100 : decode b_Ch_keepsOpenRows 100 = .ok (.iand, 1) := by decide +kernel
theorem d_Ch_keepsOpenRows_101 : decode b_Ch_keepsOpenRows 101 = .ok (.if_icmp .gt 7, 3) := by decide +kernel
theorem d_Ch_keepsOpenRows_104 : decode b_Ch_keepsOpenRows 104 = .ok (.iconst 1, 1) := by decide +kernel
theorem d_Ch_keepsOpenRows_105 : decode b_Ch_keepsOpenRows 105 = .ok (.goto 4, 3) := by decide +kernel
theorem d_Ch_keepsOpenRows_108 : decode b_Ch_keepsOpenRows 108 = .ok (.iconst 0, 1) := by decide +kernel
theorem d_Ch_keepsOpenRows_109 : decode b_Ch_keepsOpenRows 109 = .ok (.ireturn, 1) := by decide +kernel
theorem kw_1068 : Cond.methodLink R_Ch 199 y_Ch_opensRow ∈ wA := kinm (show _ ∈ tables_1 from (List.mem_append_right _ (List.mem_append_right _ (List.mem_append_right _ (List.mem_append_left _ (List.mem_of_getElem? (l := tables_1_4) (i := 52) (by decide +kernel))))))) (by decide +kernel)
theorem kw_1069 : Cond.instanceMethod y_Ch_keepsOpenRows ∈ wA := kinm (show _ ∈ tables_1 from (List.mem_append_right _ (List.mem_append_right _ (List.mem_append_right _ (List.mem_append_left _ (List.mem_of_getElem? (l := tables_1_4) (i := 50) (by decide +kernel))))))) (by decide +kernel)
theorem kw_1070 : Cond.selects R_Ch y_Ch_keepsOpenRows y_Ch_keepsOpenRows ∈ wA := kinp 16 (by decide +kernel) (by decide +kernel)
theorem cv_Ch_keepsOpenRows : CV y_Ch_keepsOpenRows b_Ch_keepsOpenRows 6 (some .boolean) 3 := ⟨kw_1069, kw_1070, kw_664, k_Ch_keepsOpenRows, by decide +kernel⟩
theorem j_Ch_keepsOpenRows_j108 {X : Cx} {q : PL} (g : Gd X y_Ch_keepsOpenRows b_Ch_keepsOpenRows 6 (some .boolean) 1 21 R_Ch) {o : (Int32) × S1} (hR : Rt X q o.2 (some (.int o.1)))  (s : S1) (ls : Array Slot) (hl : lv_has ls 6 []) (h : M_Ch_keepsOpenRows_j108 s = some o) : WW X q s 108 ls [] := by
  unfold M_Ch_keepsOpenRows_j108 at h
  refine ww_iconst (pc := 108) g.1 (v := 0) d_Ch_keepsOpenRows_108 (by decide) ?_
  exact ww_zretH (pc := 109) g h hR (Or.inl rfl) d_Ch_keepsOpenRows_109

theorem j_Ch_keepsOpenRows_j80 {X : Cx} {q : PL} (g : Gd X y_Ch_keepsOpenRows b_Ch_keepsOpenRows 6 (some .boolean) 1 21 R_Ch) {o : (Int32) × S1} (hR : Rt X q o.2 (some (.int o.1))) (l3 : Int32) (l4 : Int32) (k0 : Int32) (k1 : Int32) (s : S1) (ls : Array Slot) (hl : lv_has ls 6 [(3, .int l3), (4, .int l4)]) (h : M_Ch_keepsOpenRows_j80 l3 l4 k0 k1 s = some o) : WW X q s 80 ls [.int k0, .int k1] := by
  unfold M_Ch_keepsOpenRows_j80 at h
  refine ww_iadd (pc := 80) g.1 d_Ch_keepsOpenRows_80 ?_
  refine ww_leti h fun l5_81 h => ?_
  refine ww_istore (pc := 81) (i := 5) g.1 (lv' := [(5, .int l5_81), (3, .int l3), (4, .int l4)]) d_Ch_keepsOpenRows_81 hl (by decide) rfl fun ls hl => ?_
  refine ww_iload (pc := 83) g.1 d_Ch_keepsOpenRows_83 (lv_at hl 2 rfl) ?_
  obtain ⟨v85, s, hc85, h⟩ := oB_of h
  refine ww_callS (pc := 85) (rest := []) g cs_Ch_usesOpenRow (Or.inl kw_1065) (ct_Ch_usesOpenRow hc85) ⟨by decide, by decide⟩ rfl hl.1 (Nat.le_of_ble_eq_true rfl) d_Ch_keepsOpenRows_85 rfl (?_)
  refine ww_st (st' := [.int v85]) rfl ?_
  refine ww_if_eq (pc := 88) (tgt := 108) g.1 d_Ch_keepsOpenRows_88 (by decide) h (fun c h => ?_) (fun c h => ?_)
  · exact j_Ch_keepsOpenRows_j108 g hR s ls (lv_sub hl [] rfl) h
  · refine ww_iload (pc := 91) g.1 d_Ch_keepsOpenRows_91 (lv_at hl 0 rfl) ?_
    refine ww_iload_n (pc := 93) g.1 d_Ch_keepsOpenRows_93 rfl (lv_at hl 1 rfl) ?_
    refine ww_bipush (pc := 94) g.1 (v := 6) d_Ch_keepsOpenRows_94 (by decide) ?_
    refine ww_iushr (pc := 96) g.1 (v := iushr l3 (6 : Int32)) d_Ch_keepsOpenRows_96 rfl ?_
    refine ww_sipush (pc := 97) g.1 (v := 255) d_Ch_keepsOpenRows_97 (by decide) ?_
    refine ww_iand (pc := 100) g.1 d_Ch_keepsOpenRows_100 ?_
    refine ww_icmp_gt (pc := 101) (tgt := 108) g.1 d_Ch_keepsOpenRows_101 (by decide) h (fun c h => ?_) (fun c h => ?_)
    · exact j_Ch_keepsOpenRows_j108 g hR s ls (lv_sub hl [] rfl) h
    · refine ww_iconst (pc := 104) g.1 (v := 1) d_Ch_keepsOpenRows_104 (by decide) ?_
      refine ww_goto (pc := 105) (tgt := 109) g.1 d_Ch_keepsOpenRows_105 (by decide) ?_
      exact ww_zretH (pc := 109) g h hR (Or.inr rfl) d_Ch_keepsOpenRows_109

theorem j_Ch_keepsOpenRows_j32 {X : Cx} {q : PL} (g : Gd X y_Ch_keepsOpenRows b_Ch_keepsOpenRows 6 (some .boolean) 1 21 R_Ch) {o : (Int32) × S1} (hR : Rt X q o.2 (some (.int o.1))) (l1 : Int32) (l2 : Int32) (l3 : Int32) (s : S1) (hp0 : prs s 144 l1) (ls : Array Slot) (hl : lv_has ls 6 [(0, .ref (q.1 101 0)), (1, .ref (q.1 144 l1)), (2, .int l2), (3, .int l3)]) (h : M_Ch_keepsOpenRows_j32 l1 l2 l3 s = some o) : WW X q s 32 ls [] := by
  unfold M_Ch_keepsOpenRows_j32 at h
  refine ww_iload_n (pc := 32) g.1 d_Ch_keepsOpenRows_32 rfl (lv_at hl 3 rfl) ?_
  refine ww_lo fun dlo => ?_
  obtain ⟨v33, s, hc33, h⟩ := oB_of h
  refine ww_callS (pc := 33) (rest := []) g cs_Ch_opensRow (Or.inl kw_1068) (ct_Ch_opensRow hc33) ⟨by decide, by decide⟩ rfl hl.1 (Nat.le_of_ble_eq_true rfl) d_Ch_keepsOpenRows_33 rfl (?_)
  refine ww_st (st' := [.int v33]) rfl ?_
  refine ww_hi fun dhi => ?_
  have hp0 : prs s 144 l1 := dhi _ _ hp0.2.1 hp0.2.2 (dlo _ _ hp0)
  refine ww_if_ne (pc := 36) (tgt := 41) g.1 d_Ch_keepsOpenRows_36 (by decide) h (fun c h => ?_) (fun c h => ?_)
  · refine ww_aload_n (pc := 41) g.1 d_Ch_keepsOpenRows_41 rfl (lv_at hl 0 rfl) ?_
    refine ww_gR (pc := 42) g (k := 2) cl_Ch (pz rfl (by decide)) (by decide) (Or.inl kw_686) (f := 12930) (t := 104) rfl rfl rfl d_Ch_keepsOpenRows_42 ?_
    refine ww_aload_n (pc := 45) g.1 d_Ch_keepsOpenRows_45 rfl (lv_at hl 1 rfl) ?_
    refine ww_gI (pc := 46) g (k := 8) cl_Pr hp0 (by decide) (Or.inl kw_683) (f := 18440) rfl rfl d_Ch_keepsOpenRows_46 h fun v46 h => ?_
    refine ww_iload_n (pc := 49) g.1 d_Ch_keepsOpenRows_49 rfl (lv_at hl 2 rfl) ?_
    refine ww_iadd (pc := 50) g.1 d_Ch_keepsOpenRows_50 ?_
    refine ww_iconst (pc := 51) g.1 (v := 1) d_Ch_keepsOpenRows_51 (by decide) ?_
    refine ww_iadd (pc := 52) g.1 d_Ch_keepsOpenRows_52 ?_
    refine ww_ai (pc := 53) g (pz rfl (by decide)) rfl rfl d_Ch_keepsOpenRows_53 h fun v53 h => ?_
    refine ww_istore (pc := 54) (i := 4) g.1 (lv' := [(4, .int v53), (0, .ref (q.1 101 0)), (1, .ref (q.1 144 l1)), (2, .int l2), (3, .int l3)]) d_Ch_keepsOpenRows_54 hl (by decide) rfl fun ls hl => ?_
    refine ww_iload (pc := 56) g.1 d_Ch_keepsOpenRows_56 (lv_at hl 0 rfl) ?_
    refine ww_bipush (pc := 58) g.1 (v := 6) d_Ch_keepsOpenRows_58 (by decide) ?_
    refine ww_iushr (pc := 60) g.1 (v := iushr v53 (6 : Int32)) d_Ch_keepsOpenRows_60 rfl ?_
    refine ww_sipush (pc := 61) g.1 (v := 255) d_Ch_keepsOpenRows_61 (by decide) ?_
    refine ww_iand (pc := 64) g.1 d_Ch_keepsOpenRows_64 ?_
    refine ww_iload (pc := 65) g.1 d_Ch_keepsOpenRows_65 (lv_at hl 0 rfl) ?_
    refine ww_bipush (pc := 67) g.1 (v := 63) d_Ch_keepsOpenRows_67 (by decide) ?_
    refine ww_iand (pc := 69) g.1 d_Ch_keepsOpenRows_69 ?_
    refine ww_bipush (pc := 70) g.1 (v := 38) d_Ch_keepsOpenRows_70 (by decide) ?_
    refine ww_icmp_ne (pc := 72) (tgt := 79) g.1 d_Ch_keepsOpenRows_72 (by decide) h (fun c h => ?_) (fun c h => ?_)
    · refine ww_iconst (pc := 79) g.1 (v := 1) d_Ch_keepsOpenRows_79 (by decide) ?_
      exact j_Ch_keepsOpenRows_j80 g hR l3 v53 1 ((iushr v53 (6 : Int32)) &&& 255) s ls (lv_sub hl [4, 0] rfl) h
    · refine ww_iconst (pc := 75) g.1 (v := 0) d_Ch_keepsOpenRows_75 (by decide) ?_
      refine ww_goto (pc := 76) (tgt := 80) g.1 d_Ch_keepsOpenRows_76 (by decide) ?_
      exact j_Ch_keepsOpenRows_j80 g hR l3 v53 0 ((iushr v53 (6 : Int32)) &&& 255) s ls (lv_sub hl [4, 0] rfl) h
  · refine ww_iconst (pc := 39) g.1 (v := 1) d_Ch_keepsOpenRows_39 (by decide) ?_
    exact ww_zretH (pc := 40) g h hR (Or.inr rfl) d_Ch_keepsOpenRows_40

theorem ct_Ch_keepsOpenRows {l : Launch} {P : PP} {q : PL} {s s' : S1} {l1 : Int32} {l2 : Int32} {l3 : Int32} (hp0 : prs s 144 l1) {r : Int32} (h : M_Ch_keepsOpenRows l1 l2 l3 s = some (r, s')) : Ct l y_Ch_keepsOpenRows b_Ch_keepsOpenRows 6 (some .boolean) 1 21 P q s [.ref (q.1 101 0), .ref (q.1 144 l1), .int l2, .int l3] (some (.int r)) q s' := by
  refine ct_of (by decide) (Nat.le_of_ble_eq_true rfl) fun X ls eP el g hR hl => ?_
  subst eP
  have hR : Rt X q ((r, s') : Int32 × S1).2 (some (.int ((r, s') : Int32 × S1).1)) := hR
  have hl : lv_has ls 6 [(0, .ref (q.1 101 0)), (1, .ref (q.1 144 l1)), (2, .int l2), (3, .int l3)] := hl
  generalize (r, s') = o at h hR
  unfold M_Ch_keepsOpenRows at h
  refine ww_iload_n (pc := 0) g.1 d_Ch_keepsOpenRows_0 rfl (lv_at hl 3 rfl) ?_
  refine ww_lo fun dlo => ?_
  obtain ⟨v1, s, hc1, h⟩ := oB_of h
  refine ww_callS (pc := 1) (rest := []) g cs_Ch_usesOpenRow (Or.inl kw_1065) (ct_Ch_usesOpenRow hc1) ⟨by decide, by decide⟩ rfl hl.1 (Nat.le_of_ble_eq_true rfl) d_Ch_keepsOpenRows_1 rfl (?_)
  refine ww_st (st' := [.int v1]) rfl ?_
  refine ww_hi fun dhi => ?_
  have hp0 : prs s 144 l1 := dhi _ _ hp0.2.1 hp0.2.2 (dlo _ _ hp0)
  refine ww_if_eq (pc := 4) (tgt := 32) g.1 d_Ch_keepsOpenRows_4 (by decide) h (fun c h => ?_) (fun c h => ?_)
  · exact j_Ch_keepsOpenRows_j32 g hR l1 l2 l3 s hp0 ls (lv_sub hl [0, 1, 2, 3] rfl) h
  · refine ww_iload_n (pc := 7) g.1 d_Ch_keepsOpenRows_7 rfl (lv_at hl 2 rfl) ?_
    refine ww_if_eq (pc := 8) (tgt := 30) g.1 d_Ch_keepsOpenRows_8 (by decide) h (fun c h => ?_) (fun c h => ?_)
    · refine ww_iconst (pc := 30) g.1 (v := 0) d_Ch_keepsOpenRows_30 (by decide) ?_
      exact ww_zretH (pc := 31) g h hR (Or.inl rfl) d_Ch_keepsOpenRows_31
    · refine ww_aload_n (pc := 11) g.1 d_Ch_keepsOpenRows_11 rfl (lv_at hl 0 rfl) ?_
      refine ww_gR (pc := 12) g (k := 2) cl_Ch (pz rfl (by decide)) (by decide) (Or.inl kw_686) (f := 12930) (t := 104) rfl rfl rfl d_Ch_keepsOpenRows_12 ?_
      refine ww_aload_n (pc := 15) g.1 d_Ch_keepsOpenRows_15 rfl (lv_at hl 1 rfl) ?_
      refine ww_gI (pc := 16) g (k := 8) cl_Pr hp0 (by decide) (Or.inl kw_683) (f := 18440) rfl rfl d_Ch_keepsOpenRows_16 h fun v16 h => ?_
      refine ww_iload_n (pc := 19) g.1 d_Ch_keepsOpenRows_19 rfl (lv_at hl 2 rfl) ?_
      refine ww_iadd (pc := 20) g.1 d_Ch_keepsOpenRows_20 ?_
      refine ww_iconst (pc := 21) g.1 (v := 1) d_Ch_keepsOpenRows_21 (by decide) ?_
      refine ww_isub (pc := 22) g.1 d_Ch_keepsOpenRows_22 ?_
      refine ww_ai (pc := 23) g (pz rfl (by decide)) rfl rfl d_Ch_keepsOpenRows_23 h fun v23 h => ?_
      refine ww_lo fun dlo => ?_
      obtain ⟨v24, s, hc24, h⟩ := oB_of h
      refine ww_callS (pc := 24) (rest := []) g cs_Ch_opensRow (Or.inl kw_1068) (ct_Ch_opensRow hc24) ⟨by decide, by decide⟩ rfl hl.1 (Nat.le_of_ble_eq_true rfl) d_Ch_keepsOpenRows_24 rfl (?_)
      refine ww_st (st' := [.int v24]) rfl ?_
      refine ww_hi fun dhi => ?_
      have hp0 : prs s 144 l1 := dhi _ _ hp0.2.1 hp0.2.2 (dlo _ _ hp0)
      refine ww_if_ne (pc := 27) (tgt := 32) g.1 d_Ch_keepsOpenRows_27 (by decide) h (fun c h => ?_) (fun c h => ?_)
      · exact j_Ch_keepsOpenRows_j32 g hR l1 l2 l3 s hp0 ls (lv_sub hl [0, 1, 2, 3] rfl) h
      · refine ww_iconst (pc := 30) g.1 (v := 0) d_Ch_keepsOpenRows_30 (by decide) ?_
        exact ww_zretH (pc := 31) g h hR (Or.inl rfl) d_Ch_keepsOpenRows_31


