abbrev b_Bu_wrap : ByteArray := prog_2_method_33_code
def y_Bu_wrap : MethodName := ⟨R_Bu, "wrap", "()V"⟩
abbrev w_Bu_wrap : List Cond := .code y_Bu_wrap b_Bu_wrap 3 none :: wA
theorem k_Bu_wrap : Cond.code y_Bu_wrap b_Bu_wrap 3 none ∈ wA := kinm (show _ ∈ tables_1 from (List.mem_append_right _ (List.mem_append_right _ (List.mem_append_right _ (List.mem_append_right _ (List.mem_append_right _ (List.mem_append_right _ (List.mem_append_right _ (List.mem_append_left _ (List.mem_of_getElem? (l := tables_1_8) (i := 211) (by decide +kernel))))))))))) (by decide +kernel)
theorem d_Bu_wrap_0 : decode b_Bu_wrap 0 = .ok (.aload_n 0, 1) := by decide +kernel
theorem d_Bu_wrap_1 : decode b_Bu_wrap 1 = .ok (.invokevirtual 332, 3) := by decide +kernel
theorem d_Bu_wrap_4 : decode b_Bu_wrap 4 = .ok (.ifCond .ne 4, 3) := by decide +kernel
theorem d_Bu_wrap_7 : decode b_Bu_wrap 7 = .ok (.return_, 1) := by decide +kernel
theorem d_Bu_wrap_8 : decode b_Bu_wrap 8 = .ok (.aload_n 0, 1) := by decide +kernel
theorem d_Bu_wrap_9 : decode b_Bu_wrap 9 = .ok (.getfield 25, 3) := by decide +kernel
theorem d_Bu_wrap_12 : decode b_Bu_wrap 12 = .ok (.aload_n 0, 1) := by decide +kernel
theorem d_Bu_wrap_13 : decode b_Bu_wrap 13 = .ok (.getfield 35, 3) := by decide +kernel
theorem d_Bu_wrap_16 : decode b_Bu_wrap 16 = .ok (.iconst 0, 1) := by decide +kernel
theorem d_Bu_wrap_17 : decode b_Bu_wrap 17 = .ok (.invokevirtual 78, 3) := by decide +kernel
theorem d_Bu_wrap_20 : decode b_Bu_wrap 20 = .ok (.invokevirtual 335, 3) := by decide +kernel
theorem d_Bu_wrap_23 : decode b_Bu_wrap 23 = .ok (.istore_n 1, 1) := by decide +kernel
theorem d_Bu_wrap_24 : decode b_Bu_wrap 24 = .ok (.iload_n 1, 1) := by decide +kernel
theorem d_Bu_wrap_25 : decode b_Bu_wrap 25 = .ok (.ifCond .ge 13, 3) := by decide +kernel
theorem d_Bu_wrap_28 : decode b_Bu_wrap 28 = .ok (.aload_n 0, 1) := by decide +kernel
theorem d_Bu_wrap_29 : decode b_Bu_wrap 29 = .ok (.getfield 15, 3) := by decide +kernel
theorem d_Bu_wrap_32 : decode b_Bu_wrap 32 = .ok (.iload_n 1, 1) := by decide +kernel
theorem d_Bu_wrap_33 : decode b_Bu_wrap 33 = .ok (.ineg, 1) := by decide +kernel
theorem d_Bu_wrap_34 : decode b_Bu_wrap 34 = .ok (.invokevirtual 145, 3) := by decide +kernel
theorem d_Bu_wrap_37 : decode b_Bu_wrap 37 = .ok (.return_, 1) := by decide +kernel
theorem d_Bu_wrap_38 : decode b_Bu_wrap 38 = .ok (.aload_n 0, 1) := by decide +kernel
theorem d_Bu_wrap_39 : decode b_Bu_wrap 39 = .ok (.getfield 35, 3) := by decide +kernel
theorem d_Bu_wrap_42 : decode b_Bu_wrap 42 = .ok (.bipush 7, 2) := by decide +kernel
theorem d_Bu_wrap_44 : decode b_Bu_wrap 44 = .ok (.iload_n 1, 1) := by decide +kernel
theorem d_Bu_wrap_45 : decode b_Bu_wrap 45 = .ok (.i2l, 1) := by decide +kernel
theorem d_Bu_wrap_46 : decode b_Bu_wrap 46 = .ok (.invokevirtual 339, 3) := by decide +kernel
theorem d_Bu_wrap_49 : decode b_Bu_wrap 49 = .ok (.aload_n 0, 1) := by decide +kernel
theorem d_Bu_wrap_50 : decode b_Bu_wrap 50 = .ok (.getfield 25, 3) := by decide +kernel
theorem d_Bu_wrap_53 : decode b_Bu_wrap 53 = .ok (.bipush 9, 2) := by decide +kernel
theorem d_Bu_wrap_55 : decode b_Bu_wrap 55 = .ok (.iconst 0, 1) := by decide +kernel
theorem d_Bu_wrap_56 : decode b_Bu_wrap 56 = .ok (.iconst 0, 1) := by decide +kernel
theorem d_Bu_wrap_57 : decode b_Bu_wrap 57 = .ok (.invokevirtual 342, 3) := by decide +kernel
theorem d_Bu_wrap_60 : decode b_Bu_wrap 60 = .ok (.istore_n 2, 1) := by decide +kernel
theorem d_Bu_wrap_61 : decode b_Bu_wrap 61 = .ok (.iload_n 2, 1) := by decide +kernel
theorem d_Bu_wrap_62 : decode b_Bu_wrap 62 = .ok (.ifCond .lt 16, 3) := by decide +kernel
theorem d_Bu_wrap_65 : decode b_Bu_wrap 65 = .ok (.aload_n 0, 1) := by decide +kernel
theorem d_Bu_wrap_66 : decode b_Bu_wrap 66 = .ok (.getfield 25, 3) := by decide +kernel
theorem d_Bu_wrap_69 : decode b_Bu_wrap 69 = .ok (.getfield 149, 3) := by decide +kernel
theorem d_Bu_wrap_72 : decode b_Bu_wrap 72 = .ok (.iload_n 2, 1) := by decide +kernel
theorem d_Bu_wrap_73 : decode b_Bu_wrap 73 = .ok (.aaload, 1) := by decide +kernel
theorem d_Bu_wrap_74 : decode b_Bu_wrap 74 = .ok (.iload_n 1, 1) := by decide +kernel
theorem d_Bu_wrap_75 : decode b_Bu_wrap 75 = .ok (.putfield 346, 3) := by decide +kernel
theorem d_Bu_wrap_78 : decode b_Bu_wrap 78 = .ok (.aload_n 0, 1) := by decide +kernel
theorem d_Bu_wrap_79 : decode b_Bu_wrap 79 = .ok (.bipush 6, 2) := by decide +kernel
theorem d_Bu_wrap_81 : decode b_Bu_wrap 81 = .ok (.iload_n 2, 1) := by decide +kernel
theorem d_Bu_wrap_82 : decode b_Bu_wrap 82 = .ok (.invokevirtual 253, 3) := by decide +kernel
theorem d_Bu_wrap_85 : decode b_Bu_wrap 85 = .ok (.return_, 1) := by decide +kernel
theorem kw_1405 : Cond.methodLink R_Bu 339 y_Ro_addFirst ∈ wA := kinm (show _ ∈ tables_1 from (List.mem_append_right _ (List.mem_append_right _ (List.mem_append_right _ (List.mem_append_right _ (List.mem_append_right _ (List.mem_append_right _ (List.mem_append_right _ (List.mem_append_left _ (List.mem_of_getElem? (l := tables_1_8) (i := 212) (by decide +kernel))))))))))) (by decide +kernel)
theorem kw_1406 : Cond.methodLink R_Bu 342 y_He_make ∈ wA := kinm (show _ ∈ tables_1 from (List.mem_append_right _ (List.mem_append_right _ (List.mem_append_right _ (List.mem_append_right _ (List.mem_append_right _ (List.mem_append_right _ (List.mem_append_right _ (List.mem_append_left _ (List.mem_of_getElem? (l := tables_1_8) (i := 213) (by decide +kernel))))))))))) (by decide +kernel)
theorem kw_1407 : Cond.fieldLink R_Bu 346 "LuaMachine$Thing" "link" "I" ∈ wA := kinm (show _ ∈ tables_1 from (List.mem_append_right _ (List.mem_append_right _ (List.mem_append_right _ (List.mem_append_right _ (List.mem_append_left _ (List.mem_of_getElem? (l := tables_1_5) (i := 180) (by decide +kernel)))))))) (by decide +kernel)
theorem kw_1408 : Cond.instanceMethod y_Bu_wrap ∈ wA := kinm (show _ ∈ tables_1 from (List.mem_append_right _ (List.mem_append_right _ (List.mem_append_right _ (List.mem_append_right _ (List.mem_append_right _ (List.mem_append_right _ (List.mem_append_right _ (List.mem_append_left _ (List.mem_of_getElem? (l := tables_1_8) (i := 210) (by decide +kernel))))))))))) (by decide +kernel)
theorem kw_1409 : Cond.selects R_Bu y_Bu_wrap y_Bu_wrap ∈ wA := kinp 99 (by decide +kernel) (by decide +kernel)
theorem cv_Bu_wrap : CV y_Bu_wrap b_Bu_wrap 3 none 0 := ⟨kw_1408, kw_1409, kw_950, k_Bu_wrap, by decide +kernel⟩
theorem j_Bu_wrap_j78 {X : Cx} {q0 q : PL} (g : Gd X y_Bu_wrap b_Bu_wrap 3 none 5 121 R_Bu) {o : (Unit × (Nat × Nat)) × S1} (hR : RtX X [149, 150, 151, 153] q0 o.1.2 o.2 (fun _ => none)) (hx0 : Exq (xP X) [149, 150, 151, 153] q0 q) (l2 : Int32) (ln : Nat × Nat) (hm : Rmq (xP X) q ln) (s : S1) (ls : Array Slot) (hl : lv_has ls 3 [(0, .ref (q.1 130 0)), (2, .int l2)]) (h : M_Bu_wrap_j78 l2 ln s = some o) : WW X q s 78 ls [] := by
  unfold M_Bu_wrap_j78 at h
  refine ww_aload_n (pc := 78) g.1 d_Bu_wrap_78 rfl (lv_at hl 0 rfl) ?_
  refine ww_bipush (pc := 79) g.1 (v := 6) d_Bu_wrap_79 (by decide) ?_
  refine ww_iload_n (pc := 81) g.1 d_Bu_wrap_81 rfl (lv_at hl 1 rfl) ?_
  obtain ⟨v82, s, hc82, h⟩ := oB_of h
  refine ww_callV (pc := 82) (rest := []) g cv_Bu_addMade (Or.inl kw_1399) cl_Bu (pz rfl (by decide)) (ct_Bu_addMade hc82) ⟨by decide, by decide⟩ rfl hl.1 (Nat.le_of_ble_eq_true rfl) d_Bu_wrap_82 rfl (?_)
  refine ww_st (st' := []) rfl ?_
  exact ww_vretX (pc := 85) g h hR hx0 hm d_Bu_wrap_85

theorem ct_Bu_wrap {l : Launch} {P : PP} {q : PL} {s s' : S1} {n0 n1 : Nat × Nat}  {r : Unit} (hm : Rmq P q n0) (h : M_Bu_wrap n0 s = some ((r, n1), s')) : CtX l y_Bu_wrap b_Bu_wrap 3 none 5 121 P [149, 150, 151, 153] q s [.ref (q.1 130 0)] (fun _ => none) n1 s' := by
  refine ctX_of (by decide) (Nat.le_of_ble_eq_true rfl) fun X ls eP el g hR hl => ?_
  subst eP
  obtain ⟨q0, hq0⟩ : ∃ q0 : PL, q0 = q := ⟨q, rfl⟩
  have hx0 : Exq (xP X) [149, 150, 151, 153] q0 q := hq0 ▸ Exq.rf
  rw [← hq0] at hR
  have hR : RtX X [149, 150, 151, 153] q0 (((r, n1), s') : (Unit × (Nat × Nat)) × S1).1.2 (((r, n1), s') : (Unit × (Nat × Nat)) × S1).2 (fun _ => none) := hR
  have hl : lv_has ls 3 [(0, .ref (q.1 130 0))] := hl
  generalize ((r, n1), s') = o at h hR
  unfold M_Bu_wrap at h
  refine ww_aload_n (pc := 0) g.1 d_Bu_wrap_0 rfl (lv_at hl 0 rfl) ?_
  obtain ⟨v1, s, hc1, h⟩ := oB_of h
  refine ww_callV (pc := 1) (rest := []) g cv_Bu_hasFunction (Or.inl kw_1397) cl_Bu (pz rfl (by decide)) (ct_Bu_hasFunction hc1) ⟨by decide, by decide⟩ rfl hl.1 (Nat.le_of_ble_eq_true rfl) d_Bu_wrap_1 rfl (?_)
  refine ww_st (st' := [.int v1]) rfl ?_
  refine ww_if_ne (pc := 4) (tgt := 8) g.1 d_Bu_wrap_4 (by decide) h (fun c h => ?_) (fun c h => ?_)
  · refine ww_aload_n (pc := 8) g.1 d_Bu_wrap_8 rfl (lv_at hl 0 rfl) ?_
    refine ww_gR (pc := 9) g (k := 3) cl_Bu (pz rfl (by decide)) (by decide) (Or.inl kw_974) (f := 16643) (t := 111) rfl rfl rfl d_Bu_wrap_9 ?_
    refine ww_aload_n (pc := 12) g.1 d_Bu_wrap_12 rfl (lv_at hl 0 rfl) ?_
    refine ww_gR (pc := 13) g (k := 5) cl_Bu (pz rfl (by decide)) (by decide) (Or.inl kw_976) (f := 16645) (t := 132) rfl rfl rfl d_Bu_wrap_13 ?_
    refine ww_iconst (pc := 16) g.1 (v := 0) d_Bu_wrap_16 (by decide) ?_
    obtain ⟨v17, s, hc17, h⟩ := oB_of h
    refine ww_callV (pc := 17) (rest := [.ref (q.1 111 0)]) g cv_Ro_valueAt (Or.inl kw_977) (cl_Ro ⟨by decide, rfl⟩) (pz rfl (by decide)) (ct_Ro_valueAt ⟨by decide, rfl⟩ hc17) ⟨by decide, by decide⟩ rfl hl.1 (Nat.le_of_ble_eq_true rfl) d_Bu_wrap_17 rfl (?_)
    refine ww_st (st' := [.long v17, .ref (q.1 111 0)]) rfl ?_
    refine ww_lo fun dlo => ?_
    obtain ⟨v20, s, hc20, h⟩ := oB_of h
    refine ww_callVX (pc := 20) (rest := []) g cv_He_makeCoroutine (Or.inl kw_1398) cl_He (pz rfl (by decide)) (ct_He_makeCoroutine hm hc20) ⟨by decide, by decide⟩ rfl hl.1 (Nat.le_of_ble_eq_true rfl) d_Bu_wrap_20 rfl (fun q20 hE hm => ?_)
    have ex20_0 : q20.1 130 0 = q.1 130 0 := hE _ _ (by decide) (dlo _ _ (pz rfl (by decide)))
    have hl : lv_has ls 3 [(0, .ref (q20.1 130 0))] := by rw [ex20_0]; exact hl
    refine ww_st (st' := [.int v20.1]) (by rfl) ?_
    have hx0 : Exq (xP X) [149, 150, 151, 153] _ q20 := hx0.tr (hE.sub (by decide))
    refine ww_istore_n (pc := 23) (i := 1) g.1 (lv' := [(1, .int v20.1), (0, .ref (q20.1 130 0))]) d_Bu_wrap_23 rfl hl (by decide) rfl fun ls hl => ?_
    refine ww_iload_n (pc := 24) g.1 d_Bu_wrap_24 rfl (lv_at hl 0 rfl) ?_
    refine ww_if_ge (pc := 25) (tgt := 38) g.1 d_Bu_wrap_25 (by decide) h (fun c h => ?_) (fun c h => ?_)
    · refine ww_aload_n (pc := 38) g.1 d_Bu_wrap_38 rfl (lv_at hl 1 rfl) ?_
      refine ww_gR (pc := 39) g (k := 5) cl_Bu (pz rfl (by decide)) (by decide) (Or.inl kw_976) (f := 16645) (t := 132) rfl rfl rfl d_Bu_wrap_39 ?_
      refine ww_bipush (pc := 42) g.1 (v := 7) d_Bu_wrap_42 (by decide) ?_
      refine ww_iload_n (pc := 44) g.1 d_Bu_wrap_44 rfl (lv_at hl 0 rfl) ?_
      refine ww_i2l (pc := 45) g.1 (v := v20.1.toInt64) d_Bu_wrap_45 rfl ?_
      obtain ⟨v46, s, hc46, h⟩ := oB_of h
      refine ww_callV (pc := 46) (rest := []) g cv_Ro_addFirst (Or.inl kw_1405) (cl_Ro ⟨by decide, rfl⟩) (pz rfl (by decide)) (ct_Ro_addFirst ⟨by decide, rfl⟩ hc46) ⟨by decide, by decide⟩ rfl hl.1 (Nat.le_of_ble_eq_true rfl) d_Bu_wrap_46 rfl (?_)
      refine ww_st (st' := []) rfl ?_
      refine ww_aload_n (pc := 49) g.1 d_Bu_wrap_49 rfl (lv_at hl 1 rfl) ?_
      refine ww_gR (pc := 50) g (k := 3) cl_Bu (pz rfl (by decide)) (by decide) (Or.inl kw_974) (f := 16643) (t := 111) rfl rfl rfl d_Bu_wrap_50 ?_
      refine ww_bipush (pc := 53) g.1 (v := 9) d_Bu_wrap_53 (by decide) ?_
      refine ww_iconst (pc := 55) g.1 (v := 0) d_Bu_wrap_55 (by decide) ?_
      refine ww_iconst (pc := 56) g.1 (v := 0) d_Bu_wrap_56 (by decide) ?_
      refine ww_lo fun dlo => ?_
      obtain ⟨v57, s, hc57, h⟩ := oB_of h
      refine ww_callVX (pc := 57) (rest := []) g cv_He_make (Or.inl kw_1406) cl_He (pz rfl (by decide)) (ct_He_make hm hc57) ⟨by decide, by decide⟩ rfl hl.1 (Nat.le_of_ble_eq_true rfl) d_Bu_wrap_57 rfl (fun q57 hE hm => ?_)
      have ex57_0 : q57.1 130 0 = q20.1 130 0 := hE _ _ (by decide) (dlo _ _ (pz rfl (by decide)))
      have hl : lv_has ls 3 [(1, .int v20.1), (0, .ref (q57.1 130 0))] := by rw [ex57_0]; exact hl
      refine ww_st (st' := [.int v57.1]) (by rfl) ?_
      have hx0 : Exq (xP X) [149, 150, 151, 153] _ q57 := hx0.tr (hE.sub (by decide))
      refine ww_istore_n (pc := 60) (i := 2) g.1 (lv' := [(2, .int v57.1), (1, .int v20.1), (0, .ref (q57.1 130 0))]) d_Bu_wrap_60 rfl hl (by decide) rfl fun ls hl => ?_
      refine ww_iload_n (pc := 61) g.1 d_Bu_wrap_61 rfl (lv_at hl 0 rfl) ?_
      refine ww_if_lt (pc := 62) (tgt := 78) g.1 d_Bu_wrap_62 (by decide) h (fun c h => ?_) (fun c h => ?_)
      · exact j_Bu_wrap_j78 g hR hx0 v57.1 v57.2 hm s ls (lv_sub hl [2, 0] rfl) h
      · refine ww_aload_n (pc := 65) g.1 d_Bu_wrap_65 rfl (lv_at hl 2 rfl) ?_
        refine ww_gR (pc := 66) g (k := 3) cl_Bu (pz rfl (by decide)) (by decide) (Or.inl kw_974) (f := 16643) (t := 111) rfl rfl rfl d_Bu_wrap_66 ?_
        refine ww_gR (pc := 69) g (k := 0) cl_He (pz rfl (by decide)) (by decide) (Or.inl kw_975) (f := 14208) (t := 112) rfl rfl rfl d_Bu_wrap_69 ?_
        refine ww_iload_n (pc := 72) g.1 d_Bu_wrap_72 rfl (lv_at hl 0 rfl) ?_
        refine ww_a8 (pc := 73) g (t := 145) (n := 4000) (pz rfl (by decide)) rfl rfl rfl rfl d_Bu_wrap_73 h fun pa73 h => ?_
        refine ww_iload_n (pc := 74) g.1 d_Bu_wrap_74 rfl (lv_at hl 1 rfl) ?_
        refine ww_pI (pc := 75) g (k := 4) cl_Tg pa73 (by decide) (Or.inl kw_1407) rfl (f := 18564) rfl rfl rfl rfl d_Bu_wrap_75 h fun s hs h => ?_
        exact j_Bu_wrap_j78 g hR hx0 v57.1 v57.2 hm s ls (lv_sub hl [2, 0] rfl) h
    · refine ww_aload_n (pc := 28) g.1 d_Bu_wrap_28 rfl (lv_at hl 1 rfl) ?_
      refine ww_gR (pc := 29) g (k := 2) cl_Bu (pz rfl (by decide)) (by decide) (Or.inl kw_995) (f := 16642) (t := 128) rfl rfl rfl d_Bu_wrap_29 ?_
      refine ww_iload_n (pc := 32) g.1 d_Bu_wrap_32 rfl (lv_at hl 0 rfl) ?_
      refine ww_ineg (pc := 33) g.1 d_Bu_wrap_33 ?_
      obtain ⟨v34, s, hc34, h⟩ := oB_of h
      refine ww_callV (pc := 34) (rest := []) g cv_Ma_fail (Or.inl kw_1144) cl_Ma (pz rfl (by decide)) (ct_Ma_fail hc34) ⟨by decide, by decide⟩ rfl hl.1 (Nat.le_of_ble_eq_true rfl) d_Bu_wrap_34 rfl (?_)
      refine ww_st (st' := []) rfl ?_
      exact ww_vretX (pc := 37) g h hR hx0 hm d_Bu_wrap_37
  · exact ww_vretX (pc := 7) g h hR hx0 hm d_Bu_wrap_7

abbrev b_Ma_give_ : ByteArray := prog_7_method_18_code
def y_Ma_give_ : MethodName := ⟨R_Ma, "give", "()V"⟩
abbrev w_Ma_give_ : List Cond := .code y_Ma_give_ b_Ma_give_ 1 none :: wA
theorem k_Ma_give_ : Cond.code y_Ma_give_ b_Ma_give_ 1 none ∈ wA := kinm (show _ ∈ tables_1 from (List.mem_append_right _ (List.mem_append_right _ (List.mem_append_right _ (List.mem_append_right _ (List.mem_append_right _ (List.mem_append_right _ (List.mem_append_right _ (List.mem_append_left _ (List.mem_of_getElem? (l := tables_1_8) (i := 222) (by decide +kernel))))))))))) (by decide +kernel)
theorem d_Ma_give__0 : decode b_Ma_give_ 0 = .ok (.aload_n 0, 1) := by decide +kernel
theorem d_Ma_give__1 : decode b_Ma_give_ 1 = .ok (.getfield 172, 3) := by decide +kernel
theorem d_Ma_give__4 : decode b_Ma_give_ 4 = .ok (.getfield 332, 3) := by decide +kernel
theorem d_Ma_give__7 : decode b_Ma_give_ 7 = .ok (.ifCond .ne 8, 3) := by decide +kernel
theorem d_Ma_give__10 : decode b_Ma_give_ 10 = .ok (.aload_n 0, 1) := by decide +kernel
theorem d_Ma_give__11 : decode b_Ma_give_ 11 = .ok (.invokevirtual 335, 3) := by decide +kernel
theorem d_Ma_give__14 : decode b_Ma_give_ 14 = .ok (.return_, 1) := by decide +kernel
theorem d_Ma_give__15 : decode b_Ma_give_ 15 = .ok (.aload_n 0, 1) := by decide +kernel
theorem d_Ma_give__16 : decode b_Ma_give_ 16 = .ok (.getfield 172, 3) := by decide +kernel
theorem d_Ma_give__19 : decode b_Ma_give_ 19 = .ok (.invokevirtual 268, 3) := by decide +kernel
theorem d_Ma_give__22 : decode b_Ma_give_ 22 = .ok (.getfield 338, 3) := by decide +kernel
theorem d_Ma_give__25 : decode b_Ma_give_ 25 = .ok (.lookupswitch 49 #[(0, 27), (1, 35)], 27) := by decide +kernel
theorem d_Ma_give__52 : decode b_Ma_give_ 52 = .ok (.aload_n 0, 1) := by decide +kernel
theorem d_Ma_give__53 : decode b_Ma_give_ 53 = .ok (.iconst 4, 1) := by decide +kernel
theorem d_Ma_give__54 : decode b_Ma_give_ 54 = .ok (.putfield 61, 3) := by decide +kernel
theorem d_Ma_give__57 : decode b_Ma_give_ 57 = .ok (.goto 57, 3) := by decide +kernel
theorem d_Ma_give__60 : decode b_Ma_give_ 60 = .ok (.aload_n 0, 1) := by decide +kernel
theorem d_Ma_give__61 : decode b_Ma_give_ 61 = .ok (.getfield 172, 3) := by decide +kernel
theorem d_Ma_give__64 : decode b_Ma_give_ 64 = .ok (.invokevirtual 329, 3) := by decide +kernel
theorem d_Ma_give__67 : decode b_Ma_give_ 67 = .ok (.aload_n 0, 1) := by decide +kernel
theorem d_Ma_give__68 : decode b_Ma_give_ 68 = .ok (.invokevirtual 341, 3) := by decide +kernel
theorem d_Ma_give__71 : decode b_Ma_give_ 71 = .ok (.goto 43, 3) := by decide +kernel
theorem d_Ma_give__74 : decode b_Ma_give_ 74 = .ok (.aload_n 0, 1) := by decide +kernel
theorem d_Ma_give__75 : decode b_Ma_give_ 75 = .ok (.getfield 172, 3) := by decide +kernel
theorem d_Ma_give__78 : decode b_Ma_give_ 78 = .ok (.invokevirtual 329, 3) := by decide +kernel
theorem d_Ma_give__81 : decode b_Ma_give_ 81 = .ok (.aload_n 0, 1) := by decide +kernel
theorem d_Ma_give__82 : decode b_Ma_give_ 82 = .ok (.getfield 18, 3) := by decide +kernel
theorem d_Ma_give__85 : decode b_Ma_give_ 85 = .ok (.iconst 0, 1) := by decide +kernel
theorem d_Ma_give__86 : decode b_Ma_give_ 86 = .ok (.invokevirtual 344, 3) := by decide +kernel
theorem d_Ma_give__89 : decode b_Ma_give_ 89 = .ok (.iconst 4, 1) := by decide +kernel
theorem d_Ma_give__90 : decode b_Ma_give_ 90 = .ok (.if_icmp .ne 19, 3) := by decide +kernel
theorem d_Ma_give__93 : decode b_Ma_give_ 93 = .ok (.aload_n 0, 1) := by decide +kernel
theorem d_Ma_give__94 : decode b_Ma_give_ 94 = .ok (.iconst 4, 1) := by decide +kernel
theorem d_Ma_give__95 : decode b_Ma_give_ 95 = .ok (.aload_n 0, 1) := by decide +kernel
theorem d_Ma_give__96 : decode b_Ma_give_ 96 = .ok (.getfield 18, 3) := by decide +kernel
theorem d_Ma_give__99 : decode b_Ma_give_ 99 = .ok (.iconst 0, 1) := by decide +kernel
theorem d_Ma_give__100 : decode b_Ma_give_ 100 = .ok (.invokevirtual 348, 3) := by decide +kernel
theorem d_Ma_give__103 : decode b_Ma_give_ 103 = .ok (.invokevirtual 352, 3) := by decide +kernel
theorem d_Ma_give__106 : decode b_Ma_give_ 106 = .ok (.goto 8, 3) := by decide +kernel
theorem d_Ma_give__109 : decode b_Ma_give_ 109 = .ok (.aload_n 0, 1) := by decide +kernel
theorem d_Ma_give__110 : decode b_Ma_give_ 110 = .ok (.iconst 3, 1) := by decide +kernel
theorem d_Ma_give__111 : decode b_Ma_give_ 111 = .ok (.invokevirtual 229, 3) := by decide +kernel
theorem d_Ma_give__114 : decode b_Ma_give_ 114 = .ok (.return_, 1) := by decide +kernel
theorem kw_1410 : Cond.methodLink R_Ma 344 y_Ro_kindAt ∈ wA := kinm (show _ ∈ tables_1 from (List.mem_append_right _ (List.mem_append_right _ (List.mem_append_right _ (List.mem_append_right _ (List.mem_append_right _ (List.mem_append_right _ (List.mem_append_right _ (List.mem_append_left _ (List.mem_of_getElem? (l := tables_1_8) (i := 228) (by decide +kernel))))))))))) (by decide +kernel)
theorem kw_1411 : Cond.methodLink R_Ma 348 y_Ro_valueAt ∈ wA := kinm (show _ ∈ tables_1 from (List.mem_append_right _ (List.mem_append_right _ (List.mem_append_right _ (List.mem_append_right _ (List.mem_append_right _ (List.mem_append_right _ (List.mem_append_right _ (List.mem_append_left _ (List.mem_of_getElem? (l := tables_1_8) (i := 229) (by decide +kernel))))))))))) (by decide +kernel)
theorem kw_1412 : Cond.methodLink R_Ma 335 y_Ma_endWithResults ∈ wA := kinm (show _ ∈ tables_1 from (List.mem_append_right _ (List.mem_append_right _ (List.mem_append_right _ (List.mem_append_right _ (List.mem_append_right _ (List.mem_append_right _ (List.mem_append_right _ (List.mem_append_left _ (List.mem_of_getElem? (l := tables_1_8) (i := 223) (by decide +kernel))))))))))) (by decide +kernel)
theorem kw_1413 : Cond.instanceMethod y_Ma_give_ ∈ wA := kinm (show _ ∈ tables_1 from (List.mem_append_right _ (List.mem_append_right _ (List.mem_append_right _ (List.mem_append_right _ (List.mem_append_right _ (List.mem_append_right _ (List.mem_append_right _ (List.mem_append_left _ (List.mem_of_getElem? (l := tables_1_8) (i := 220) (by decide +kernel))))))))))) (by decide +kernel)
theorem kw_1414 : Cond.selects R_Ma y_Ma_give_ y_Ma_give_ ∈ wA := kinm (show _ ∈ tables_1 from (List.mem_append_right _ (List.mem_append_right _ (List.mem_append_right _ (List.mem_append_right _ (List.mem_append_right _ (List.mem_append_right _ (List.mem_append_right _ (List.mem_append_left _ (List.mem_of_getElem? (l := tables_1_8) (i := 221) (by decide +kernel))))))))))) (by decide +kernel)
theorem cv_Ma_give_ : CV y_Ma_give_ b_Ma_give_ 1 none 0 := ⟨kw_1413, kw_1414, kw_838, k_Ma_give_, by decide +kernel⟩
theorem ct_Ma_give_ {l : Launch} {P : PP} {q : PL} {s s' : S1}  {r : Unit} (h : M_Ma_give_ s = some (r, s')) : Ct l y_Ma_give_ b_Ma_give_ 1 none 5 110 P q s [.ref (q.1 128 0)] none q s' := by
  refine ct_of (by decide) (Nat.le_of_ble_eq_true rfl) fun X ls eP el g hR hl => ?_
  subst eP
  have hR : Rt X q ((r, s') : Unit × S1).2 none := hR
  have hl : lv_has ls 1 [(0, .ref (q.1 128 0))] := hl
  generalize (r, s') = o at h hR
  unfold M_Ma_give_ at h
  refine ww_aload_n (pc := 0) g.1 d_Ma_give__0 rfl (lv_at hl 0 rfl) ?_
  refine ww_gV (pc := 1) g (k := 11) cl_Ma (pz rfl (by decide)) (by decide) (Or.inl kw_988) (f := 16395) (t := 148) rfl rfl rfl d_Ma_give__1 h fun v1 h => ?_
  refine ww_pr h fun pn1 h => ?_
  refine ww_nnP pn1 ?_
  refine ww_gI (pc := 4) g (k := 4) cl_Co pn1 (by decide) (Or.inl kw_1018) (f := 18948) rfl rfl d_Ma_give__4 h fun v4 h => ?_
  refine ww_if_ne (pc := 7) (tgt := 15) g.1 d_Ma_give__7 (by decide) h (fun c h => ?_) (fun c h => ?_)
  · refine ww_aload_n (pc := 15) g.1 d_Ma_give__15 rfl (lv_at hl 0 rfl) ?_
    refine ww_gV (pc := 16) g (k := 11) cl_Ma (pz rfl (by decide)) (by decide) (Or.inl kw_988) (f := 16395) (t := 148) rfl rfl rfl d_Ma_give__16 h fun v16 h => ?_
    refine ww_pr h fun pn16 h => ?_
    refine ww_nnP pn16 ?_
    obtain ⟨v19, s, hc19, h⟩ := oB_of h
    refine ww_callV (pc := 19) (rest := []) g cv_Co_top (Or.inl kw_990) cl_Co pn16 (ct_Co_top pn16 hc19) ⟨by decide, by decide⟩ rfl hl.1 (Nat.le_of_ble_eq_true rfl) d_Ma_give__19 rfl (?_)
    refine ww_st (st' := [.ref (q.1 152 v19)]) rfl ?_
    refine ww_pr h fun pr19 h => ?_
    refine ww_gI (pc := 22) g (k := 0) cl_Fm pr19 (by decide) (Or.inl kw_991) (f := 19456) rfl rfl d_Ma_give__22 h fun v22 h => ?_
    by_cases c25_52 : v22 = 0
    · have h := oC_pos c25_52 h
      have c := c25_52
      refine ww_lookup (pc := 25) (tgt := 52) g.1 d_Ma_give__25 (by decide) (by rw [c] <;> rfl) (by decide) ?_
      refine ww_aload_n (pc := 52) g.1 d_Ma_give__52 rfl (lv_at hl 0 rfl) ?_
      refine ww_iconst (pc := 53) g.1 (v := 4) d_Ma_give__53 (by decide) ?_
      refine ww_pI (pc := 54) g (k := 12) cl_Ma (pz rfl (by decide)) (by decide) (Or.inl kw_851) rfl (f := 16396) rfl rfl rfl rfl d_Ma_give__54 h fun s hs h => ?_
      refine ww_goto (pc := 57) (tgt := 114) g.1 d_Ma_give__57 (by decide) ?_
      exact ww_vretH (pc := 114) g h hR d_Ma_give__114
    have h := oC_neg c25_52 h
    by_cases c25_60 : v22 = 1
    · have h := oC_pos c25_60 h
      have c := c25_60
      refine ww_lookup (pc := 25) (tgt := 60) g.1 d_Ma_give__25 (by decide) (by rw [c] <;> rfl) (by decide) ?_
      refine ww_aload_n (pc := 60) g.1 d_Ma_give__60 rfl (lv_at hl 0 rfl) ?_
      refine ww_gV (pc := 61) g (k := 11) cl_Ma (pz rfl (by decide)) (by decide) (Or.inl kw_988) (f := 16395) (t := 148) rfl rfl rfl d_Ma_give__61 h fun v61 h => ?_
      refine ww_pr h fun pn61 h => ?_
      refine ww_nnP pn61 ?_
      obtain ⟨v64, s, hc64, h⟩ := oB_of h
      refine ww_callV (pc := 64) (rest := []) g cv_Co_pop (Or.inl kw_992) cl_Co pn61 (ct_Co_pop pn61 hc64) ⟨by decide, by decide⟩ rfl hl.1 (Nat.le_of_ble_eq_true rfl) d_Ma_give__64 rfl (?_)
      refine ww_st (st' := []) rfl ?_
      refine ww_aload_n (pc := 67) g.1 d_Ma_give__67 rfl (lv_at hl 0 rfl) ?_
      obtain ⟨v68, s, hc68, h⟩ := oB_of h
      refine ww_callV (pc := 68) (rest := []) g cv_Ma_giveWithTrue (Or.inl kw_1317) cl_Ma (pz rfl (by decide)) (ct_Ma_giveWithTrue hc68) ⟨by decide, by decide⟩ rfl hl.1 (Nat.le_of_ble_eq_true rfl) d_Ma_give__68 rfl (?_)
      refine ww_st (st' := []) rfl ?_
      refine ww_goto (pc := 71) (tgt := 114) g.1 d_Ma_give__71 (by decide) ?_
      exact ww_vretH (pc := 114) g h hR d_Ma_give__114
    have h := oC_neg c25_60 h
    have n_0 : ¬ v22.toInt = 0 := lv_neT (fun e => c25_52 e) rfl
    have n_1 : ¬ v22.toInt = 1 := lv_neT (fun e => c25_60 e) rfl
    refine ww_lookup (pc := 25) (tgt := 74) (off := 49) g.1 d_Ma_give__25 (by decide) ((lv_osw (x := v22) (k := 0) (a := 0) (o := 27) (d := 49) (r := [(1, 35)]) (fun e => n_0 (by rw [e] <;> rfl)) rfl).trans ((lv_osw (x := v22) (k := 1) (a := 1) (o := 35) (d := 49) (r := []) (fun e => n_1 (by rw [e] <;> rfl)) rfl).trans rfl)) (by decide) ?_
    refine ww_aload_n (pc := 74) g.1 d_Ma_give__74 rfl (lv_at hl 0 rfl) ?_
    refine ww_gV (pc := 75) g (k := 11) cl_Ma (pz rfl (by decide)) (by decide) (Or.inl kw_988) (f := 16395) (t := 148) rfl rfl rfl d_Ma_give__75 h fun v75 h => ?_
    refine ww_pr h fun pn75 h => ?_
    refine ww_nnP pn75 ?_
    obtain ⟨v78, s, hc78, h⟩ := oB_of h
    refine ww_callV (pc := 78) (rest := []) g cv_Co_pop (Or.inl kw_992) cl_Co pn75 (ct_Co_pop pn75 hc78) ⟨by decide, by decide⟩ rfl hl.1 (Nat.le_of_ble_eq_true rfl) d_Ma_give__78 rfl (?_)
    refine ww_st (st' := []) rfl ?_
    refine ww_aload_n (pc := 81) g.1 d_Ma_give__81 rfl (lv_at hl 0 rfl) ?_
    refine ww_gR (pc := 82) g (k := 4) cl_Ma (pz rfl (by decide)) (by decide) (Or.inl kw_1002) (f := 16388) (t := 135) rfl rfl rfl d_Ma_give__82 ?_
    refine ww_iconst (pc := 85) g.1 (v := 0) d_Ma_give__85 (by decide) ?_
    obtain ⟨v86, s, hc86, h⟩ := oB_of h
    refine ww_callV (pc := 86) (rest := []) g cv_Ro_kindAt (Or.inl kw_1410) (cl_Ro ⟨by decide, rfl⟩) (pz rfl (by decide)) (ct_Ro_kindAt ⟨by decide, rfl⟩ hc86) ⟨by decide, by decide⟩ rfl hl.1 (Nat.le_of_ble_eq_true rfl) d_Ma_give__86 rfl (?_)
    refine ww_st (st' := [.int v86]) rfl ?_
    refine ww_iconst (pc := 89) g.1 (v := 4) d_Ma_give__89 (by decide) ?_
    refine ww_icmp_ne (pc := 90) (tgt := 109) g.1 d_Ma_give__90 (by decide) h (fun c h => ?_) (fun c h => ?_)
    · refine ww_aload_n (pc := 109) g.1 d_Ma_give__109 rfl (lv_at hl 0 rfl) ?_
      refine ww_iconst (pc := 110) g.1 (v := 3) d_Ma_give__110 (by decide) ?_
      obtain ⟨v111, s, hc111, h⟩ := oB_of h
      refine ww_callV (pc := 111) (rest := []) g cv_Ma_fail (Or.inl kw_1196) cl_Ma (pz rfl (by decide)) (ct_Ma_fail hc111) ⟨by decide, by decide⟩ rfl hl.1 (Nat.le_of_ble_eq_true rfl) d_Ma_give__111 rfl (?_)
      refine ww_st (st' := []) rfl ?_
      exact ww_vretH (pc := 114) g h hR d_Ma_give__114
    · refine ww_aload_n (pc := 93) g.1 d_Ma_give__93 rfl (lv_at hl 0 rfl) ?_
      refine ww_iconst (pc := 94) g.1 (v := 4) d_Ma_give__94 (by decide) ?_
      refine ww_aload_n (pc := 95) g.1 d_Ma_give__95 rfl (lv_at hl 0 rfl) ?_
      refine ww_gR (pc := 96) g (k := 4) cl_Ma (pz rfl (by decide)) (by decide) (Or.inl kw_1002) (f := 16388) (t := 135) rfl rfl rfl d_Ma_give__96 ?_
      refine ww_iconst (pc := 99) g.1 (v := 0) d_Ma_give__99 (by decide) ?_
      obtain ⟨v100, s, hc100, h⟩ := oB_of h
      refine ww_callV (pc := 100) (rest := [.int 4, .ref (q.1 128 0)]) g cv_Ro_valueAt (Or.inl kw_1411) (cl_Ro ⟨by decide, rfl⟩) (pz rfl (by decide)) (ct_Ro_valueAt ⟨by decide, rfl⟩ hc100) ⟨by decide, by decide⟩ rfl hl.1 (Nat.le_of_ble_eq_true rfl) d_Ma_give__100 rfl (?_)
      refine ww_st (st' := [.long v100, .int 4, .ref (q.1 128 0)]) rfl ?_
      obtain ⟨v103, s, hc103, h⟩ := oB_of h
      refine ww_callV (pc := 103) (rest := []) g cv_Ma_give (Or.inl kw_1026) cl_Ma (pz rfl (by decide)) (ct_Ma_give hc103) ⟨by decide, by decide⟩ rfl hl.1 (Nat.le_of_ble_eq_true rfl) d_Ma_give__103 rfl (?_)
      refine ww_st (st' := []) rfl ?_
      refine ww_goto (pc := 106) (tgt := 114) g.1 d_Ma_give__106 (by decide) ?_
      exact ww_vretH (pc := 114) g h hR d_Ma_give__114
  · refine ww_aload_n (pc := 10) g.1 d_Ma_give__10 rfl (lv_at hl 0 rfl) ?_
    obtain ⟨v11, s, hc11, h⟩ := oB_of h
    refine ww_callV (pc := 11) (rest := []) g cv_Ma_endWithResults (Or.inl kw_1412) cl_Ma (pz rfl (by decide)) (ct_Ma_endWithResults hc11) ⟨by decide, by decide⟩ rfl hl.1 (Nat.le_of_ble_eq_true rfl) d_Ma_give__11 rfl (?_)
    refine ww_st (st' := []) rfl ?_
    exact ww_vretH (pc := 14) g h hR d_Ma_give__14

abbrev b_Ch_checkAll : ByteArray := prog_3_method_14_code
def y_Ch_checkAll : MethodName := ⟨R_Ch, "checkAll", "()Z"⟩
abbrev w_Ch_checkAll : List Cond := .code y_Ch_checkAll b_Ch_checkAll 4 (some .boolean) :: wA
theorem k_Ch_checkAll : Cond.code y_Ch_checkAll b_Ch_checkAll 4 (some .boolean) ∈ wA := kinm (show _ ∈ tables_1 from (List.mem_append_right _ (List.mem_append_right _ (List.mem_append_left _ (List.mem_of_getElem? (l := tables_1_3) (i := 212) (by decide +kernel)))))) (by decide +kernel)
theorem d_Ch_checkAll_0 : decode b_Ch_checkAll 0 = .ok (.aload_n 0, 1) := by decide +kernel
theorem d_Ch_checkAll_1 : decode b_Ch_checkAll 1 = .ok (.invokevirtual 146, 3) := by decide +kernel
theorem d_Ch_checkAll_4 : decode b_Ch_checkAll 4 = .ok (.iconst 0, 1) := by decide +kernel
theorem d_Ch_checkAll_5 : decode b_Ch_checkAll 5 = .ok (.istore_n 1, 1) := by decide +kernel
theorem d_Ch_checkAll_6 : decode b_Ch_checkAll 6 = .ok (.iload_n 1, 1) := by decide +kernel
theorem d_Ch_checkAll_7 : decode b_Ch_checkAll 7 = .ok (.aload_n 0, 1) := by decide +kernel
theorem d_Ch_checkAll_8 : decode b_Ch_checkAll 8 = .ok (.getfield 75, 3) := by decide +kernel
theorem d_Ch_checkAll_11 : decode b_Ch_checkAll 11 = .ok (.if_icmp .ge 56, 3) := by decide +kernel
theorem d_Ch_checkAll_14 : decode b_Ch_checkAll 14 = .ok (.aload_n 0, 1) := by decide +kernel
theorem d_Ch_checkAll_15 : decode b_Ch_checkAll 15 = .ok (.getfield 11, 3) := by decide +kernel
theorem d_Ch_checkAll_18 : decode b_Ch_checkAll 18 = .ok (.iload_n 1, 1) := by decide +kernel
theorem d_Ch_checkAll_19 : decode b_Ch_checkAll 19 = .ok (.aaload, 1) := by decide +kernel
theorem d_Ch_checkAll_20 : decode b_Ch_checkAll 20 = .ok (.astore_n 2, 1) := by decide +kernel
theorem d_Ch_checkAll_21 : decode b_Ch_checkAll 21 = .ok (.iconst 0, 1) := by decide +kernel
theorem d_Ch_checkAll_22 : decode b_Ch_checkAll 22 = .ok (.istore_n 3, 1) := by decide +kernel
theorem d_Ch_checkAll_23 : decode b_Ch_checkAll 23 = .ok (.iload_n 3, 1) := by decide +kernel
theorem d_Ch_checkAll_24 : decode b_Ch_checkAll 24 = .ok (.aload_n 2, 1) := by decide +kernel
theorem d_Ch_checkAll_25 : decode b_Ch_checkAll 25 = .ok (.getfield 140, 3) := by decide +kernel
theorem d_Ch_checkAll_28 : decode b_Ch_checkAll 28 = .ok (.if_icmp .ge 33, 3) := by decide +kernel
theorem d_Ch_checkAll_31 : decode b_Ch_checkAll 31 = .ok (.aload_n 0, 1) := by decide +kernel
theorem d_Ch_checkAll_32 : decode b_Ch_checkAll 32 = .ok (.aload_n 2, 1) := by decide +kernel
theorem d_Ch_checkAll_33 : decode b_Ch_checkAll 33 = .ok (.iload_n 3, 1) := by decide +kernel
theorem d_Ch_checkAll_34 : decode b_Ch_checkAll 34 = .ok (.invokevirtual 149, 3) := by decide +kernel
theorem d_Ch_checkAll_37 : decode b_Ch_checkAll 37 = .ok (.ifCond .ne 18, 3) := by decide +kernel
theorem d_Ch_checkAll_40 : decode b_Ch_checkAll 40 = .ok (.aload_n 0, 1) := by decide +kernel
theorem d_Ch_checkAll_41 : decode b_Ch_checkAll 41 = .ok (.bipush 6, 2) := by decide +kernel
theorem d_Ch_checkAll_43 : decode b_Ch_checkAll 43 = .ok (.aload_n 2, 1) := by decide +kernel
theorem d_Ch_checkAll_44 : decode b_Ch_checkAll 44 = .ok (.getfield 143, 3) := by decide +kernel
theorem d_Ch_checkAll_47 : decode b_Ch_checkAll 47 = .ok (.iconst 4, 1) := by decide +kernel
theorem d_Ch_checkAll_48 : decode b_Ch_checkAll 48 = .ok (.iload_n 3, 1) := by decide +kernel
theorem d_Ch_checkAll_49 : decode b_Ch_checkAll 49 = .ok (.imul, 1) := by decide +kernel
theorem d_Ch_checkAll_50 : decode b_Ch_checkAll 50 = .ok (.iadd, 1) := by decide +kernel
theorem d_Ch_checkAll_51 : decode b_Ch_checkAll 51 = .ok (.invokevirtual 63, 3) := by decide +kernel
theorem d_Ch_checkAll_54 : decode b_Ch_checkAll 54 = .ok (.ireturn, 1) := by decide +kernel
theorem d_Ch_checkAll_55 : decode b_Ch_checkAll 55 = .ok (.iinc 3 1, 3) := by decide +kernel
theorem d_Ch_checkAll_58 : decode b_Ch_checkAll 58 = .ok (.goto (-35), 3) := by decide +kernel
theorem d_Ch_checkAll_61 : decode b_Ch_checkAll 61 = .ok (.iinc 1 1, 3) := by decide +kernel
theorem d_Ch_checkAll_64 : decode b_Ch_checkAll 64 = .ok (.goto (-58), 3) := by decide +kernel
theorem d_Ch_checkAll_67 : decode b_Ch_checkAll 67 = .ok (.iconst 1, 1) := by decide +kernel
theorem d_Ch_checkAll_68 : decode b_Ch_checkAll 68 = .ok (.ireturn, 1) := by decide +kernel
theorem kw_1415 : Cond.methodLink R_Ch 146 y_Ch_listChildren ∈ wA := kinm (show _ ∈ tables_1 from (List.mem_append_right _ (List.mem_append_right _ (List.mem_append_left _ (List.mem_of_getElem? (l := tables_1_3) (i := 213) (by decide +kernel)))))) (by decide +kernel)
theorem kw_1416 : Cond.methodLink R_Ch 149 y_Ch_isWellFormed ∈ wA := kinm (show _ ∈ tables_1 from (List.mem_append_right _ (List.mem_append_right _ (List.mem_append_left _ (List.mem_of_getElem? (l := tables_1_3) (i := 217) (by decide +kernel)))))) (by decide +kernel)
theorem kw_1417 : Cond.instanceMethod y_Ch_checkAll ∈ wA := kinm (show _ ∈ tables_1 from (List.mem_append_right _ (List.mem_append_right _ (List.mem_append_left _ (List.mem_of_getElem? (l := tables_1_3) (i := 210) (by decide +kernel)))))) (by decide +kernel)
theorem kw_1418 : Cond.selects R_Ch y_Ch_checkAll y_Ch_checkAll ∈ wA := kinm (show _ ∈ tables_1 from (List.mem_append_right _ (List.mem_append_right _ (List.mem_append_left _ (List.mem_of_getElem? (l := tables_1_3) (i := 211) (by decide +kernel)))))) (by decide +kernel)
theorem cv_Ch_checkAll : CV y_Ch_checkAll b_Ch_checkAll 4 (some .boolean) 0 := ⟨kw_1417, kw_1418, kw_664, k_Ch_checkAll, by decide +kernel⟩
theorem lp_Ch_checkAll_L23 {X : Cx} {q : PL} (g : Gd X y_Ch_checkAll b_Ch_checkAll 4 (some .boolean) 7 198 R_Ch) (x : Int32 × Int32 × Int32) (s : S1) (o : ((Int32 × Int32 × Int32) ⊕ ((Int32 × Int32) ⊕ (Int32))) × S1) (h : M_Ch_checkAll_L23 x s = some o) (hR : (Sum.elim (fun y : Int32 × Int32 × Int32 => ∀ ls : Array Slot, (prs o.2 144 y.2.1) → lv_has ls 4 [(0, .ref (q.1 101 0)), (1, .int y.1), (2, .ref (q.1 144 y.2.1)), (3, .int y.2.2)] → WW X q o.2 23 ls []) (Sum.elim (fun y : Int32 × Int32 => ∀ ls : Array Slot, (prs o.2 144 y.1) → lv_has ls 4 [(0, .ref (q.1 101 0)), (2, .ref (q.1 144 y.1)), (3, .int y.2)] → WW X q o.2 40 ls []) (fun y : Int32 => ∀ ls : Array Slot, lv_has ls 4 [(0, .ref (q.1 101 0)), (1, .int y)] → WW X q o.2 61 ls [])) o.1)) : ∀ ls : Array Slot, (prs s 144 x.2.1) → lv_has ls 4 [(0, .ref (q.1 101 0)), (1, .int x.1), (2, .ref (q.1 144 x.2.1)), (3, .int x.2.2)] → WW X q s 23 ls [] := by
  intro ls hp0 hl
  unfold M_Ch_checkAll_L23 at h
  refine ww_iload_n (pc := 23) g.1 d_Ch_checkAll_23 rfl (lv_at hl 3 rfl) ?_
  refine ww_aload_n (pc := 24) g.1 d_Ch_checkAll_24 rfl (lv_at hl 2 rfl) ?_
  refine ww_gI (pc := 25) g (k := 7) cl_Pr hp0 (by decide) (Or.inl kw_684) (f := 18439) rfl rfl d_Ch_checkAll_25 h fun v25 h => ?_
  refine ww_icmp_ge (pc := 28) (tgt := 61) g.1 d_Ch_checkAll_28 (by decide) h (fun c h => ?_) (fun c h => ?_)
  · rw [oR_eq h] at hR
    exact hR ls (lv_sub hl [0, 1] rfl)
  · refine ww_aload_n (pc := 31) g.1 d_Ch_checkAll_31 rfl (lv_at hl 0 rfl) ?_
    refine ww_aload_n (pc := 32) g.1 d_Ch_checkAll_32 rfl (lv_at hl 2 rfl) ?_
    refine ww_iload_n (pc := 33) g.1 d_Ch_checkAll_33 rfl (lv_at hl 3 rfl) ?_
    refine ww_lo fun dlo => ?_
    obtain ⟨v34, s, hc34, h⟩ := oB_of h
    refine ww_callV (pc := 34) (rest := []) g cv_Ch_isWellFormed (Or.inl kw_1416) cl_Ch (pz rfl (by decide)) (ct_Ch_isWellFormed hp0 hc34) ⟨by decide, by decide⟩ rfl hl.1 (Nat.le_of_ble_eq_true rfl) d_Ch_checkAll_34 rfl (?_)
    refine ww_st (st' := [.int v34]) rfl ?_
    refine ww_hi fun dhi => ?_
    have hp0 : prs s 144 x.2.1 := dhi _ _ hp0.2.1 hp0.2.2 (dlo _ _ hp0)
    refine ww_if_ne (pc := 37) (tgt := 55) g.1 d_Ch_checkAll_37 (by decide) h (fun c h => ?_) (fun c h => ?_)
    · refine ww_iinc (pc := 55) g.1 (v := x.2.2 + 1) (lv' := [(3, .int (x.2.2 + 1)), (0, .ref (q.1 101 0)), (1, .int x.1), (2, .ref (q.1 144 x.2.1))]) d_Ch_checkAll_55 hl (k := 3) rfl (by rfl) (by decide) rfl fun ls hl => ?_
      refine ww_goto (pc := 58) (tgt := 23) g.1 d_Ch_checkAll_58 (by decide) ?_
      rw [oR_eq h] at hR
      exact hR ls hp0 (lv_sub hl [1, 2, 3, 0] rfl)
    · rw [oR_eq h] at hR
      exact hR ls hp0 (lv_sub hl [0, 2, 3] rfl)

theorem lp_Ch_checkAll_L6 {X : Cx} {q : PL} (g : Gd X y_Ch_checkAll b_Ch_checkAll 4 (some .boolean) 7 198 R_Ch) (x : Int32) (s : S1) (o : ((Int32) ⊕ ((Int32 × Int32) ⊕ (Unit))) × S1) (h : M_Ch_checkAll_L6 x s = some o) (hR : (Sum.elim (fun y : Int32 => ∀ ls : Array Slot, lv_has ls 4 [(0, .ref (q.1 101 0)), (1, .int y)] → WW X q o.2 6 ls []) (Sum.elim (fun y : Int32 × Int32 => ∀ ls : Array Slot, (prs o.2 144 y.1) → lv_has ls 4 [(0, .ref (q.1 101 0)), (2, .ref (q.1 144 y.1)), (3, .int y.2)] → WW X q o.2 40 ls []) (fun y : Unit => ∀ ls : Array Slot, lv_has ls 4 [] → WW X q o.2 67 ls [])) o.1)) : ∀ ls : Array Slot, lv_has ls 4 [(0, .ref (q.1 101 0)), (1, .int x)] → WW X q s 6 ls [] := by
  intro ls hl
  unfold M_Ch_checkAll_L6 at h
  refine ww_iload_n (pc := 6) g.1 d_Ch_checkAll_6 rfl (lv_at hl 1 rfl) ?_
  refine ww_aload_n (pc := 7) g.1 d_Ch_checkAll_7 rfl (lv_at hl 0 rfl) ?_
  refine ww_gI (pc := 8) g (k := 9) cl_Ch (pz rfl (by decide)) (by decide) (Or.inl kw_658) (f := 12937) rfl rfl d_Ch_checkAll_8 h fun v8 h => ?_
  refine ww_icmp_ge (pc := 11) (tgt := 67) g.1 d_Ch_checkAll_11 (by decide) h (fun c h => ?_) (fun c h => ?_)
  · rw [oR_eq h] at hR
    exact hR ls (lv_sub hl [] rfl)
  · refine ww_aload_n (pc := 14) g.1 d_Ch_checkAll_14 rfl (lv_at hl 0 rfl) ?_
    refine ww_gR (pc := 15) g (k := 0) cl_Ch (pz rfl (by decide)) (by decide) (Or.inl kw_689) (f := 12928) (t := 102) rfl rfl rfl d_Ch_checkAll_15 ?_
    refine ww_iload_n (pc := 18) g.1 d_Ch_checkAll_18 rfl (lv_at hl 1 rfl) ?_
    refine ww_a8 (pc := 19) g (t := 144) (n := 250) (pz rfl (by decide)) rfl rfl rfl rfl d_Ch_checkAll_19 h fun pa19 h => ?_
    refine ww_astore_n (pc := 20) (i := 2) g.1 (lv' := [(2, .ref (q.1 144 x)), (0, .ref (q.1 101 0)), (1, .int x)]) d_Ch_checkAll_20 rfl hl (by decide) rfl fun ls hl => ?_
    refine ww_iconst (pc := 21) g.1 (v := 0) d_Ch_checkAll_21 (by decide) ?_
    refine ww_istore_n (pc := 22) (i := 3) g.1 (lv' := [(3, .int 0), (2, .ref (q.1 144 x)), (0, .ref (q.1 101 0)), (1, .int x)]) d_Ch_checkAll_22 rfl hl (by decide) rfl fun ls hl => ?_
    obtain ⟨e23, s1, hw, h⟩ := oB_of h
    refine oW_rule (Wh := fun (x : Int32 × Int32 × Int32) (s : S1) => ∀ ls : Array Slot, (prs s 144 x.2.1) → lv_has ls 4 [(0, .ref (q.1 101 0)), (1, .int x.1), (2, .ref (q.1 144 x.2.1)), (3, .int x.2.2)] → WW X q s 23 ls []) (We := fun (e : (Int32 × Int32) ⊕ (Int32)) (s : S1) => (Sum.elim (fun y : Int32 × Int32 => ∀ ls : Array Slot, (prs s 144 y.1) → lv_has ls 4 [(0, .ref (q.1 101 0)), (2, .ref (q.1 144 y.1)), (3, .int y.2)] → WW X q s 40 ls []) (fun y : Int32 => ∀ ls : Array Slot, lv_has ls 4 [(0, .ref (q.1 101 0)), (1, .int y)] → WW X q s 61 ls [])) e) (fun x s o hb hc => lp_Ch_checkAll_L23 (q := q) g x s o hb hc) hw ?_ ls pa19 (lv_sub hl [2, 3, 1, 0] rfl)
    clear hw hl
    clear ls
    generalize s1 = s at h ⊢
    rcases e23 with y23_40 | y23_61
    · intro ls hq23_0 hl
      dsimp only [Sum.elim_inl, Sum.elim_inr] at h
      rw [oR_eq h] at hR
      exact hR ls hq23_0 (lv_sub hl [0, 1, 2] rfl)
    · intro ls hl
      dsimp only [Sum.elim_inl, Sum.elim_inr] at h
      refine ww_iinc (pc := 61) g.1 (v := y23_61 + 1) (lv' := [(1, .int (y23_61 + 1)), (0, .ref (q.1 101 0))]) d_Ch_checkAll_61 hl (k := 1) rfl (by rfl) (by decide) rfl fun ls hl => ?_
      refine ww_goto (pc := 64) (tgt := 6) g.1 d_Ch_checkAll_64 (by decide) ?_
      rw [oR_eq h] at hR
      exact hR ls (lv_sub hl [1, 0] rfl)

theorem ct_Ch_checkAll {l : Launch} {P : PP} {q : PL} {s s' : S1}  {r : Int32} (h : M_Ch_checkAll s = some (r, s')) : Ct l y_Ch_checkAll b_Ch_checkAll 4 (some .boolean) 7 198 P q s [.ref (q.1 101 0)] (some (.int r)) q s' := by
  refine ct_of (by decide) (Nat.le_of_ble_eq_true rfl) fun X ls eP el g hR hl => ?_
  subst eP
  have hR : Rt X q ((r, s') : Int32 × S1).2 (some (.int ((r, s') : Int32 × S1).1)) := hR
  have hl : lv_has ls 4 [(0, .ref (q.1 101 0))] := hl
  generalize (r, s') = o at h hR
  unfold M_Ch_checkAll at h
  refine ww_aload_n (pc := 0) g.1 d_Ch_checkAll_0 rfl (lv_at hl 0 rfl) ?_
  obtain ⟨v1, s, hc1, h⟩ := oB_of h
  refine ww_callV (pc := 1) (rest := []) g cv_Ch_listChildren (Or.inl kw_1415) cl_Ch (pz rfl (by decide)) (ct_Ch_listChildren hc1) ⟨by decide, by decide⟩ rfl hl.1 (Nat.le_of_ble_eq_true rfl) d_Ch_checkAll_1 rfl (?_)
  refine ww_st (st' := []) rfl ?_
  refine ww_iconst (pc := 4) g.1 (v := 0) d_Ch_checkAll_4 (by decide) ?_
  refine ww_istore_n (pc := 5) (i := 1) g.1 (lv' := [(1, .int 0), (0, .ref (q.1 101 0))]) d_Ch_checkAll_5 rfl hl (by decide) rfl fun ls hl => ?_
  obtain ⟨e6, s1, hw, h⟩ := oB_of h
  refine oW_rule (Wh := fun (x : Int32) (s : S1) => ∀ ls : Array Slot, lv_has ls 4 [(0, .ref (q.1 101 0)), (1, .int x)] → WW X q s 6 ls []) (We := fun (e : (Int32 × Int32) ⊕ (Unit)) (s : S1) => (Sum.elim (fun y : Int32 × Int32 => ∀ ls : Array Slot, (prs s 144 y.1) → lv_has ls 4 [(0, .ref (q.1 101 0)), (2, .ref (q.1 144 y.1)), (3, .int y.2)] → WW X q s 40 ls []) (fun y : Unit => ∀ ls : Array Slot, lv_has ls 4 [] → WW X q s 67 ls [])) e) (fun x s o hb hc => lp_Ch_checkAll_L6 (q := q) g x s o hb hc) hw ?_ ls (lv_sub hl [1, 0] rfl)
  clear hw hl
  clear ls
  generalize s1 = s at h ⊢
  rcases e6 with y6_40 | y6_67
  · intro ls hq6_0 hl
    dsimp only [Sum.elim_inl, Sum.elim_inr] at h
    refine ww_aload_n (pc := 40) g.1 d_Ch_checkAll_40 rfl (lv_at hl 0 rfl) ?_
    refine ww_bipush (pc := 41) g.1 (v := 6) d_Ch_checkAll_41 (by decide) ?_
    refine ww_aload_n (pc := 43) g.1 d_Ch_checkAll_43 rfl (lv_at hl 1 rfl) ?_
    refine ww_gI (pc := 44) g (k := 9) cl_Pr hq6_0 (by decide) (Or.inl kw_685) (f := 18441) rfl rfl d_Ch_checkAll_44 h fun v44 h => ?_
    refine ww_iconst (pc := 47) g.1 (v := 4) d_Ch_checkAll_47 (by decide) ?_
    refine ww_iload_n (pc := 48) g.1 d_Ch_checkAll_48 rfl (lv_at hl 2 rfl) ?_
    refine ww_imul (pc := 49) g.1 d_Ch_checkAll_49 ?_
    refine ww_iadd (pc := 50) g.1 d_Ch_checkAll_50 ?_
    refine ww_lo fun dlo => ?_
    obtain ⟨v51, s, hc51, h⟩ := oB_of h
    refine ww_callV (pc := 51) (rest := []) g cv_Ch_refuse (Or.inl kw_671) cl_Ch (pz rfl (by decide)) (ct_Ch_refuse hc51) ⟨by decide, by decide⟩ rfl hl.1 (Nat.le_of_ble_eq_true rfl) d_Ch_checkAll_51 rfl (?_)
    refine ww_st (st' := [.int v51]) rfl ?_
    refine ww_hi fun dhi => ?_
    have hq6_0 : prs s 144 y6_40.1 := dhi _ _ hq6_0.2.1 hq6_0.2.2 (dlo _ _ hq6_0)
    refine ww_ok h fun cz h => ?_
    exact ww_zretH (pc := 54) g h hR cz d_Ch_checkAll_54
  · intro ls hl
    dsimp only [Sum.elim_inl, Sum.elim_inr] at h
    refine ww_iconst (pc := 67) g.1 (v := 1) d_Ch_checkAll_67 (by decide) ?_
    exact ww_zretH (pc := 68) g h hR (Or.inr rfl) d_Ch_checkAll_68

abbrev b_Ta_make : ByteArray := prog_11_method_3_code
def y_Ta_make : MethodName := ⟨R_Ta, "make", "()I"⟩
abbrev w_Ta_make : List Cond := .code y_Ta_make b_Ta_make 3 (some .int) :: wA
theorem k_Ta_make : Cond.code y_Ta_make b_Ta_make 3 (some .int) ∈ wA := kinm (show _ ∈ tables_1 from (List.mem_append_right _ (List.mem_append_right _ (List.mem_append_right _ (List.mem_append_right _ (List.mem_append_left _ (List.mem_of_getElem? (l := tables_1_5) (i := 115) (by decide +kernel)))))))) (by decide +kernel)
theorem d_Ta_make_0 : decode b_Ta_make 0 = .ok (.aload_n 0, 1) := by decide +kernel
theorem d_Ta_make_1 : decode b_Ta_make 1 = .ok (.getfield 36, 3) := by decide +kernel
theorem d_Ta_make_4 : decode b_Ta_make 4 = .ok (.iconst 5, 1) := by decide +kernel
theorem d_Ta_make_5 : decode b_Ta_make 5 = .ok (.iconst 0, 1) := by decide +kernel
theorem d_Ta_make_6 : decode b_Ta_make 6 = .ok (.iconst 0, 1) := by decide +kernel
theorem d_Ta_make_7 : decode b_Ta_make 7 = .ok (.invokevirtual 44, 3) := by decide +kernel
theorem d_Ta_make_10 : decode b_Ta_make 10 = .ok (.istore_n 1, 1) := by decide +kernel
theorem d_Ta_make_11 : decode b_Ta_make 11 = .ok (.iload_n 1, 1) := by decide +kernel
theorem d_Ta_make_12 : decode b_Ta_make 12 = .ok (.ifCond .lt 38, 3) := by decide +kernel
theorem d_Ta_make_15 : decode b_Ta_make 15 = .ok (.aload_n 0, 1) := by decide +kernel
theorem d_Ta_make_16 : decode b_Ta_make 16 = .ok (.getfield 36, 3) := by decide +kernel
theorem d_Ta_make_19 : decode b_Ta_make 19 = .ok (.getfield 50, 3) := by decide +kernel
theorem d_Ta_make_22 : decode b_Ta_make 22 = .ok (.iload_n 1, 1) := by decide +kernel
theorem d_Ta_make_23 : decode b_Ta_make 23 = .ok (.aaload, 1) := by decide +kernel
theorem d_Ta_make_24 : decode b_Ta_make 24 = .ok (.astore_n 2, 1) := by decide +kernel
theorem d_Ta_make_25 : decode b_Ta_make 25 = .ok (.aload_n 2, 1) := by decide +kernel
theorem d_Ta_make_26 : decode b_Ta_make 26 = .ok (.iconst 0, 1) := by decide +kernel
theorem d_Ta_make_27 : decode b_Ta_make 27 = .ok (.putfield 54, 3) := by decide +kernel
theorem d_Ta_make_30 : decode b_Ta_make 30 = .ok (.aload_n 2, 1) := by decide +kernel
theorem d_Ta_make_31 : decode b_Ta_make 31 = .ok (.iconst 0, 1) := by decide +kernel
theorem d_Ta_make_32 : decode b_Ta_make 32 = .ok (.putfield 59, 3) := by decide +kernel
theorem d_Ta_make_35 : decode b_Ta_make 35 = .ok (.aload_n 2, 1) := by decide +kernel
theorem d_Ta_make_36 : decode b_Ta_make 36 = .ok (.iconst 0, 1) := by decide +kernel
theorem d_Ta_make_37 : decode b_Ta_make 37 = .ok (.putfield 62, 3) := by decide +kernel
theorem d_Ta_make_40 : decode b_Ta_make 40 = .ok (.aload_n 2, 1) := by decide +kernel
theorem d_Ta_make_41 : decode b_Ta_make 41 = .ok (.iconst (-1), 1) := by decide +kernel
theorem d_Ta_make_42 : decode b_Ta_make 42 = .ok (.putfield 65, 3) := by decide +kernel
theorem d_Ta_make_45 : decode b_Ta_make 45 = .ok (.aload_n 2, 1) := by decide +kernel
theorem d_Ta_make_46 : decode b_Ta_make 46 = .ok (.iconst 0, 1) := by decide +kernel
theorem d_Ta_make_47 : decode b_Ta_make 47 = .ok (.putfield 68, 3) := by decide +kernel
theorem d_Ta_make_50 : decode b_Ta_make 50 = .ok (.iload_n 1, 1) := by decide +kernel
theorem d_Ta_make_51 : decode b_Ta_make 51 = .ok (.ireturn, 1) := by decide +kernel
theorem kw_1419 : Cond.methodLink R_Ta 44 y_He_make ∈ wA := kinm (show _ ∈ tables_1 from (List.mem_append_right _ (List.mem_append_right _ (List.mem_append_right _ (List.mem_append_right _ (List.mem_append_left _ (List.mem_of_getElem? (l := tables_1_5) (i := 116) (by decide +kernel)))))))) (by decide +kernel)
theorem kw_1420 : Cond.instanceMethod y_Ta_make ∈ wA := kinm (show _ ∈ tables_1 from (List.mem_append_right _ (List.mem_append_right _ (List.mem_append_right _ (List.mem_append_right _ (List.mem_append_left _ (List.mem_of_getElem? (l := tables_1_5) (i := 113) (by decide +kernel)))))))) (by decide +kernel)
theorem kw_1421 : Cond.selects R_Ta y_Ta_make y_Ta_make ∈ wA := kinm (show _ ∈ tables_1 from (List.mem_append_right _ (List.mem_append_right _ (List.mem_append_right _ (List.mem_append_right _ (List.mem_append_left _ (List.mem_of_getElem? (l := tables_1_5) (i := 114) (by decide +kernel)))))))) (by decide +kernel)
theorem cv_Ta_make : CV y_Ta_make b_Ta_make 3 (some .int) 0 := ⟨kw_1420, kw_1421, kw_717, k_Ta_make, by decide +kernel⟩
theorem ct_Ta_make {l : Launch} {P : PP} {q : PL} {s s' : S1} {n0 n1 : Nat × Nat}  {r : Int32} (hm : Rmq P q n0) (h : M_Ta_make n0 s = some ((r, n1), s')) : CtX l y_Ta_make b_Ta_make 3 (some .int) 4 97 P [] q s [.ref (q.1 120 0)] (fun _ => some (.int r)) n1 s' := by
  refine ctX_of (by decide) (Nat.le_of_ble_eq_true rfl) fun X ls eP el g hR hl => ?_
  subst eP
  obtain ⟨q0, hq0⟩ : ∃ q0 : PL, q0 = q := ⟨q, rfl⟩
  have hx0 : Exq (xP X) [] q0 q := hq0 ▸ Exq.rf
  rw [← hq0] at hR
  have hR : RtX X [] q0 (((r, n1), s') : (Int32 × (Nat × Nat)) × S1).1.2 (((r, n1), s') : (Int32 × (Nat × Nat)) × S1).2 (fun _ => some (.int (((r, n1), s') : (Int32 × (Nat × Nat)) × S1).1.1)) := hR
  have hl : lv_has ls 3 [(0, .ref (q.1 120 0))] := hl
  generalize ((r, n1), s') = o at h hR
  unfold M_Ta_make at h
  refine ww_aload_n (pc := 0) g.1 d_Ta_make_0 rfl (lv_at hl 0 rfl) ?_
  refine ww_gR (pc := 1) g (k := 8) cl_Ta (pz rfl (by decide)) (by decide) (Or.inl kw_772) (f := 15368) (t := 111) rfl rfl rfl d_Ta_make_1 ?_
  refine ww_iconst (pc := 4) g.1 (v := 5) d_Ta_make_4 (by decide) ?_
  refine ww_iconst (pc := 5) g.1 (v := 0) d_Ta_make_5 (by decide) ?_
  refine ww_iconst (pc := 6) g.1 (v := 0) d_Ta_make_6 (by decide) ?_
  refine ww_lo fun dlo => ?_
  obtain ⟨v7, s, hc7, h⟩ := oB_of h
  refine ww_callVX (pc := 7) (rest := []) g cv_He_make (Or.inl kw_1419) cl_He (pz rfl (by decide)) (ct_He_make hm hc7) ⟨by decide, by decide⟩ rfl hl.1 (Nat.le_of_ble_eq_true rfl) d_Ta_make_7 rfl (fun q7 hE hm => ?_)
  have ex7_0 : q7.1 120 0 = q.1 120 0 := hE _ _ (by decide) (dlo _ _ (pz rfl (by decide)))
  have hl : lv_has ls 3 [(0, .ref (q7.1 120 0))] := by rw [ex7_0]; exact hl
  refine ww_st (st' := [.int v7.1]) (by rfl) ?_
  have hx0 : Exq (xP X) [] _ q7 := hx0.tr (hE.sub (by decide))
  refine ww_istore_n (pc := 10) (i := 1) g.1 (lv' := [(1, .int v7.1), (0, .ref (q7.1 120 0))]) d_Ta_make_10 rfl hl (by decide) rfl fun ls hl => ?_
  refine ww_iload_n (pc := 11) g.1 d_Ta_make_11 rfl (lv_at hl 0 rfl) ?_
  refine ww_if_lt (pc := 12) (tgt := 50) g.1 d_Ta_make_12 (by decide) h (fun c h => ?_) (fun c h => ?_)
  · refine ww_iload_n (pc := 50) g.1 d_Ta_make_50 rfl (lv_at hl 0 rfl) ?_
    exact ww_iretX (pc := 51) g h hR hx0 hm d_Ta_make_51
  · refine ww_aload_n (pc := 15) g.1 d_Ta_make_15 rfl (lv_at hl 1 rfl) ?_
    refine ww_gR (pc := 16) g (k := 8) cl_Ta (pz rfl (by decide)) (by decide) (Or.inl kw_772) (f := 15368) (t := 111) rfl rfl rfl d_Ta_make_16 ?_
    refine ww_gR (pc := 19) g (k := 0) cl_He (pz rfl (by decide)) (by decide) (Or.inl kw_804) (f := 14208) (t := 112) rfl rfl rfl d_Ta_make_19 ?_
    refine ww_iload_n (pc := 22) g.1 d_Ta_make_22 rfl (lv_at hl 0 rfl) ?_
    refine ww_a8 (pc := 23) g (t := 145) (n := 4000) (pz rfl (by decide)) rfl rfl rfl rfl d_Ta_make_23 h fun pa23 h => ?_
    refine ww_astore_n (pc := 24) (i := 2) g.1 (lv' := [(2, .ref (q7.1 145 v7.1)), (1, .int v7.1), (0, .ref (q7.1 120 0))]) d_Ta_make_24 rfl hl (by decide) rfl fun ls hl => ?_
    refine ww_aload_n (pc := 25) g.1 d_Ta_make_25 rfl (lv_at hl 0 rfl) ?_
    refine ww_iconst (pc := 26) g.1 (v := 0) d_Ta_make_26 (by decide) ?_
    refine ww_pI (pc := 27) g (k := 11) cl_Tg pa23 (by decide) (Or.inl kw_771) rfl (f := 18571) rfl rfl rfl rfl d_Ta_make_27 h fun s hs h => ?_
    have pa23 : prs s 145 v7.1 := prs_kI (r := 145) (k := 11) (by decide) hs pa23
    refine ww_aload_n (pc := 30) g.1 d_Ta_make_30 rfl (lv_at hl 0 rfl) ?_
    refine ww_iconst (pc := 31) g.1 (v := 0) d_Ta_make_31 (by decide) ?_
    refine ww_pI (pc := 32) g (k := 12) cl_Tg pa23 (by decide) (Or.inl kw_769) rfl (f := 18572) rfl rfl rfl rfl d_Ta_make_32 h fun s hs h => ?_
    have pa23 : prs s 145 v7.1 := prs_kI (r := 145) (k := 12) (by decide) hs pa23
    refine ww_aload_n (pc := 35) g.1 d_Ta_make_35 rfl (lv_at hl 0 rfl) ?_
    refine ww_iconst (pc := 36) g.1 (v := 0) d_Ta_make_36 (by decide) ?_
    refine ww_pI (pc := 37) g (k := 13) cl_Tg pa23 (by decide) (Or.inl kw_793) rfl (f := 18573) rfl rfl rfl rfl d_Ta_make_37 h fun s hs h => ?_
    have pa23 : prs s 145 v7.1 := prs_kI (r := 145) (k := 13) (by decide) hs pa23
    refine ww_aload_n (pc := 40) g.1 d_Ta_make_40 rfl (lv_at hl 0 rfl) ?_
    refine ww_iconst (pc := 41) g.1 (v := (-1)) d_Ta_make_41 (by decide) ?_
    refine ww_pI (pc := 42) g (k := 14) cl_Tg pa23 (by decide) (Or.inl kw_1088) rfl (f := 18574) rfl rfl rfl rfl d_Ta_make_42 h fun s hs h => ?_
    have pa23 : prs s 145 v7.1 := prs_kI (r := 145) (k := 14) (by decide) hs pa23
    refine ww_aload_n (pc := 45) g.1 d_Ta_make_45 rfl (lv_at hl 0 rfl) ?_
    refine ww_iconst (pc := 46) g.1 (v := 0) d_Ta_make_46 (by decide) ?_
    refine ww_pI (pc := 47) g (k := 15) cl_Tg pa23 (by decide) (Or.inl kw_1117) rfl (f := 18575) rfl rfl rfl rfl d_Ta_make_47 h fun s hs h => ?_
    have pa23 : prs s 145 v7.1 := prs_kI (r := 145) (k := 15) (by decide) hs pa23
    refine ww_iload_n (pc := 50) g.1 d_Ta_make_50 rfl (lv_at hl 1 rfl) ?_
    exact ww_iretX (pc := 51) g h hR hx0 hm d_Ta_make_51

abbrev b_Ma_fillGlobals : ByteArray := prog_7_method_5_code
def y_Ma_fillGlobals : MethodName := ⟨R_Ma, "fillGlobals", "()Z"⟩
abbrev w_Ma_fillGlobals : List Cond := .code y_Ma_fillGlobals b_Ma_fillGlobals 2 (some .boolean) :: wA
theorem k_Ma_fillGlobals : Cond.code y_Ma_fillGlobals b_Ma_fillGlobals 2 (some .boolean) ∈ wA := kinm (show _ ∈ tables_1 from (List.mem_append_right _ (List.mem_append_right _ (List.mem_append_right _ (List.mem_append_right _ (List.mem_append_right _ (List.mem_append_left _ (List.mem_of_getElem? (l := tables_1_6) (i := 32) (by decide +kernel))))))))) (by decide +kernel)
theorem d_Ma_fillGlobals_0 : decode b_Ma_fillGlobals 0 = .ok (.iconst 0, 1) := by decide +kernel
theorem d_Ma_fillGlobals_1 : decode b_Ma_fillGlobals 1 = .ok (.istore_n 1, 1) := by decide +kernel
theorem d_Ma_fillGlobals_2 : decode b_Ma_fillGlobals 2 = .ok (.iload_n 1, 1) := by decide +kernel
theorem d_Ma_fillGlobals_3 : decode b_Ma_fillGlobals 3 = .ok (.bipush 24, 2) := by decide +kernel
theorem d_Ma_fillGlobals_5 : decode b_Ma_fillGlobals 5 = .ok (.if_icmp .ge 42, 3) := by decide +kernel
theorem d_Ma_fillGlobals_8 : decode b_Ma_fillGlobals 8 = .ok (.aload_n 0, 1) := by decide +kernel
theorem d_Ma_fillGlobals_9 : decode b_Ma_fillGlobals 9 = .ok (.getfield 35, 3) := by decide +kernel
theorem d_Ma_fillGlobals_12 : decode b_Ma_fillGlobals 12 = .ok (.aload_n 0, 1) := by decide +kernel
theorem d_Ma_fillGlobals_13 : decode b_Ma_fillGlobals 13 = .ok (.getfield 68, 3) := by decide +kernel
theorem d_Ma_fillGlobals_16 : decode b_Ma_fillGlobals 16 = .ok (.iconst 4, 1) := by decide +kernel
theorem d_Ma_fillGlobals_17 : decode b_Ma_fillGlobals 17 = .ok (.aload_n 0, 1) := by decide +kernel
theorem d_Ma_fillGlobals_18 : decode b_Ma_fillGlobals 18 = .ok (.getfield 31, 3) := by decide +kernel
theorem d_Ma_fillGlobals_21 : decode b_Ma_fillGlobals 21 = .ok (.getfield 129, 3) := by decide +kernel
theorem d_Ma_fillGlobals_24 : decode b_Ma_fillGlobals 24 = .ok (.iload_n 1, 1) := by decide +kernel
theorem d_Ma_fillGlobals_25 : decode b_Ma_fillGlobals 25 = .ok (.iaload, 1) := by decide +kernel
theorem d_Ma_fillGlobals_26 : decode b_Ma_fillGlobals 26 = .ok (.i2l, 1) := by decide +kernel
theorem d_Ma_fillGlobals_27 : decode b_Ma_fillGlobals 27 = .ok (.bipush 6, 2) := by decide +kernel
theorem d_Ma_fillGlobals_29 : decode b_Ma_fillGlobals 29 = .ok (.iconst (-1), 1) := by decide +kernel
theorem d_Ma_fillGlobals_30 : decode b_Ma_fillGlobals 30 = .ok (.iload_n 1, 1) := by decide +kernel
theorem d_Ma_fillGlobals_31 : decode b_Ma_fillGlobals 31 = .ok (.isub, 1) := by decide +kernel
theorem d_Ma_fillGlobals_32 : decode b_Ma_fillGlobals 32 = .ok (.i2l, 1) := by decide +kernel
theorem d_Ma_fillGlobals_33 : decode b_Ma_fillGlobals 33 = .ok (.invokevirtual 150, 3) := by decide +kernel
theorem d_Ma_fillGlobals_36 : decode b_Ma_fillGlobals 36 = .ok (.ifCond .eq 5, 3) := by decide +kernel
theorem d_Ma_fillGlobals_39 : decode b_Ma_fillGlobals 39 = .ok (.iconst 0, 1) := by decide +kernel
theorem d_Ma_fillGlobals_40 : decode b_Ma_fillGlobals 40 = .ok (.ireturn, 1) := by decide +kernel
theorem d_Ma_fillGlobals_41 : decode b_Ma_fillGlobals 41 = .ok (.iinc 1 1, 3) := by decide +kernel
theorem d_Ma_fillGlobals_44 : decode b_Ma_fillGlobals 44 = .ok (.goto (-42), 3) := by decide +kernel
theorem d_Ma_fillGlobals_47 : decode b_Ma_fillGlobals 47 = .ok (.iconst 1, 1) := by decide +kernel
theorem d_Ma_fillGlobals_48 : decode b_Ma_fillGlobals 48 = .ok (.ireturn, 1) := by decide +kernel
theorem kw_1422 : Cond.fieldLink R_Ma 68 "LuaMachine$Machine" "globals" "I" ∈ wA := kinm (show _ ∈ tables_1 from (List.mem_append_right _ (List.mem_append_left _ (List.mem_of_getElem? (l := tables_1_2) (i := 77) (by decide +kernel))))) (by decide +kernel)
theorem kw_1423 : Cond.fieldLink R_Ma 129 "LuaMachine$Heap" "names" "[I" ∈ wA := kinm (show _ ∈ tables_1 from (List.mem_append_left _ (List.mem_of_getElem? (l := tables_1_1) (i := 148) (by decide +kernel)))) (by decide +kernel)
theorem kw_1424 : Cond.methodLink R_Ma 150 y_Ta_write ∈ wA := kinm (show _ ∈ tables_1 from (List.mem_append_right _ (List.mem_append_right _ (List.mem_append_right _ (List.mem_append_right _ (List.mem_append_right _ (List.mem_append_left _ (List.mem_of_getElem? (l := tables_1_6) (i := 33) (by decide +kernel))))))))) (by decide +kernel)
theorem kw_1425 : Cond.instanceMethod y_Ma_fillGlobals ∈ wA := kinm (show _ ∈ tables_1 from (List.mem_append_right _ (List.mem_append_right _ (List.mem_append_right _ (List.mem_append_right _ (List.mem_append_right _ (List.mem_append_left _ (List.mem_of_getElem? (l := tables_1_6) (i := 31) (by decide +kernel))))))))) (by decide +kernel)
theorem kw_1426 : Cond.selects R_Ma y_Ma_fillGlobals y_Ma_fillGlobals ∈ wA := kinp 27 (by decide +kernel) (by decide +kernel)
theorem cv_Ma_fillGlobals : CV y_Ma_fillGlobals b_Ma_fillGlobals 2 (some .boolean) 0 := ⟨kw_1425, kw_1426, kw_838, k_Ma_fillGlobals, by decide +kernel⟩
theorem lp_Ma_fillGlobals_L2 {X : Cx} {q : PL} (g : Gd X y_Ma_fillGlobals b_Ma_fillGlobals 2 (some .boolean) 5 132 R_Ma) (x : Int32) (s : S1) (o : ((Int32) ⊕ ((Unit) ⊕ (Unit))) × S1) (h : M_Ma_fillGlobals_L2 x s = some o) (hR : (Sum.elim (fun y : Int32 => ∀ ls : Array Slot, lv_has ls 2 [(0, .ref (q.1 128 0)), (1, .int y)] → WW X q o.2 2 ls []) (Sum.elim (fun y : Unit => ∀ ls : Array Slot, lv_has ls 2 [] → WW X q o.2 39 ls []) (fun y : Unit => ∀ ls : Array Slot, lv_has ls 2 [] → WW X q o.2 47 ls [])) o.1)) : ∀ ls : Array Slot, lv_has ls 2 [(0, .ref (q.1 128 0)), (1, .int x)] → WW X q s 2 ls [] := by
  intro ls hl
  unfold M_Ma_fillGlobals_L2 at h
  refine ww_iload_n (pc := 2) g.1 d_Ma_fillGlobals_2 rfl (lv_at hl 1 rfl) ?_
  refine ww_bipush (pc := 3) g.1 (v := 24) d_Ma_fillGlobals_3 (by decide) ?_
  refine ww_icmp_ge (pc := 5) (tgt := 47) g.1 d_Ma_fillGlobals_5 (by decide) h (fun c h => ?_) (fun c h => ?_)
  · rw [oR_eq h] at hR
    exact hR ls (lv_sub hl [] rfl)
  · refine ww_aload_n (pc := 8) g.1 d_Ma_fillGlobals_8 rfl (lv_at hl 0 rfl) ?_
    refine ww_gR (pc := 9) g (k := 2) cl_Ma (pz rfl (by decide)) (by decide) (Or.inl kw_1093) (f := 16386) (t := 120) rfl rfl rfl d_Ma_fillGlobals_9 ?_
    refine ww_aload_n (pc := 12) g.1 d_Ma_fillGlobals_12 rfl (lv_at hl 0 rfl) ?_
    refine ww_gI (pc := 13) g (k := 10) cl_Ma (pz rfl (by decide)) (by decide) (Or.inl kw_1422) (f := 16394) rfl rfl d_Ma_fillGlobals_13 h fun v13 h => ?_
    refine ww_iconst (pc := 16) g.1 (v := 4) d_Ma_fillGlobals_16 (by decide) ?_
    refine ww_aload_n (pc := 17) g.1 d_Ma_fillGlobals_17 rfl (lv_at hl 0 rfl) ?_
    refine ww_gR (pc := 18) g (k := 1) cl_Ma (pz rfl (by decide)) (by decide) (Or.inl kw_938) (f := 16385) (t := 111) rfl rfl rfl d_Ma_fillGlobals_18 ?_
    refine ww_gR (pc := 21) g (k := 5) cl_He (pz rfl (by decide)) (by decide) (Or.inl kw_1423) (f := 14213) (t := 115) rfl rfl rfl d_Ma_fillGlobals_21 ?_
    refine ww_iload_n (pc := 24) g.1 d_Ma_fillGlobals_24 rfl (lv_at hl 1 rfl) ?_
    refine ww_ai (pc := 25) g (pz rfl (by decide)) rfl rfl d_Ma_fillGlobals_25 h fun v25 h => ?_
    refine ww_i2l (pc := 26) g.1 (v := v25.toInt64) d_Ma_fillGlobals_26 rfl ?_
    refine ww_bipush (pc := 27) g.1 (v := 6) d_Ma_fillGlobals_27 (by decide) ?_
    refine ww_iconst (pc := 29) g.1 (v := (-1)) d_Ma_fillGlobals_29 (by decide) ?_
    refine ww_iload_n (pc := 30) g.1 d_Ma_fillGlobals_30 rfl (lv_at hl 1 rfl) ?_
    refine ww_isub (pc := 31) g.1 d_Ma_fillGlobals_31 ?_
    refine ww_i2l (pc := 32) g.1 (v := ((-1) - x).toInt64) d_Ma_fillGlobals_32 rfl ?_
    obtain ⟨v33, s, hc33, h⟩ := oB_of h
    refine ww_callV (pc := 33) (rest := []) g cv_Ta_write (Or.inl kw_1424) cl_Ta (pz rfl (by decide)) (ct_Ta_write hc33) ⟨by decide, by decide⟩ rfl hl.1 (Nat.le_of_ble_eq_true rfl) d_Ma_fillGlobals_33 rfl (?_)
    refine ww_st (st' := [.int v33]) rfl ?_
    refine ww_if_eq (pc := 36) (tgt := 41) g.1 d_Ma_fillGlobals_36 (by decide) h (fun c h => ?_) (fun c h => ?_)
    · refine ww_iinc (pc := 41) g.1 (v := x + 1) (lv' := [(1, .int (x + 1)), (0, .ref (q.1 128 0))]) d_Ma_fillGlobals_41 hl (k := 1) rfl (by rfl) (by decide) rfl fun ls hl => ?_
      refine ww_goto (pc := 44) (tgt := 2) g.1 d_Ma_fillGlobals_44 (by decide) ?_
      rw [oR_eq h] at hR
      exact hR ls (lv_sub hl [1, 0] rfl)
    · rw [oR_eq h] at hR
      exact hR ls (lv_sub hl [] rfl)

theorem ct_Ma_fillGlobals {l : Launch} {P : PP} {q : PL} {s s' : S1}  {r : Int32} (h : M_Ma_fillGlobals s = some (r, s')) : Ct l y_Ma_fillGlobals b_Ma_fillGlobals 2 (some .boolean) 5 132 P q s [.ref (q.1 128 0)] (some (.int r)) q s' := by
  refine ct_of (by decide) (Nat.le_of_ble_eq_true rfl) fun X ls eP el g hR hl => ?_
  subst eP
  have hR : Rt X q ((r, s') : Int32 × S1).2 (some (.int ((r, s') : Int32 × S1).1)) := hR
  have hl : lv_has ls 2 [(0, .ref (q.1 128 0))] := hl
  generalize (r, s') = o at h hR
  unfold M_Ma_fillGlobals at h
  refine ww_iconst (pc := 0) g.1 (v := 0) d_Ma_fillGlobals_0 (by decide) ?_
  refine ww_istore_n (pc := 1) (i := 1) g.1 (lv' := [(1, .int 0), (0, .ref (q.1 128 0))]) d_Ma_fillGlobals_1 rfl hl (by decide) rfl fun ls hl => ?_
  obtain ⟨e2, s1, hw, h⟩ := oB_of h
  refine oW_rule (Wh := fun (x : Int32) (s : S1) => ∀ ls : Array Slot, lv_has ls 2 [(0, .ref (q.1 128 0)), (1, .int x)] → WW X q s 2 ls []) (We := fun (e : (Unit) ⊕ (Unit)) (s : S1) => (Sum.elim (fun y : Unit => ∀ ls : Array Slot, lv_has ls 2 [] → WW X q s 39 ls []) (fun y : Unit => ∀ ls : Array Slot, lv_has ls 2 [] → WW X q s 47 ls [])) e) (fun x s o hb hc => lp_Ma_fillGlobals_L2 (q := q) g x s o hb hc) hw ?_ ls (lv_sub hl [1, 0] rfl)
  clear hw hl
  clear ls
  generalize s1 = s at h ⊢
  rcases e2 with y2_39 | y2_47
  · intro ls hl
    dsimp only [Sum.elim_inl, Sum.elim_inr] at h
    refine ww_iconst (pc := 39) g.1 (v := 0) d_Ma_fillGlobals_39 (by decide) ?_
    exact ww_zretH (pc := 40) g h hR (Or.inl rfl) d_Ma_fillGlobals_40
  · intro ls hl
    dsimp only [Sum.elim_inl, Sum.elim_inr] at h
    refine ww_iconst (pc := 47) g.1 (v := 1) d_Ma_fillGlobals_47 (by decide) ?_
    exact ww_zretH (pc := 48) g h hR (Or.inr rfl) d_Ma_fillGlobals_48

abbrev b_Ma_beginMain : ByteArray := prog_7_method_6_code
def y_Ma_beginMain : MethodName := ⟨R_Ma, "beginMain", "(I)Z"⟩
abbrev w_Ma_beginMain : List Cond := .code y_Ma_beginMain b_Ma_beginMain 4 (some .boolean) :: wA
theorem k_Ma_beginMain : Cond.code y_Ma_beginMain b_Ma_beginMain 4 (some .boolean) ∈ wA := kinm (show _ ∈ tables_1 from (List.mem_append_right _ (List.mem_append_right _ (List.mem_append_right _ (List.mem_append_right _ (List.mem_append_right _ (List.mem_append_left _ (List.mem_of_getElem? (l := tables_1_6) (i := 74) (by decide +kernel))))))))) (by decide +kernel)
theorem d_Ma_beginMain_0 : decode b_Ma_beginMain 0 = .ok (.aload_n 0, 1) := by decide +kernel
theorem d_Ma_beginMain_1 : decode b_Ma_beginMain 1 = .ok (.getfield 31, 3) := by decide +kernel
theorem d_Ma_beginMain_4 : decode b_Ma_beginMain 4 = .ok (.iconst 0, 1) := by decide +kernel
theorem d_Ma_beginMain_5 : decode b_Ma_beginMain 5 = .ok (.iconst 1, 1) := by decide +kernel
theorem d_Ma_beginMain_6 : decode b_Ma_beginMain 6 = .ok (.invokevirtual 154, 3) := by decide +kernel
theorem d_Ma_beginMain_9 : decode b_Ma_beginMain 9 = .ok (.istore_n 2, 1) := by decide +kernel
theorem d_Ma_beginMain_10 : decode b_Ma_beginMain 10 = .ok (.iload_n 2, 1) := by decide +kernel
theorem d_Ma_beginMain_11 : decode b_Ma_beginMain 11 = .ok (.ifCond .ge 5, 3) := by decide +kernel
theorem d_Ma_beginMain_14 : decode b_Ma_beginMain 14 = .ok (.iconst 0, 1) := by decide +kernel
theorem d_Ma_beginMain_15 : decode b_Ma_beginMain 15 = .ok (.ireturn, 1) := by decide +kernel
theorem d_Ma_beginMain_16 : decode b_Ma_beginMain 16 = .ok (.aload_n 0, 1) := by decide +kernel
theorem d_Ma_beginMain_17 : decode b_Ma_beginMain 17 = .ok (.getfield 31, 3) := by decide +kernel
theorem d_Ma_beginMain_20 : decode b_Ma_beginMain 20 = .ok (.getfield 120, 3) := by decide +kernel
theorem d_Ma_beginMain_23 : decode b_Ma_beginMain 23 = .ok (.iload_n 2, 1) := by decide +kernel
theorem d_Ma_beginMain_24 : decode b_Ma_beginMain 24 = .ok (.aaload, 1) := by decide +kernel
theorem d_Ma_beginMain_25 : decode b_Ma_beginMain 25 = .ok (.getfield 158, 3) := by decide +kernel
theorem d_Ma_beginMain_28 : decode b_Ma_beginMain 28 = .ok (.iconst 0, 1) := by decide +kernel
theorem d_Ma_beginMain_29 : decode b_Ma_beginMain 29 = .ok (.iload_n 1, 1) := by decide +kernel
theorem d_Ma_beginMain_30 : decode b_Ma_beginMain 30 = .ok (.iastore, 1) := by decide +kernel
theorem d_Ma_beginMain_31 : decode b_Ma_beginMain 31 = .ok (.aload_n 0, 1) := by decide +kernel
theorem d_Ma_beginMain_32 : decode b_Ma_beginMain 32 = .ok (.getfield 31, 3) := by decide +kernel
theorem d_Ma_beginMain_35 : decode b_Ma_beginMain 35 = .ok (.iload_n 2, 1) := by decide +kernel
theorem d_Ma_beginMain_36 : decode b_Ma_beginMain 36 = .ok (.i2l, 1) := by decide +kernel
theorem d_Ma_beginMain_37 : decode b_Ma_beginMain 37 = .ok (.invokevirtual 161, 3) := by decide +kernel
theorem d_Ma_beginMain_40 : decode b_Ma_beginMain 40 = .ok (.istore_n 3, 1) := by decide +kernel
theorem d_Ma_beginMain_41 : decode b_Ma_beginMain 41 = .ok (.iload_n 3, 1) := by decide +kernel
theorem d_Ma_beginMain_42 : decode b_Ma_beginMain 42 = .ok (.ifCond .ge 5, 3) := by decide +kernel
theorem d_Ma_beginMain_45 : decode b_Ma_beginMain 45 = .ok (.iconst 0, 1) := by decide +kernel
theorem d_Ma_beginMain_46 : decode b_Ma_beginMain 46 = .ok (.ireturn, 1) := by decide +kernel
theorem d_Ma_beginMain_47 : decode b_Ma_beginMain 47 = .ok (.aload_n 0, 1) := by decide +kernel
theorem d_Ma_beginMain_48 : decode b_Ma_beginMain 48 = .ok (.getfield 31, 3) := by decide +kernel
theorem d_Ma_beginMain_51 : decode b_Ma_beginMain 51 = .ok (.iconst 0, 1) := by decide +kernel
theorem d_Ma_beginMain_52 : decode b_Ma_beginMain 52 = .ok (.putfield 47, 3) := by decide +kernel
theorem d_Ma_beginMain_55 : decode b_Ma_beginMain 55 = .ok (.aload_n 0, 1) := by decide +kernel
theorem d_Ma_beginMain_56 : decode b_Ma_beginMain 56 = .ok (.aload_n 0, 1) := by decide +kernel
theorem d_Ma_beginMain_57 : decode b_Ma_beginMain 57 = .ok (.getfield 31, 3) := by decide +kernel
theorem d_Ma_beginMain_60 : decode b_Ma_beginMain 60 = .ok (.getfield 165, 3) := by decide +kernel
theorem d_Ma_beginMain_63 : decode b_Ma_beginMain 63 = .ok (.aload_n 0, 1) := by decide +kernel
theorem d_Ma_beginMain_64 : decode b_Ma_beginMain 64 = .ok (.getfield 31, 3) := by decide +kernel
theorem d_Ma_beginMain_67 : decode b_Ma_beginMain 67 = .ok (.getfield 120, 3) := by decide +kernel
theorem d_Ma_beginMain_70 : decode b_Ma_beginMain 70 = .ok (.iload_n 3, 1) := by decide +kernel
theorem d_Ma_beginMain_71 : decode b_Ma_beginMain 71 = .ok (.aaload, 1) := by decide +kernel
theorem d_Ma_beginMain_72 : decode b_Ma_beginMain 72 = .ok (.getfield 169, 3) := by decide +kernel
theorem d_Ma_beginMain_75 : decode b_Ma_beginMain 75 = .ok (.aaload, 1) := by decide +kernel
theorem d_Ma_beginMain_76 : decode b_Ma_beginMain 76 = .ok (.putfield 172, 3) := by decide +kernel
theorem d_Ma_beginMain_79 : decode b_Ma_beginMain 79 = .ok (.aload_n 0, 1) := by decide +kernel
theorem d_Ma_beginMain_80 : decode b_Ma_beginMain 80 = .ok (.aload_n 0, 1) := by decide +kernel
theorem d_Ma_beginMain_81 : decode b_Ma_beginMain 81 = .ok (.getfield 172, 3) := by decide +kernel
theorem d_Ma_beginMain_84 : decode b_Ma_beginMain 84 = .ok (.invokevirtual 176, 3) := by decide +kernel
theorem d_Ma_beginMain_87 : decode b_Ma_beginMain 87 = .ok (.aload_n 0, 1) := by decide +kernel
theorem d_Ma_beginMain_88 : decode b_Ma_beginMain 88 = .ok (.iload_n 2, 1) := by decide +kernel
theorem d_Ma_beginMain_89 : decode b_Ma_beginMain 89 = .ok (.invokevirtual 180, 3) := by decide +kernel
theorem d_Ma_beginMain_92 : decode b_Ma_beginMain 92 = .ok (.iconst 1, 1) := by decide +kernel
theorem d_Ma_beginMain_93 : decode b_Ma_beginMain 93 = .ok (.ireturn, 1) := by decide +kernel
theorem kw_1427 : Cond.methodLink R_Ma 154 y_He_makeClosure ∈ wA := kinm (show _ ∈ tables_1 from (List.mem_append_right _ (List.mem_append_right _ (List.mem_append_right _ (List.mem_append_right _ (List.mem_append_right _ (List.mem_append_left _ (List.mem_of_getElem? (l := tables_1_6) (i := 75) (by decide +kernel))))))))) (by decide +kernel)
theorem kw_1428 : Cond.fieldLink R_Ma 158 "LuaMachine$Thing" "upvalues" "[I" ∈ wA := kinm (show _ ∈ tables_1 from (List.mem_append_right _ (List.mem_append_right _ (List.mem_append_right _ (List.mem_append_right _ (List.mem_append_left _ (List.mem_of_getElem? (l := tables_1_5) (i := 189) (by decide +kernel)))))))) (by decide +kernel)
theorem kw_1429 : Cond.methodLink R_Ma 161 y_He_makeCoroutine ∈ wA := kinm (show _ ∈ tables_1 from (List.mem_append_right _ (List.mem_append_right _ (List.mem_append_right _ (List.mem_append_right _ (List.mem_append_right _ (List.mem_append_left _ (List.mem_of_getElem? (l := tables_1_6) (i := 79) (by decide +kernel))))))))) (by decide +kernel)
theorem kw_1430 : Cond.fieldLink R_Ma 47 "LuaMachine$Heap" "loading" "Z" ∈ wA := kinm (show _ ∈ tables_1 from (List.mem_append_left _ (List.mem_of_getElem? (l := tables_1_1) (i := 165) (by decide +kernel)))) (by decide +kernel)
theorem kw_1431 : Cond.instanceMethod y_Ma_beginMain ∈ wA := kinm (show _ ∈ tables_1 from (List.mem_append_right _ (List.mem_append_right _ (List.mem_append_right _ (List.mem_append_right _ (List.mem_append_right _ (List.mem_append_left _ (List.mem_of_getElem? (l := tables_1_6) (i := 73) (by decide +kernel))))))))) (by decide +kernel)
theorem kw_1432 : Cond.selects R_Ma y_Ma_beginMain y_Ma_beginMain ∈ wA := kinp 33 (by decide +kernel) (by decide +kernel)
theorem cv_Ma_beginMain : CV y_Ma_beginMain b_Ma_beginMain 4 (some .boolean) 1 := ⟨kw_1431, kw_1432, kw_838, k_Ma_beginMain, by decide +kernel⟩
theorem ct_Ma_beginMain {l : Launch} {P : PP} {q : PL} {s s' : S1} {n0 n1 : Nat × Nat} {l1 : Int32} {r : Int32} (hm : Rmq P q n0) (h : M_Ma_beginMain n0 l1 s = some ((r, n1), s')) : CtX l y_Ma_beginMain b_Ma_beginMain 4 (some .boolean) 5 121 P [147, 149, 150, 151, 153] q s [.ref (q.1 128 0), .int l1] (fun _ => some (.int r)) n1 s' := by
  refine ctX_of (by decide) (Nat.le_of_ble_eq_true rfl) fun X ls eP el g hR hl => ?_
  subst eP
  obtain ⟨q0, hq0⟩ : ∃ q0 : PL, q0 = q := ⟨q, rfl⟩
  have hx0 : Exq (xP X) [147, 149, 150, 151, 153] q0 q := hq0 ▸ Exq.rf
  rw [← hq0] at hR
  have hR : RtX X [147, 149, 150, 151, 153] q0 (((r, n1), s') : (Int32 × (Nat × Nat)) × S1).1.2 (((r, n1), s') : (Int32 × (Nat × Nat)) × S1).2 (fun _ => some (.int (((r, n1), s') : (Int32 × (Nat × Nat)) × S1).1.1)) := hR
  have hl : lv_has ls 4 [(0, .ref (q.1 128 0)), (1, .int l1)] := hl
  generalize ((r, n1), s') = o at h hR
  unfold M_Ma_beginMain at h
  refine ww_aload_n (pc := 0) g.1 d_Ma_beginMain_0 rfl (lv_at hl 0 rfl) ?_
  refine ww_gR (pc := 1) g (k := 1) cl_Ma (pz rfl (by decide)) (by decide) (Or.inl kw_938) (f := 16385) (t := 111) rfl rfl rfl d_Ma_beginMain_1 ?_
  refine ww_iconst (pc := 4) g.1 (v := 0) d_Ma_beginMain_4 (by decide) ?_
  refine ww_iconst (pc := 5) g.1 (v := 1) d_Ma_beginMain_5 (by decide) ?_
  refine ww_lo fun dlo => ?_
  obtain ⟨v6, s, hc6, h⟩ := oB_of h
  refine ww_callVX (pc := 6) (rest := []) g cv_He_makeClosure (Or.inl kw_1427) cl_He (pz rfl (by decide)) (ct_He_makeClosure hm hc6) ⟨by decide, by decide⟩ rfl hl.1 (Nat.le_of_ble_eq_true rfl) d_Ma_beginMain_6 rfl (fun q6 hE hm => ?_)
  have ex6_0 : q6.1 128 0 = q.1 128 0 := hE _ _ (by decide) (dlo _ _ (pz rfl (by decide)))
  have hl : lv_has ls 4 [(0, .ref (q6.1 128 0)), (1, .int l1)] := by rw [ex6_0]; exact hl
  refine ww_st (st' := [.int v6.1]) (by rfl) ?_
  have hx0 : Exq (xP X) [147, 149, 150, 151, 153] _ q6 := hx0.tr (hE.sub (by decide))
  refine ww_istore_n (pc := 9) (i := 2) g.1 (lv' := [(2, .int v6.1), (0, .ref (q6.1 128 0)), (1, .int l1)]) d_Ma_beginMain_9 rfl hl (by decide) rfl fun ls hl => ?_
  refine ww_iload_n (pc := 10) g.1 d_Ma_beginMain_10 rfl (lv_at hl 0 rfl) ?_
  refine ww_if_ge (pc := 11) (tgt := 16) g.1 d_Ma_beginMain_11 (by decide) h (fun c h => ?_) (fun c h => ?_)
  · refine ww_aload_n (pc := 16) g.1 d_Ma_beginMain_16 rfl (lv_at hl 1 rfl) ?_
    refine ww_gR (pc := 17) g (k := 1) cl_Ma (pz rfl (by decide)) (by decide) (Or.inl kw_938) (f := 16385) (t := 111) rfl rfl rfl d_Ma_beginMain_17 ?_
    refine ww_gR (pc := 20) g (k := 0) cl_He (pz rfl (by decide)) (by decide) (Or.inl kw_940) (f := 14208) (t := 112) rfl rfl rfl d_Ma_beginMain_20 ?_
    refine ww_iload_n (pc := 23) g.1 d_Ma_beginMain_23 rfl (lv_at hl 0 rfl) ?_
    refine ww_a8 (pc := 24) g (t := 145) (n := 4000) (pz rfl (by decide)) rfl rfl rfl rfl d_Ma_beginMain_24 h fun pa24 h => ?_
    refine ww_g5 (pc := 25) g (k := 10) cl_Tg pa24 (by decide) (Or.inl kw_1428) (f := 18570) (t := 147) (f2 := 18943) rfl rfl rfl rfl d_Ma_beginMain_25 h fun v25 hv25 h => ?_
    refine ww_ok h fun cv25 h => ?_
    refine ww_dn cv25 ?_
    have pd25 : prs s 147 v6.1 := pdn (hv25 ▸ cv25) pa24.2.1 pa24.2.2
    refine ww_iconst (pc := 28) g.1 (v := 0) d_Ma_beginMain_28 (by decide) ?_
    refine ww_iload_n (pc := 29) g.1 d_Ma_beginMain_29 rfl (lv_at hl 2 rfl) ?_
    refine ww_ln pd25 h fun n30 hmn30 hnn30 h => ?_
    refine ww_si (pc := 30) g pd25 rfl hnn30 d_Ma_beginMain_30 h fun s hs h => ?_
    refine ww_aload_n (pc := 31) g.1 d_Ma_beginMain_31 rfl (lv_at hl 1 rfl) ?_
    refine ww_gR (pc := 32) g (k := 1) cl_Ma (pz rfl (by decide)) (by decide) (Or.inl kw_938) (f := 16385) (t := 111) rfl rfl rfl d_Ma_beginMain_32 ?_
    refine ww_iload_n (pc := 35) g.1 d_Ma_beginMain_35 rfl (lv_at hl 0 rfl) ?_
    refine ww_i2l (pc := 36) g.1 (v := v6.1.toInt64) d_Ma_beginMain_36 rfl ?_
    refine ww_lo fun dlo => ?_
    obtain ⟨v37, s, hc37, h⟩ := oB_of h
    refine ww_callVX (pc := 37) (rest := []) g cv_He_makeCoroutine (Or.inl kw_1429) cl_He (pz rfl (by decide)) (ct_He_makeCoroutine hm hc37) ⟨by decide, by decide⟩ rfl hl.1 (Nat.le_of_ble_eq_true rfl) d_Ma_beginMain_37 rfl (fun q37 hE hm => ?_)
    have ex37_0 : q37.1 128 0 = q6.1 128 0 := hE _ _ (by decide) (dlo _ _ (pz rfl (by decide)))
    have hl : lv_has ls 4 [(2, .int v6.1), (0, .ref (q37.1 128 0)), (1, .int l1)] := by rw [ex37_0]; exact hl
    refine ww_st (st' := [.int v37.1]) (by rfl) ?_
    have hx0 : Exq (xP X) [147, 149, 150, 151, 153] _ q37 := hx0.tr (hE.sub (by decide))
    refine ww_istore_n (pc := 40) (i := 3) g.1 (lv' := [(3, .int v37.1), (2, .int v6.1), (0, .ref (q37.1 128 0)), (1, .int l1)]) d_Ma_beginMain_40 rfl hl (by decide) rfl fun ls hl => ?_
    refine ww_iload_n (pc := 41) g.1 d_Ma_beginMain_41 rfl (lv_at hl 0 rfl) ?_
    refine ww_if_ge (pc := 42) (tgt := 47) g.1 d_Ma_beginMain_42 (by decide) h (fun c h => ?_) (fun c h => ?_)
    · refine ww_aload_n (pc := 47) g.1 d_Ma_beginMain_47 rfl (lv_at hl 2 rfl) ?_
      refine ww_gR (pc := 48) g (k := 1) cl_Ma (pz rfl (by decide)) (by decide) (Or.inl kw_938) (f := 16385) (t := 111) rfl rfl rfl d_Ma_beginMain_48 ?_
      refine ww_iconst (pc := 51) g.1 (v := 0) d_Ma_beginMain_51 (by decide) ?_
      refine ww_pI (pc := 52) g (k := 13) cl_He (pz rfl (by decide)) (by decide) (Or.inl kw_1430) rfl (f := 14221) rfl rfl rfl rfl d_Ma_beginMain_52 h fun s hs h => ?_
      refine ww_aload_n (pc := 55) g.1 d_Ma_beginMain_55 rfl (lv_at hl 2 rfl) ?_
      refine ww_aload_n (pc := 56) g.1 d_Ma_beginMain_56 rfl (lv_at hl 2 rfl) ?_
      refine ww_gR (pc := 57) g (k := 1) cl_Ma (pz rfl (by decide)) (by decide) (Or.inl kw_938) (f := 16385) (t := 111) rfl rfl rfl d_Ma_beginMain_57 ?_
      refine ww_gR (pc := 60) g (k := 6) cl_He (pz rfl (by decide)) (by decide) (Or.inl kw_939) (f := 14214) (t := 116) rfl rfl rfl d_Ma_beginMain_60 ?_
      refine ww_aload_n (pc := 63) g.1 d_Ma_beginMain_63 rfl (lv_at hl 2 rfl) ?_
      refine ww_gR (pc := 64) g (k := 1) cl_Ma (pz rfl (by decide)) (by decide) (Or.inl kw_938) (f := 16385) (t := 111) rfl rfl rfl d_Ma_beginMain_64 ?_
      refine ww_gR (pc := 67) g (k := 0) cl_He (pz rfl (by decide)) (by decide) (Or.inl kw_940) (f := 14208) (t := 112) rfl rfl rfl d_Ma_beginMain_67 ?_
      refine ww_iload_n (pc := 70) g.1 d_Ma_beginMain_70 rfl (lv_at hl 0 rfl) ?_
      refine ww_a8 (pc := 71) g (t := 145) (n := 4000) (pz rfl (by decide)) rfl rfl rfl rfl d_Ma_beginMain_71 h fun pa71 h => ?_
      refine ww_gI (pc := 72) g (k := 4) cl_Tg pa71 (by decide) (Or.inl kw_941) (f := 18564) rfl rfl d_Ma_beginMain_72 h fun v72 h => ?_
      refine ww_a8 (pc := 75) g (t := 148) (n := 32) (pz rfl (by decide)) rfl rfl rfl rfl d_Ma_beginMain_75 h fun pa75 h => ?_
      refine ww_st (st' := [vr q37 148 v72, .ref (q37.1 128 0)]) (by rw [vr_prs pa75]) ?_
      refine ww_pV (pc := 76) g (k := 11) cl_Ma (pz rfl (by decide)) (by decide) (Or.inl kw_988) rfl (f := 16395) (t := 148) rfl rfl rfl rfl fits_vr d_Ma_beginMain_76 h fun s hs h => ?_
      refine ww_aload_n (pc := 79) g.1 d_Ma_beginMain_79 rfl (lv_at hl 2 rfl) ?_
      refine ww_aload_n (pc := 80) g.1 d_Ma_beginMain_80 rfl (lv_at hl 2 rfl) ?_
      refine ww_gV (pc := 81) g (k := 11) cl_Ma (pz rfl (by decide)) (by decide) (Or.inl kw_988) (f := 16395) (t := 148) rfl rfl rfl d_Ma_beginMain_81 h fun v81 h => ?_
      refine ww_pr h fun pn81 h => ?_
      refine ww_nnP pn81 ?_
      obtain ⟨v84, s, hc84, h⟩ := oB_of h
      refine ww_callV (pc := 84) (rest := []) g cv_Ma_begin (Or.inl kw_1140) cl_Ma (pz rfl (by decide)) (ct_Ma_begin pn81 hc84) ⟨by decide, by decide⟩ rfl hl.1 (Nat.le_of_ble_eq_true rfl) d_Ma_beginMain_84 rfl (?_)
      refine ww_st (st' := []) rfl ?_
      refine ww_aload_n (pc := 87) g.1 d_Ma_beginMain_87 rfl (lv_at hl 2 rfl) ?_
      refine ww_iload_n (pc := 88) g.1 d_Ma_beginMain_88 rfl (lv_at hl 1 rfl) ?_
      obtain ⟨v89, s, hc89, h⟩ := oB_of h
      refine ww_callV (pc := 89) (rest := []) g cv_Ma_enterClosure (Or.inl kw_1390) cl_Ma (pz rfl (by decide)) (ct_Ma_enterClosure hc89) ⟨by decide, by decide⟩ rfl hl.1 (Nat.le_of_ble_eq_true rfl) d_Ma_beginMain_89 rfl (?_)
      refine ww_st (st' := []) rfl ?_
      refine ww_iconst (pc := 92) g.1 (v := 1) d_Ma_beginMain_92 (by decide) ?_
      exact ww_zretX (pc := 93) g h hR hx0 hm (Or.inr rfl) d_Ma_beginMain_93
    · refine ww_iconst (pc := 45) g.1 (v := 0) d_Ma_beginMain_45 (by decide) ?_
      exact ww_zretX (pc := 46) g h hR hx0 hm (Or.inl rfl) d_Ma_beginMain_46
  · refine ww_iconst (pc := 14) g.1 (v := 0) d_Ma_beginMain_14 (by decide) ?_
    exact ww_zretX (pc := 15) g h hR hx0 hm (Or.inl rfl) d_Ma_beginMain_15


