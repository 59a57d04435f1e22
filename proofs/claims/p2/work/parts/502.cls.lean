theorem kw_630 : Cond.instanceMethod y_Mo_feed ∈ wA := kinm (show _ ∈ tables_1 from (List.mem_append_right _ (List.mem_append_right _ (List.mem_append_right _ (List.mem_append_right _ (List.mem_append_right _ (List.mem_append_right _ (List.mem_append_right _ (List.mem_append_right _ (List.mem_append_right _ (List.mem_append_right _ (List.mem_append_left _ (List.mem_of_getElem? (l := tables_1_11) (i := 122) (by decide +kernel)))))))))))))) (by decide +kernel)
theorem kw_631 : Cond.selects R_Mo y_Mo_feed y_Mo_feed ∈ wA := kinm (show _ ∈ tables_1 from (List.mem_append_right _ (List.mem_append_right _ (List.mem_append_right _ (List.mem_append_right _ (List.mem_append_right _ (List.mem_append_right _ (List.mem_append_right _ (List.mem_append_right _ (List.mem_append_right _ (List.mem_append_right _ (List.mem_append_left _ (List.mem_of_getElem? (l := tables_1_11) (i := 123) (by decide +kernel)))))))))))))) (by decide +kernel)
theorem cv_Mo_feed : CV y_Mo_feed b_Mo_feed 8 (some .int) 5 := ⟨kw_630, kw_631, kw_17, k_Mo_feed, by decide +kernel⟩
theorem lp_Mo_feed_L60 {X : Cx} {q0 : PL} (g : Gd X y_Mo_feed b_Mo_feed 8 (some .int) 1 22 R_Mo) (x : Int32 × Int32 × (Nat × Nat)) (s : S1) (o : ((Int32 × Int32 × (Nat × Nat)) ⊕ (((Nat × Nat)))) × S1) (h : M_Mo_feed_L60 x s = some o) (hR : (Sum.elim (fun y : Int32 × Int32 × (Nat × Nat) => ∀ q : PL, Exq (xP X) [94] q0 q → Rmq (xP X) q y.2.2 → ∀ ls : Array Slot, (prs o.2 94 y.1) → lv_has ls 8 [(0, .ref (q.1 0 0)), (6, .ref (q.1 94 y.1)), (7, .int y.2.1)] → WW X q o.2 60 ls []) (fun y : (Nat × Nat) => ∀ q : PL, Exq (xP X) [94] q0 q → Rmq (xP X) q y → ∀ ls : Array Slot, lv_has ls 8 [(0, .ref (q.1 0 0))] → WW X q o.2 108 ls []) o.1)) : ∀ q : PL, Exq (xP X) [94] q0 q → Rmq (xP X) q x.2.2 → ∀ ls : Array Slot, (prs s 94 x.1) → lv_has ls 8 [(0, .ref (q.1 0 0)), (6, .ref (q.1 94 x.1)), (7, .int x.2.1)] → WW X q s 60 ls [] := by
  intro q hx0 hm ls hp0 hl
  unfold M_Mo_feed_L60 at h
  refine ww_iload (pc := 60) g.1 d_Mo_feed_60 (lv_at hl 2 rfl) ?_
  refine ww_bipush (pc := 62) g.1 (v := 20) d_Mo_feed_62 (by decide) ?_
  refine ww_icmp_ge (pc := 64) (tgt := 108) g.1 d_Mo_feed_64 (by decide) h (fun c h => ?_) (fun c h => ?_)
  · rw [oR_eq h] at hR
    exact hR q hx0 hm ls (lv_sub hl [0] rfl)
  · refine ww_aload_n (pc := 67) g.1 d_Mo_feed_67 rfl (lv_at hl 0 rfl) ?_
    refine ww_gR (pc := 68) g (k := 0) cl_Mo (pz rfl (by decide)) (by decide) (Or.inl kw_30) (f := 0) (t := 41) rfl rfl rfl d_Mo_feed_68 ?_
    refine ww_aload_n (pc := 71) g.1 d_Mo_feed_71 rfl (lv_at hl 0 rfl) ?_
    refine ww_dup (pc := 72) g.1 d_Mo_feed_72 rfl ?_
    refine ww_gI (pc := 73) g (k := 1) cl_Mo (pz rfl (by decide)) (by decide) (Or.inl kw_21) (f := 1) rfl rfl d_Mo_feed_73 h fun v73 h => ?_
    refine ww_dup_x1 (pc := 76) g.1 d_Mo_feed_76 rfl rfl ?_
    refine ww_iconst (pc := 77) g.1 (v := 1) d_Mo_feed_77 (by decide) ?_
    refine ww_iadd (pc := 78) g.1 d_Mo_feed_78 ?_
    refine ww_pI (pc := 79) g (k := 1) cl_Mo (pz rfl (by decide)) (by decide) (Or.inl kw_21) rfl (f := 1) rfl rfl rfl rfl d_Mo_feed_79 h fun s hs h => ?_
    have hp0 : prs s 94 x.1 := prs_kI (r := 0) (k := 1) (by decide) hs hp0
    refine ww_aload (pc := 82) g.1 d_Mo_feed_82 (lv_at hl 1 rfl) ?_
    refine ww_iload (pc := 84) g.1 d_Mo_feed_84 (lv_at hl 2 rfl) ?_
    refine ww_iconst (pc := 86) g.1 (v := 4) d_Mo_feed_86 (by decide) ?_
    refine ww_idiv (pc := 87) g.1 d_Mo_feed_87 (by decide) ?_
    refine ww_ai (pc := 88) g hp0 rfl rfl d_Mo_feed_88 h fun v88 h => ?_
    refine ww_bipush (pc := 89) g.1 (v := 24) d_Mo_feed_89 (by decide) ?_
    refine ww_bipush (pc := 91) g.1 (v := 8) d_Mo_feed_91 (by decide) ?_
    refine ww_iload (pc := 93) g.1 d_Mo_feed_93 (lv_at hl 2 rfl) ?_
    refine ww_iconst (pc := 95) g.1 (v := 4) d_Mo_feed_95 (by decide) ?_
    refine ww_irem (pc := 96) g.1 d_Mo_feed_96 (by decide) ?_
    refine ww_imul (pc := 97) g.1 d_Mo_feed_97 ?_
    refine ww_isub (pc := 98) g.1 d_Mo_feed_98 ?_
    refine ww_iushr (pc := 99) g.1 (v := iushr v88 (24 - (8 * (x.2.1 - x.2.1 / 4 * 4)))) d_Mo_feed_99 rfl ?_
    refine ww_i2b (pc := 100) g.1 (v := (iushr v88 (24 - (8 * (x.2.1 - x.2.1 / 4 * 4)))).toInt8.toInt32) d_Mo_feed_100 rfl ?_
    refine ww_sb (pc := 101) g (pz rfl (by decide)) rfl rfl d_Mo_feed_101 h fun s hs h => ?_
    have hp0 : prs s 94 x.1 := hs ▸ hp0
    refine ww_iinc (pc := 102) g.1 (v := x.2.1 + 1) (lv' := [(7, .int (x.2.1 + 1)), (0, .ref (q.1 0 0)), (6, .ref (q.1 94 x.1))]) d_Mo_feed_102 hl (k := 2) rfl (by rfl) (by decide) rfl fun ls hl => ?_
    refine ww_goto (pc := 105) (tgt := 60) g.1 d_Mo_feed_105 (by decide) ?_
    rw [oR_eq h] at hR
    exact hR q hx0 hm ls hp0 (lv_sub hl [1, 2, 0] rfl)

theorem j_Mo_feed_j22 {X : Cx} {q0 q : PL} (g : Gd X y_Mo_feed b_Mo_feed 8 (some .int) 1 22 R_Mo) {o : (Int32 × (Nat × Nat)) × S1} (hR : RtX X [94] q0 o.1.2 o.2 (fun _ => some (.int o.1.1))) (hx0 : Exq (xP X) [94] q0 q) (l1 : Int32) (l2 : Int32) (l3 : Int32) (l4 : Int32) (l5 : Int32) (ln : Nat × Nat) (k0 : Int32) (k1 : Int32) (hm : Rmq (xP X) q ln) (s : S1) (ls : Array Slot) (hl : lv_has ls 8 [(0, .ref (q.1 0 0)), (1, .int l1), (2, .int l2), (3, .int l3), (4, .int l4), (5, .int l5)]) (h : M_Mo_feed_j22 l1 l2 l3 l4 l5 ln k0 k1 s = some o) : WW X q s 22 ls [.int k0, .int k1, .ref (q.1 0 0)] := by
  unfold M_Mo_feed_j22 at h
  obtain ⟨v22, s, hc22, h⟩ := oB_of h
  refine ww_callV (pc := 22) (rest := []) g cv_Mo_refuse (Or.inl kw_20) cl_Mo (pz rfl (by decide)) (ct_Mo_refuse hc22) ⟨by decide, by decide⟩ rfl hl.1 (Nat.le_of_ble_eq_true rfl) d_Mo_feed_22 rfl (?_)
  refine ww_st (st' := [.int v22]) rfl ?_
  refine ww_if_eq (pc := 25) (tgt := 30) g.1 d_Mo_feed_25 (by decide) h (fun c h => ?_) (fun c h => ?_)
  · refine ww_iconst (pc := 30) g.1 (v := 5) d_Mo_feed_30 (by decide) ?_
    refine ww_lo fun dlo => ?_
    refine ww_nwT (at0 := .int) (i := 0) (n := 5) (t := 94) (L := [94]) (pc := 31) g rfl (by decide) (by decide) (by decide) (Or.inr rfl) (by decide) (by decide) kw_622 hm d_Mo_feed_31 (by decide) h (fun _ => rfl) fun q31 m31 s hs hE hm pm31 h => ?_
    have ex31_0 : q31.1 0 0 = q.1 0 0 := hE _ _ (by decide) (dlo _ _ (pz rfl (by decide)))
    have hl : lv_has ls 8 [(0, .ref (q31.1 0 0)), (1, .int l1), (2, .int l2), (3, .int l3), (4, .int l4), (5, .int l5)] := by rw [ex31_0]; exact hl
    refine ww_st (st' := [.ref (q31.1 94 0)]) (by rfl) ?_
    have hx0 : Exq (xP X) [94] _ q31 := hx0.tr (hE.sub (by decide))
    refine ww_dup (pc := 33) g.1 d_Mo_feed_33 rfl ?_
    refine ww_iconst (pc := 34) g.1 (v := 0) d_Mo_feed_34 (by decide) ?_
    refine ww_iload_n (pc := 35) g.1 d_Mo_feed_35 rfl (lv_at hl 1 rfl) ?_
    refine ww_si (pc := 36) g pm31 rfl rfl d_Mo_feed_36 h fun s hs h => ?_
    have pm31 : prs s 94 0 := hs ▸ pm31
    refine ww_dup (pc := 37) g.1 d_Mo_feed_37 rfl ?_
    refine ww_iconst (pc := 38) g.1 (v := 1) d_Mo_feed_38 (by decide) ?_
    refine ww_iload_n (pc := 39) g.1 d_Mo_feed_39 rfl (lv_at hl 2 rfl) ?_
    refine ww_si (pc := 40) g pm31 rfl rfl d_Mo_feed_40 h fun s hs h => ?_
    have pm31 : prs s 94 0 := hs ▸ pm31
    refine ww_dup (pc := 41) g.1 d_Mo_feed_41 rfl ?_
    refine ww_iconst (pc := 42) g.1 (v := 2) d_Mo_feed_42 (by decide) ?_
    refine ww_iload_n (pc := 43) g.1 d_Mo_feed_43 rfl (lv_at hl 3 rfl) ?_
    refine ww_si (pc := 44) g pm31 rfl rfl d_Mo_feed_44 h fun s hs h => ?_
    have pm31 : prs s 94 0 := hs ▸ pm31
    refine ww_dup (pc := 45) g.1 d_Mo_feed_45 rfl ?_
    refine ww_iconst (pc := 46) g.1 (v := 3) d_Mo_feed_46 (by decide) ?_
    refine ww_iload (pc := 47) g.1 d_Mo_feed_47 (lv_at hl 4 rfl) ?_
    refine ww_si (pc := 49) g pm31 rfl rfl d_Mo_feed_49 h fun s hs h => ?_
    have pm31 : prs s 94 0 := hs ▸ pm31
    refine ww_dup (pc := 50) g.1 d_Mo_feed_50 rfl ?_
    refine ww_iconst (pc := 51) g.1 (v := 4) d_Mo_feed_51 (by decide) ?_
    refine ww_iload (pc := 52) g.1 d_Mo_feed_52 (lv_at hl 5 rfl) ?_
    refine ww_si (pc := 54) g pm31 rfl rfl d_Mo_feed_54 h fun s hs h => ?_
    have pm31 : prs s 94 0 := hs ▸ pm31
    refine ww_astore (pc := 55) (i := 6) g.1 (lv' := [(6, .ref (q31.1 94 0)), (0, .ref (q31.1 0 0)), (1, .int l1), (2, .int l2), (3, .int l3), (4, .int l4), (5, .int l5)]) d_Mo_feed_55 hl (by decide) rfl fun ls hl => ?_
    refine ww_iconst (pc := 57) g.1 (v := 0) d_Mo_feed_57 (by decide) ?_
    refine ww_istore (pc := 58) (i := 7) g.1 (lv' := [(7, .int 0), (6, .ref (q31.1 94 0)), (0, .ref (q31.1 0 0)), (1, .int l1), (2, .int l2), (3, .int l3), (4, .int l4), (5, .int l5)]) d_Mo_feed_58 hl (by decide) rfl fun ls hl => ?_
    obtain ⟨e60, s1, hw, h⟩ := oB_of h
    refine oW_rule (Wh := fun (x : Int32 × Int32 × (Nat × Nat)) (s : S1) => ∀ q : PL, Exq (xP X) [94] q0 q → Rmq (xP X) q x.2.2 → ∀ ls : Array Slot, (prs s 94 x.1) → lv_has ls 8 [(0, .ref (q.1 0 0)), (6, .ref (q.1 94 x.1)), (7, .int x.2.1)] → WW X q s 60 ls []) (We := fun (e : ((Nat × Nat))) (s : S1) => ∀ q : PL, Exq (xP X) [94] q0 q → Rmq (xP X) q e → ∀ ls : Array Slot, lv_has ls 8 [(0, .ref (q.1 0 0))] → WW X q s 108 ls []) (fun x s o hb hc => lp_Mo_feed_L60 (q0 := q0) g x s o hb hc) hw ?_ q31 hx0 hm ls pm31 (lv_sub hl [2, 1, 0] rfl)
    clear hw hl hx0 hm
    clear ls
    intro qL60 hx0 hm ls hl
    generalize s1 = s at h ⊢
    refine ww_aload_n (pc := 108) g.1 d_Mo_feed_108 rfl (lv_at hl 0 rfl) ?_
    refine ww_gI (pc := 109) g (k := 1) cl_Mo (pz rfl (by decide)) (by decide) (Or.inl kw_21) (f := 1) rfl rfl d_Mo_feed_109 h fun v109 h => ?_
    exact ww_iretX (pc := 112) g h hR hx0 hm d_Mo_feed_112
  · refine ww_iconst (pc := 28) g.1 (v := 0) d_Mo_feed_28 (by decide) ?_
    exact ww_iretX (pc := 29) g h hR hx0 hm d_Mo_feed_29

theorem ct_Mo_feed {l : Launch} {P : PP} {q : PL} {s s' : S1} {n0 n1 : Nat × Nat} {l1 : Int32} {l2 : Int32} {l3 : Int32} {l4 : Int32} {l5 : Int32} {r : Int32} (hm : Rmq P q n0) (h : M_Mo_feed n0 l1 l2 l3 l4 l5 s = some ((r, n1), s')) : CtX l y_Mo_feed b_Mo_feed 8 (some .int) 1 22 P [94] q s [.ref (q.1 0 0), .int l1, .int l2, .int l3, .int l4, .int l5] (fun _ => some (.int r)) n1 s' := by
  refine ctX_of (by decide) (Nat.le_of_ble_eq_true rfl) fun X ls eP el g hR hl => ?_
  subst eP
  obtain ⟨q0, hq0⟩ : ∃ q0 : PL, q0 = q := ⟨q, rfl⟩
  have hx0 : Exq (xP X) [94] q0 q := hq0 ▸ Exq.rf
  rw [← hq0] at hR
  have hR : RtX X [94] q0 (((r, n1), s') : (Int32 × (Nat × Nat)) × S1).1.2 (((r, n1), s') : (Int32 × (Nat × Nat)) × S1).2 (fun _ => some (.int (((r, n1), s') : (Int32 × (Nat × Nat)) × S1).1.1)) := hR
  have hl : lv_has ls 8 [(0, .ref (q.1 0 0)), (1, .int l1), (2, .int l2), (3, .int l3), (4, .int l4), (5, .int l5)] := hl
  generalize ((r, n1), s') = o at h hR
  unfold M_Mo_feed at h
  refine ww_aload_n (pc := 0) g.1 d_Mo_feed_0 rfl (lv_at hl 0 rfl) ?_
  refine ww_iconst (pc := 1) g.1 (v := 0) d_Mo_feed_1 (by decide) ?_
  refine ww_pI (pc := 2) g (k := 2) cl_Mo (pz rfl (by decide)) (by decide) (Or.inl kw_14) rfl (f := 2) rfl rfl rfl rfl d_Mo_feed_2 h fun s hs h => ?_
  refine ww_aload_n (pc := 5) g.1 d_Mo_feed_5 rfl (lv_at hl 0 rfl) ?_
  refine ww_iconst (pc := 6) g.1 (v := 1) d_Mo_feed_6 (by decide) ?_
  refine ww_aload_n (pc := 7) g.1 d_Mo_feed_7 rfl (lv_at hl 0 rfl) ?_
  refine ww_gI (pc := 8) g (k := 1) cl_Mo (pz rfl (by decide)) (by decide) (Or.inl kw_21) (f := 1) rfl rfl d_Mo_feed_8 h fun v8 h => ?_
  refine ww_ldcw (pc := 11) g (v := 65516) kw_617 d_Mo_feed_11 ?_
  refine ww_icmp_le (pc := 14) (tgt := 21) g.1 d_Mo_feed_14 (by decide) h (fun c h => ?_) (fun c h => ?_)
  · refine ww_iconst (pc := 21) g.1 (v := 0) d_Mo_feed_21 (by decide) ?_
    exact j_Mo_feed_j22 g hR hx0 l1 l2 l3 l4 l5 n0 0 1 hm s ls (lv_sub hl [0, 1, 2, 3, 4, 5] rfl) h
  · refine ww_iconst (pc := 17) g.1 (v := 1) d_Mo_feed_17 (by decide) ?_
    refine ww_goto (pc := 18) (tgt := 22) g.1 d_Mo_feed_18 (by decide) ?_
    exact j_Mo_feed_j22 g hR hx0 l1 l2 l3 l4 l5 n0 1 1 hm s ls (lv_sub hl [0, 1, 2, 3, 4, 5] rfl) h


