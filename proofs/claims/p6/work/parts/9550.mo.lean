theorem tail_Mo {X : Cx} {q0 q : PL} {ls : Array Slot} {a0 : Nat} {m : Nat × Nat} (g : Gd X y_Mo_init b_Mo_init 2 none 4 81 R_Mo) (hR : RtN X q0 105 m 1772) (hkp : Kpp 105 q0 q) (e0 : q.1 0 0 = a0) (hm : Rnn (xP X) q (m.1 + 0, m.2 + 0)) (hl : lv_has ls 2 [(1, .int 33), (0, .ref a0)]) : WN X q 1771 1122 ls [] := by
  refine nn_aload_n (pc := 1122) g.1 d_Mo_init_1122 rfl (lv_at hl 1 rfl) ?_
  refine nn_sipush (pc := 1123) g.1 (v := 1000) d_Mo_init_1123 (by decide) ?_
  refine nn_put (pc := 1126) (r := 0) (k := 32) (n' := 1772) g cl_Mo ⟨⟨rfl, by decide, by decide⟩, by decide +kernel⟩ (by decide) (Or.inl kn_164) (Or.inl rfl) e0 rfl rfl (Or.inl ⟨(by decide +kernel), rfl, (fvI rfl rfl)⟩) d_Mo_init_1126 ?_
  exact nn_ret (pc := 1129) g hR hkp (hm.le (by dsimp only; omega) (by dsimp only; omega)) d_Mo_init_1129
theorem loop_Mo {X : Cx} {q0 q : PL} {a0 a76 : Nat} {m : Nat × Nat} (g : Gd X y_Mo_init b_Mo_init 2 none 4 81 R_Mo) (hR : RtN X q0 105 m 1772) (hkp : Kpp 105 q0 q) (e0 : q.1 0 0 = a0) (e76 : q.1 76 0 = a76) (hm : Rnn (xP X) q (m.1 + 726, m.2 + 527406)) (ls : Array Slot) (hl : lv_has ls 2 [(1, .int 0), (0, .ref a0)]) : WN X q 286 1097 ls [] := by
  have go : ∀ (k : Nat) (t : Int32) (q : PL) (ls : Array Slot), k = 33 - t.toNatClampNeg → 0 ≤ t → t.toNatClampNeg ≤ 33 → Kpp 105 q0 q → q.1 0 0 = a0 → q.1 76 0 = a76 → Rnn (xP X) q (m.1 + 22 * (33 - t.toNatClampNeg), m.2 + 15982 * (33 - t.toNatClampNeg)) → lv_has ls 2 [(1, .int t), (0, .ref a0)] → WN X q (286 + t.toNatClampNeg * 45) 1097 ls [] := by
    intro k
    induction k with
    | zero =>
      intro t q ls hk0 t0 t33 hkp e0 e76 hm hl
      have et33 : t.toNatClampNeg = 33 := by omega
      have e33 : t = 33 := clamp_ij t0 (by decide) (by rw [et33]; decide)
      subst e33
      refine nn_iload_n (pc := 1097) g.1 d_Mo_init_1097 rfl (lv_at hl 0 rfl) ?_
      refine nn_bipush (pc := 1098) g.1 (v := 33) d_Mo_init_1098 (by decide) ?_
      refine nn_icmp_ge (pc := 1100) (tgt := 1122) g.1 d_Mo_init_1100 (by decide) (fun c => ?_) (fun c => absurd (Int32.le_refl _) c)
      exact tail_Mo g hR hkp e0 (hm.le (by dsimp only; omega) (by dsimp only; omega)) hl
    | succ k ih =>
      intro t q ls hk0 t0 t33 hkp e0 e76 hm hl
      have ht : 0 ≤ t ∧ t.toNatClampNeg < 33 := ⟨t0, by omega⟩
      have ht33 : t < 33 := by
        rw [Int32.lt_iff_toInt_lt]
        have a1 : t.toNatClampNeg = t.toInt.toNat := rfl
        have a2 : (33 : Int32).toInt = 33 := rfl
        have a3 : (0 : Int) ≤ t.toInt := by simpa using Int32.le_iff_toInt_le.mp t0
        omega
      have tp : (t + 1).toNatClampNeg = t.toNatClampNeg + 1 ∧ 0 ≤ t + 1 := tp_ok t ht
      refine nn_iload_n (pc := 1097) g.1 d_Mo_init_1097 rfl (lv_at hl 0 rfl) ?_
      refine nn_bipush (pc := 1098) g.1 (v := 33) d_Mo_init_1098 (by decide) ?_
      refine nn_icmp_ge (pc := 1100) (tgt := 1122) g.1 d_Mo_init_1100 (by decide) (fun c => absurd c (Int32.not_le.mpr ht33)) (fun c => ?_)
      refine nn_aload_n (pc := 1103) g.1 d_Mo_init_1103 rfl (lv_at hl 1 rfl) ?_
      refine nn_get (pc := 1104) (r := 0) (k := 71) (t := 76) g cl_Mo ⟨⟨rfl, by decide, by decide⟩, by rw [show eo 127 0 = 104 by decide +kernel]; omega⟩ (by decide) (Or.inl kn_206) e0 (by rw [show eo 71 0 = 183 by decide +kernel]; omega) rfl rfl e76 d_Mo_init_1104 ?_
      refine nn_iload_n (pc := 1107) g.1 d_Mo_init_1107 rfl (lv_at hl 0 rfl) ?_
      refine nn_new (pc := 1108) (r := 28) (i := t) (m := (m.1 + (22 * (32 - t.toNatClampNeg) + 21), m.2 + (15982 * (32 - t.toNatClampNeg) + 15960))) g.gn cl_Th (by unfold dvC; decide +kernel) ⟨rfl, ht.1, ht.2⟩ (Eq.trans (et (t := t) (f := 3711) (v := 286) (Or.inl ⟨by decide, by decide⟩) (by decide +kernel) (by decide)) (by omega)) (hm.le (by dsimp only; omega) (by have z : nfF 28 = 22 := rfl; dsimp only; omega)) kn_205 kn_237 kn_238 d_Mo_init_1108 fun q1108 a28 hk e28 hm => ?_
      have e0 : q1108.1 0 0 = a0 := (hk 0 0 ⟨⟨rfl, by decide, by decide⟩, by rw [show eo 127 0 = 104 by decide +kernel]; omega⟩).trans e0
      have e76 : q1108.1 76 0 = a76 := (hk 76 0 ⟨⟨rfl, by decide, by decide⟩, by rw [show eo 9855 0 = 182 by decide +kernel]; omega⟩).trans e76
      have hkp := hkp.tr hk (by omega)
      refine nn_dup (pc := 1111) g.1 d_Mo_init_1111 rfl ?_
      refine nn_n (n' := (287 + t.toNatClampNeg * 45)) (by omega) ?_
      refine nn_call (pc := 1112) (rest := [.ref a28, .int t, .ref a76]) (m := (m.1 + 22 * (32 - t.toNatClampNeg), m.2 + 15982 * (32 - t.toNatClampNeg))) (As := []) g.gn ci_Th_init (Or.inr ⟨"LuaMachineModel", kxn_8⟩) (cn_Th_28 ht (hm.le (by dsimp only; omega) (by dsimp only; omega)) e28) (hm.le (by dsimp only; omega) (by dsimp only; omega)) ⟨by decide, by decide⟩ rfl hl.1 (Nat.le_of_ble_eq_true rfl) d_Mo_init_1112 rfl fun q1112 hk hm => ?_
      have e0 : q1112.1 0 0 = a0 := (hk 0 0 ⟨⟨rfl, by decide, by decide⟩, by rw [show eo 127 0 = 104 by decide +kernel]; omega⟩).trans e0
      have e76 : q1112.1 76 0 = a76 := (hk 76 0 ⟨⟨rfl, by decide, by decide⟩, by rw [show eo 9855 0 = 182 by decide +kernel]; omega⟩).trans e76
      have e28 : q1112.1 28 t = a28 := (hk 28 t ⟨⟨rfl, ht.1, ht.2⟩, by rw [et (Or.inl ⟨by decide, by decide⟩) (show eoF 3711 = 286 by decide +kernel) (by decide)]; omega⟩).trans e28
      have hkp := hkp.tr hk (by omega)
      refine nn_aast (pc := 1115) (r := 76) (f := 200000) (fi := t) g.gn ⟨⟨rfl, by decide, by decide⟩, by rw [show eo 9855 0 = 182 by decide +kernel]; omega⟩ e76 (by decide) (fun H locs hW _ => by have z := any_T g.gn ⟨⟨rfl, ht.1, ht.2⟩, by rw [et (Or.inl ⟨by decide, by decide⟩) (show eoF 3711 = 286 by decide +kernel) (by decide)]; omega⟩ H locs hW; rw [e28] at z; exact z) (j := t.toNatClampNeg) rfl ht.1 ht.2 (Or.inr ⟨rfl, rfl, (i_of_clamp ht.1).symm, by rw [i_of_clamp ht.1, e28], ht.2⟩) (Eq.trans (et (t := t) (f := 200000) (v := 330) (Or.inr rfl) (by decide +kernel) (by decide)) (by omega)) d_Mo_init_1115 ?_
      refine nn_iinc (pc := 1116) (lv' := [(1, .int (t + 1)), (0, .ref a0)]) g.1 d_Mo_init_1116 hl (k1 := 0) rfl rfl (by decide) rfl fun ls hl => ?_
      refine nn_goto (pc := 1119) (tgt := 1097) g.1 d_Mo_init_1119 (by decide) ?_
      have z := ih (t + 1) _ ls (by rw [tp.1]; omega) tp.2 (by rw [tp.1]; omega) hkp e0 e76 (hm.le (by rw [tp.1]; dsimp only; omega) (by rw [tp.1]; dsimp only; omega)) hl
      rw [tp.1, show 286 + (t.toNatClampNeg + 1) * 45 = 330 + t.toNatClampNeg * 45 + 1 by omega] at z
      exact z
  have z := go 33 0 q ls (by decide) (by decide) (by decide) hkp e0 e76 (hm.le (by show _ ≤ _; omega) (by show _ ≤ _; omega)) hl
  exact z
theorem cn_Mo_0 {l : Launch} {P : PP} {q : PL} {m : Nat × Nat} (hm : Rnn P q (m.1 + 787, m.2 + 1466033)) {a0 : Nat} (e0 : q.1 0 0 = a0) : CtN l y_Mo_init b_Mo_init 2 4 81 P q 105 [.ref a0] m 1772 := by
  refine ctN_of (by decide) rfl (Nat.le_of_ble_eq_true rfl) fun X ls eP el g hnm hR hl => ?_
  subst eP
  have hkp : Kpp 105 q q := Kpp.rf
  have hl : lv_has ls 2 [(0, .ref a0)] := hl
  refine nn_aload_n (pc := 0) g.1 d_Mo_init_0 rfl (lv_at hl 0 rfl) ?_
  refine nn_obj (pc := 1) g.gn kn_120 kn_1 kn_2 ⟨by decide, by decide⟩ hl.1 (Nat.le_of_ble_eq_true rfl) d_Mo_init_1 ?_
  refine nn_aload_n (pc := 4) g.1 d_Mo_init_4 rfl (lv_at hl 0 rfl) ?_
  refine nn_ldc (pc := 5) g.gn (v := 65536) kn_121 d_Mo_init_5 ?_
  refine nn_arr (pc := 7) (r := 41) (i := 0) (N := 65536) (at0 := .byte) (m := (m.1 + 786, m.2 + 1400497)) g.gn rfl (by decide) ⟨rfl, by decide, by decide⟩ (by decide +kernel) (by decide) rfl (by decide) (by decide) (hm.le (by dsimp only; omega) (by dsimp only; omega)) kn_12 d_Mo_init_7 fun q7 a41 hk e41 hm => ?_
  have e0 : q7.1 0 0 = a0 := (hk 0 0 ⟨⟨rfl, by decide, by decide⟩, by decide +kernel⟩).trans e0
  have hkp := hkp.tr hk (by decide)
  refine nn_put (pc := 9) (r := 0) (k := 0) (n' := 107) g cl_Mo ⟨⟨rfl, by decide, by decide⟩, by decide +kernel⟩ (by decide) (Or.inl kn_122) (Or.inr ⟨rfl, hnm, rfl, kn_122⟩) e0 rfl rfl (Or.inl ⟨(by decide +kernel), rfl, (fvR rfl rfl e41)⟩) d_Mo_init_9 ?_
  refine nn_aload_n (pc := 12) g.1 d_Mo_init_12 rfl (lv_at hl 0 rfl) ?_
  refine nn_iconst (pc := 13) g.1 (v := 0) d_Mo_init_13 (by decide) ?_
  refine nn_put (pc := 14) (r := 0) (k := 1) (n' := 107) g cl_Mo ⟨⟨rfl, by decide, by decide⟩, by decide +kernel⟩ (by decide) (Or.inl kn_123) (Or.inl rfl) e0 rfl rfl (Or.inr ⟨rfl, fN_dv (Or.inr ⟨by decide +kernel, (by decide), (fvI rfl rfl)⟩)⟩) d_Mo_init_14 ?_
  refine nn_aload_n (pc := 17) g.1 d_Mo_init_17 rfl (lv_at hl 0 rfl) ?_
  refine nn_iconst (pc := 18) g.1 (v := 0) d_Mo_init_18 (by decide) ?_
  refine nn_put (pc := 19) (r := 0) (k := 2) (n' := 107) g cl_Mo ⟨⟨rfl, by decide, by decide⟩, by decide +kernel⟩ (by decide) (Or.inl kn_124) (Or.inl rfl) e0 rfl rfl (Or.inr ⟨rfl, fN_dv (Or.inr ⟨by decide +kernel, (by decide), (fvI rfl rfl)⟩)⟩) d_Mo_init_19 ?_
  refine nn_aload_n (pc := 22) g.1 d_Mo_init_22 rfl (lv_at hl 0 rfl) ?_
  refine nn_iconst (pc := 23) g.1 (v := 0) d_Mo_init_23 (by decide) ?_
  refine nn_put (pc := 24) (r := 0) (k := 3) (n' := 107) g cl_Mo ⟨⟨rfl, by decide, by decide⟩, by decide +kernel⟩ (by decide) (Or.inl kn_125) (Or.inl rfl) e0 rfl rfl (Or.inr ⟨rfl, fN_dv (Or.inr ⟨by decide +kernel, (by decide), (fvI rfl rfl)⟩)⟩) d_Mo_init_24 ?_
  refine nn_aload_n (pc := 27) g.1 d_Mo_init_27 rfl (lv_at hl 0 rfl) ?_
  refine nn_iconst (pc := 28) g.1 (v := (-1)) d_Mo_init_28 (by decide) ?_
  refine nn_put (pc := 29) (r := 0) (k := 4) (n' := 108) g cl_Mo ⟨⟨rfl, by decide, by decide⟩, by decide +kernel⟩ (by decide) (Or.inl kn_126) (Or.inl rfl) e0 rfl rfl (Or.inl ⟨(by decide +kernel), rfl, (fvI rfl rfl)⟩) d_Mo_init_29 ?_
  refine nn_aload_n (pc := 32) g.1 d_Mo_init_32 rfl (lv_at hl 0 rfl) ?_
  refine nn_iconst (pc := 33) g.1 (v := 0) d_Mo_init_33 (by decide) ?_
  refine nn_put (pc := 34) (r := 0) (k := 5) (n' := 108) g cl_Mo ⟨⟨rfl, by decide, by decide⟩, by decide +kernel⟩ (by decide) (Or.inl kn_127) (Or.inl rfl) e0 rfl rfl (Or.inr ⟨rfl, fN_dv (Or.inr ⟨by decide +kernel, (by decide), (fvI rfl rfl)⟩)⟩) d_Mo_init_34 ?_
  refine nn_aload_n (pc := 37) g.1 d_Mo_init_37 rfl (lv_at hl 0 rfl) ?_
  refine nn_sipush (pc := 38) g.1 (v := 251) d_Mo_init_38 (by decide) ?_
  refine nn_arr (pc := 41) (r := 42) (i := 0) (N := 251) (at0 := .int) (m := (m.1 + 785, m.2 + 1400246)) g.gn rfl (by decide) ⟨rfl, by decide, by decide⟩ (by decide +kernel) (by decide) rfl (by decide) (by decide) (hm.le (by dsimp only; omega) (by dsimp only; omega)) kn_9 d_Mo_init_41 fun q41 a42 hk e42 hm => ?_
  have e0 : q41.1 0 0 = a0 := (hk 0 0 ⟨⟨rfl, by decide, by decide⟩, by decide +kernel⟩).trans e0
  have e41 : q41.1 41 0 = a41 := (hk 41 0 ⟨⟨rfl, by decide, by decide⟩, by decide +kernel⟩).trans e41
  have hkp := hkp.tr hk (by decide)
  refine nn_put (pc := 43) (r := 0) (k := 6) (n' := 110) g cl_Mo ⟨⟨rfl, by decide, by decide⟩, by decide +kernel⟩ (by decide) (Or.inl kn_128) (Or.inr ⟨rfl, hnm, rfl, kn_128⟩) e0 rfl rfl (Or.inl ⟨(by decide +kernel), rfl, (fvR rfl rfl e42)⟩) d_Mo_init_43 ?_
  refine nn_aload_n (pc := 46) g.1 d_Mo_init_46 rfl (lv_at hl 0 rfl) ?_
  refine nn_sipush (pc := 47) g.1 (v := 251) d_Mo_init_47 (by decide) ?_
  refine nn_arr (pc := 50) (r := 43) (i := 0) (N := 251) (at0 := .int) (m := (m.1 + 784, m.2 + 1399995)) g.gn rfl (by decide) ⟨rfl, by decide, by decide⟩ (by decide +kernel) (by decide) rfl (by decide) (by decide) (hm.le (by dsimp only; omega) (by dsimp only; omega)) kn_9 d_Mo_init_50 fun q50 a43 hk e43 hm => ?_
  have e0 : q50.1 0 0 = a0 := (hk 0 0 ⟨⟨rfl, by decide, by decide⟩, by decide +kernel⟩).trans e0
  have e41 : q50.1 41 0 = a41 := (hk 41 0 ⟨⟨rfl, by decide, by decide⟩, by decide +kernel⟩).trans e41
  have e42 : q50.1 42 0 = a42 := (hk 42 0 ⟨⟨rfl, by decide, by decide⟩, by decide +kernel⟩).trans e42
  have hkp := hkp.tr hk (by decide)
  refine nn_put (pc := 52) (r := 0) (k := 7) (n' := 112) g cl_Mo ⟨⟨rfl, by decide, by decide⟩, by decide +kernel⟩ (by decide) (Or.inl kn_129) (Or.inr ⟨rfl, hnm, rfl, kn_129⟩) e0 rfl rfl (Or.inl ⟨(by decide +kernel), rfl, (fvR rfl rfl e43)⟩) d_Mo_init_52 ?_
  refine nn_aload_n (pc := 55) g.1 d_Mo_init_55 rfl (lv_at hl 0 rfl) ?_
  refine nn_sipush (pc := 56) g.1 (v := 251) d_Mo_init_56 (by decide) ?_
  refine nn_arr (pc := 59) (r := 44) (i := 0) (N := 251) (at0 := .int) (m := (m.1 + 783, m.2 + 1399744)) g.gn rfl (by decide) ⟨rfl, by decide, by decide⟩ (by decide +kernel) (by decide) rfl (by decide) (by decide) (hm.le (by dsimp only; omega) (by dsimp only; omega)) kn_9 d_Mo_init_59 fun q59 a44 hk e44 hm => ?_
  have e0 : q59.1 0 0 = a0 := (hk 0 0 ⟨⟨rfl, by decide, by decide⟩, by decide +kernel⟩).trans e0
  have e41 : q59.1 41 0 = a41 := (hk 41 0 ⟨⟨rfl, by decide, by decide⟩, by decide +kernel⟩).trans e41
  have e42 : q59.1 42 0 = a42 := (hk 42 0 ⟨⟨rfl, by decide, by decide⟩, by decide +kernel⟩).trans e42
  have e43 : q59.1 43 0 = a43 := (hk 43 0 ⟨⟨rfl, by decide, by decide⟩, by decide +kernel⟩).trans e43
  have hkp := hkp.tr hk (by decide)
  refine nn_put (pc := 61) (r := 0) (k := 8) (n' := 114) g cl_Mo ⟨⟨rfl, by decide, by decide⟩, by decide +kernel⟩ (by decide) (Or.inl kn_130) (Or.inr ⟨rfl, hnm, rfl, kn_130⟩) e0 rfl rfl (Or.inl ⟨(by decide +kernel), rfl, (fvR rfl rfl e44)⟩) d_Mo_init_61 ?_
  refine nn_aload_n (pc := 64) g.1 d_Mo_init_64 rfl (lv_at hl 0 rfl) ?_
  refine nn_sipush (pc := 65) g.1 (v := 251) d_Mo_init_65 (by decide) ?_
  refine nn_arr (pc := 68) (r := 45) (i := 0) (N := 251) (at0 := .int) (m := (m.1 + 782, m.2 + 1399493)) g.gn rfl (by decide) ⟨rfl, by decide, by decide⟩ (by decide +kernel) (by decide) rfl (by decide) (by decide) (hm.le (by dsimp only; omega) (by dsimp only; omega)) kn_9 d_Mo_init_68 fun q68 a45 hk e45 hm => ?_
  have e0 : q68.1 0 0 = a0 := (hk 0 0 ⟨⟨rfl, by decide, by decide⟩, by decide +kernel⟩).trans e0
  have e41 : q68.1 41 0 = a41 := (hk 41 0 ⟨⟨rfl, by decide, by decide⟩, by decide +kernel⟩).trans e41
  have e42 : q68.1 42 0 = a42 := (hk 42 0 ⟨⟨rfl, by decide, by decide⟩, by decide +kernel⟩).trans e42
  have e43 : q68.1 43 0 = a43 := (hk 43 0 ⟨⟨rfl, by decide, by decide⟩, by decide +kernel⟩).trans e43
  have e44 : q68.1 44 0 = a44 := (hk 44 0 ⟨⟨rfl, by decide, by decide⟩, by decide +kernel⟩).trans e44
  have hkp := hkp.tr hk (by decide)
  refine nn_put (pc := 70) (r := 0) (k := 9) (n' := 116) g cl_Mo ⟨⟨rfl, by decide, by decide⟩, by decide +kernel⟩ (by decide) (Or.inl kn_131) (Or.inr ⟨rfl, hnm, rfl, kn_131⟩) e0 rfl rfl (Or.inl ⟨(by decide +kernel), rfl, (fvR rfl rfl e45)⟩) d_Mo_init_70 ?_
  refine nn_aload_n (pc := 73) g.1 d_Mo_init_73 rfl (lv_at hl 0 rfl) ?_
  refine nn_sipush (pc := 74) g.1 (v := 251) d_Mo_init_74 (by decide) ?_
  refine nn_arr (pc := 77) (r := 46) (i := 0) (N := 251) (at0 := .int) (m := (m.1 + 781, m.2 + 1399242)) g.gn rfl (by decide) ⟨rfl, by decide, by decide⟩ (by decide +kernel) (by decide) rfl (by decide) (by decide) (hm.le (by dsimp only; omega) (by dsimp only; omega)) kn_9 d_Mo_init_77 fun q77 a46 hk e46 hm => ?_
  have e0 : q77.1 0 0 = a0 := (hk 0 0 ⟨⟨rfl, by decide, by decide⟩, by decide +kernel⟩).trans e0
  have e41 : q77.1 41 0 = a41 := (hk 41 0 ⟨⟨rfl, by decide, by decide⟩, by decide +kernel⟩).trans e41
  have e42 : q77.1 42 0 = a42 := (hk 42 0 ⟨⟨rfl, by decide, by decide⟩, by decide +kernel⟩).trans e42
  have e43 : q77.1 43 0 = a43 := (hk 43 0 ⟨⟨rfl, by decide, by decide⟩, by decide +kernel⟩).trans e43
  have e44 : q77.1 44 0 = a44 := (hk 44 0 ⟨⟨rfl, by decide, by decide⟩, by decide +kernel⟩).trans e44
  have e45 : q77.1 45 0 = a45 := (hk 45 0 ⟨⟨rfl, by decide, by decide⟩, by decide +kernel⟩).trans e45
  have hkp := hkp.tr hk (by decide)
  refine nn_put (pc := 79) (r := 0) (k := 10) (n' := 118) g cl_Mo ⟨⟨rfl, by decide, by decide⟩, by decide +kernel⟩ (by decide) (Or.inl kn_132) (Or.inr ⟨rfl, hnm, rfl, kn_132⟩) e0 rfl rfl (Or.inl ⟨(by decide +kernel), rfl, (fvR rfl rfl e46)⟩) d_Mo_init_79 ?_
  refine nn_aload_n (pc := 82) g.1 d_Mo_init_82 rfl (lv_at hl 0 rfl) ?_
  refine nn_sipush (pc := 83) g.1 (v := 251) d_Mo_init_83 (by decide) ?_
  refine nn_arr (pc := 86) (r := 47) (i := 0) (N := 251) (at0 := .int) (m := (m.1 + 780, m.2 + 1398991)) g.gn rfl (by decide) ⟨rfl, by decide, by decide⟩ (by decide +kernel) (by decide) rfl (by decide) (by decide) (hm.le (by dsimp only; omega) (by dsimp only; omega)) kn_9 d_Mo_init_86 fun q86 a47 hk e47 hm => ?_
  have e0 : q86.1 0 0 = a0 := (hk 0 0 ⟨⟨rfl, by decide, by decide⟩, by decide +kernel⟩).trans e0
  have e41 : q86.1 41 0 = a41 := (hk 41 0 ⟨⟨rfl, by decide, by decide⟩, by decide +kernel⟩).trans e41
  have e42 : q86.1 42 0 = a42 := (hk 42 0 ⟨⟨rfl, by decide, by decide⟩, by decide +kernel⟩).trans e42
  have e43 : q86.1 43 0 = a43 := (hk 43 0 ⟨⟨rfl, by decide, by decide⟩, by decide +kernel⟩).trans e43
  have e44 : q86.1 44 0 = a44 := (hk 44 0 ⟨⟨rfl, by decide, by decide⟩, by decide +kernel⟩).trans e44
  have e45 : q86.1 45 0 = a45 := (hk 45 0 ⟨⟨rfl, by decide, by decide⟩, by decide +kernel⟩).trans e45
  have e46 : q86.1 46 0 = a46 := (hk 46 0 ⟨⟨rfl, by decide, by decide⟩, by decide +kernel⟩).trans e46
  have hkp := hkp.tr hk (by decide)
  refine nn_put (pc := 88) (r := 0) (k := 11) (n' := 120) g cl_Mo ⟨⟨rfl, by decide, by decide⟩, by decide +kernel⟩ (by decide) (Or.inl kn_133) (Or.inr ⟨rfl, hnm, rfl, kn_133⟩) e0 rfl rfl (Or.inl ⟨(by decide +kernel), rfl, (fvR rfl rfl e47)⟩) d_Mo_init_88 ?_
  refine nn_aload_n (pc := 91) g.1 d_Mo_init_91 rfl (lv_at hl 0 rfl) ?_
  refine nn_sipush (pc := 92) g.1 (v := 251) d_Mo_init_92 (by decide) ?_
  refine nn_arr (pc := 95) (r := 48) (i := 0) (N := 251) (at0 := .int) (m := (m.1 + 779, m.2 + 1398740)) g.gn rfl (by decide) ⟨rfl, by decide, by decide⟩ (by decide +kernel) (by decide) rfl (by decide) (by decide) (hm.le (by dsimp only; omega) (by dsimp only; omega)) kn_9 d_Mo_init_95 fun q95 a48 hk e48 hm => ?_
  have e0 : q95.1 0 0 = a0 := (hk 0 0 ⟨⟨rfl, by decide, by decide⟩, by decide +kernel⟩).trans e0
  have e41 : q95.1 41 0 = a41 := (hk 41 0 ⟨⟨rfl, by decide, by decide⟩, by decide +kernel⟩).trans e41
  have e42 : q95.1 42 0 = a42 := (hk 42 0 ⟨⟨rfl, by decide, by decide⟩, by decide +kernel⟩).trans e42
  have e43 : q95.1 43 0 = a43 := (hk 43 0 ⟨⟨rfl, by decide, by decide⟩, by decide +kernel⟩).trans e43
  have e44 : q95.1 44 0 = a44 := (hk 44 0 ⟨⟨rfl, by decide, by decide⟩, by decide +kernel⟩).trans e44
  have e45 : q95.1 45 0 = a45 := (hk 45 0 ⟨⟨rfl, by decide, by decide⟩, by decide +kernel⟩).trans e45
  have e46 : q95.1 46 0 = a46 := (hk 46 0 ⟨⟨rfl, by decide, by decide⟩, by decide +kernel⟩).trans e46
  have e47 : q95.1 47 0 = a47 := (hk 47 0 ⟨⟨rfl, by decide, by decide⟩, by decide +kernel⟩).trans e47
  have hkp := hkp.tr hk (by decide)
  refine nn_put (pc := 97) (r := 0) (k := 12) (n' := 122) g cl_Mo ⟨⟨rfl, by decide, by decide⟩, by decide +kernel⟩ (by decide) (Or.inl kn_134) (Or.inr ⟨rfl, hnm, rfl, kn_134⟩) e0 rfl rfl (Or.inl ⟨(by decide +kernel), rfl, (fvR rfl rfl e48)⟩) d_Mo_init_97 ?_
  refine nn_aload_n (pc := 100) g.1 d_Mo_init_100 rfl (lv_at hl 0 rfl) ?_
  refine nn_sipush (pc := 101) g.1 (v := 251) d_Mo_init_101 (by decide) ?_
  refine nn_arr (pc := 104) (r := 49) (i := 0) (N := 251) (at0 := .int) (m := (m.1 + 778, m.2 + 1398489)) g.gn rfl (by decide) ⟨rfl, by decide, by decide⟩ (by decide +kernel) (by decide) rfl (by decide) (by decide) (hm.le (by dsimp only; omega) (by dsimp only; omega)) kn_9 d_Mo_init_104 fun q104 a49 hk e49 hm => ?_
  have e0 : q104.1 0 0 = a0 := (hk 0 0 ⟨⟨rfl, by decide, by decide⟩, by decide +kernel⟩).trans e0
  have e41 : q104.1 41 0 = a41 := (hk 41 0 ⟨⟨rfl, by decide, by decide⟩, by decide +kernel⟩).trans e41
  have e42 : q104.1 42 0 = a42 := (hk 42 0 ⟨⟨rfl, by decide, by decide⟩, by decide +kernel⟩).trans e42
  have e43 : q104.1 43 0 = a43 := (hk 43 0 ⟨⟨rfl, by decide, by decide⟩, by decide +kernel⟩).trans e43
  have e44 : q104.1 44 0 = a44 := (hk 44 0 ⟨⟨rfl, by decide, by decide⟩, by decide +kernel⟩).trans e44
  have e45 : q104.1 45 0 = a45 := (hk 45 0 ⟨⟨rfl, by decide, by decide⟩, by decide +kernel⟩).trans e45
  have e46 : q104.1 46 0 = a46 := (hk 46 0 ⟨⟨rfl, by decide, by decide⟩, by decide +kernel⟩).trans e46
  have e47 : q104.1 47 0 = a47 := (hk 47 0 ⟨⟨rfl, by decide, by decide⟩, by decide +kernel⟩).trans e47
  have e48 : q104.1 48 0 = a48 := (hk 48 0 ⟨⟨rfl, by decide, by decide⟩, by decide +kernel⟩).trans e48
  have hkp := hkp.tr hk (by decide)
  refine nn_put (pc := 106) (r := 0) (k := 13) (n' := 124) g cl_Mo ⟨⟨rfl, by decide, by decide⟩, by decide +kernel⟩ (by decide) (Or.inl kn_135) (Or.inr ⟨rfl, hnm, rfl, kn_135⟩) e0 rfl rfl (Or.inl ⟨(by decide +kernel), rfl, (fvR rfl rfl e49)⟩) d_Mo_init_106 ?_
  refine nn_aload_n (pc := 109) g.1 d_Mo_init_109 rfl (lv_at hl 0 rfl) ?_
  refine nn_sipush (pc := 110) g.1 (v := 251) d_Mo_init_110 (by decide) ?_
  refine nn_arr (pc := 113) (r := 50) (i := 0) (N := 251) (at0 := .int) (m := (m.1 + 777, m.2 + 1398238)) g.gn rfl (by decide) ⟨rfl, by decide, by decide⟩ (by decide +kernel) (by decide) rfl (by decide) (by decide) (hm.le (by dsimp only; omega) (by dsimp only; omega)) kn_9 d_Mo_init_113 fun q113 a50 hk e50 hm => ?_
  have e0 : q113.1 0 0 = a0 := (hk 0 0 ⟨⟨rfl, by decide, by decide⟩, by decide +kernel⟩).trans e0
  have e41 : q113.1 41 0 = a41 := (hk 41 0 ⟨⟨rfl, by decide, by decide⟩, by decide +kernel⟩).trans e41
  have e42 : q113.1 42 0 = a42 := (hk 42 0 ⟨⟨rfl, by decide, by decide⟩, by decide +kernel⟩).trans e42
  have e43 : q113.1 43 0 = a43 := (hk 43 0 ⟨⟨rfl, by decide, by decide⟩, by decide +kernel⟩).trans e43
  have e44 : q113.1 44 0 = a44 := (hk 44 0 ⟨⟨rfl, by decide, by decide⟩, by decide +kernel⟩).trans e44
  have e45 : q113.1 45 0 = a45 := (hk 45 0 ⟨⟨rfl, by decide, by decide⟩, by decide +kernel⟩).trans e45
  have e46 : q113.1 46 0 = a46 := (hk 46 0 ⟨⟨rfl, by decide, by decide⟩, by decide +kernel⟩).trans e46
  have e47 : q113.1 47 0 = a47 := (hk 47 0 ⟨⟨rfl, by decide, by decide⟩, by decide +kernel⟩).trans e47
  have e48 : q113.1 48 0 = a48 := (hk 48 0 ⟨⟨rfl, by decide, by decide⟩, by decide +kernel⟩).trans e48
  have e49 : q113.1 49 0 = a49 := (hk 49 0 ⟨⟨rfl, by decide, by decide⟩, by decide +kernel⟩).trans e49
  have hkp := hkp.tr hk (by decide)
  refine nn_put (pc := 115) (r := 0) (k := 14) (n' := 126) g cl_Mo ⟨⟨rfl, by decide, by decide⟩, by decide +kernel⟩ (by decide) (Or.inl kn_136) (Or.inr ⟨rfl, hnm, rfl, kn_136⟩) e0 rfl rfl (Or.inl ⟨(by decide +kernel), rfl, (fvR rfl rfl e50)⟩) d_Mo_init_115 ?_
  refine nn_aload_n (pc := 118) g.1 d_Mo_init_118 rfl (lv_at hl 0 rfl) ?_
  refine nn_sipush (pc := 119) g.1 (v := 251) d_Mo_init_119 (by decide) ?_
  refine nn_arr (pc := 122) (r := 51) (i := 0) (N := 251) (at0 := .int) (m := (m.1 + 776, m.2 + 1397987)) g.gn rfl (by decide) ⟨rfl, by decide, by decide⟩ (by decide +kernel) (by decide) rfl (by decide) (by decide) (hm.le (by dsimp only; omega) (by dsimp only; omega)) kn_9 d_Mo_init_122 fun q122 a51 hk e51 hm => ?_
  have e0 : q122.1 0 0 = a0 := (hk 0 0 ⟨⟨rfl, by decide, by decide⟩, by decide +kernel⟩).trans e0
  have e41 : q122.1 41 0 = a41 := (hk 41 0 ⟨⟨rfl, by decide, by decide⟩, by decide +kernel⟩).trans e41
  have e42 : q122.1 42 0 = a42 := (hk 42 0 ⟨⟨rfl, by decide, by decide⟩, by decide +kernel⟩).trans e42
  have e43 : q122.1 43 0 = a43 := (hk 43 0 ⟨⟨rfl, by decide, by decide⟩, by decide +kernel⟩).trans e43
  have e44 : q122.1 44 0 = a44 := (hk 44 0 ⟨⟨rfl, by decide, by decide⟩, by decide +kernel⟩).trans e44
  have e45 : q122.1 45 0 = a45 := (hk 45 0 ⟨⟨rfl, by decide, by decide⟩, by decide +kernel⟩).trans e45
  have e46 : q122.1 46 0 = a46 := (hk 46 0 ⟨⟨rfl, by decide, by decide⟩, by decide +kernel⟩).trans e46
  have e47 : q122.1 47 0 = a47 := (hk 47 0 ⟨⟨rfl, by decide, by decide⟩, by decide +kernel⟩).trans e47
  have e48 : q122.1 48 0 = a48 := (hk 48 0 ⟨⟨rfl, by decide, by decide⟩, by decide +kernel⟩).trans e48
  have e49 : q122.1 49 0 = a49 := (hk 49 0 ⟨⟨rfl, by decide, by decide⟩, by decide +kernel⟩).trans e49
  have e50 : q122.1 50 0 = a50 := (hk 50 0 ⟨⟨rfl, by decide, by decide⟩, by decide +kernel⟩).trans e50
  have hkp := hkp.tr hk (by decide)
  refine nn_put (pc := 124) (r := 0) (k := 15) (n' := 128) g cl_Mo ⟨⟨rfl, by decide, by decide⟩, by decide +kernel⟩ (by decide) (Or.inl kn_137) (Or.inr ⟨rfl, hnm, rfl, kn_137⟩) e0 rfl rfl (Or.inl ⟨(by decide +kernel), rfl, (fvR rfl rfl e51)⟩) d_Mo_init_124 ?_
  refine nn_aload_n (pc := 127) g.1 d_Mo_init_127 rfl (lv_at hl 0 rfl) ?_
  refine nn_sipush (pc := 128) g.1 (v := 251) d_Mo_init_128 (by decide) ?_
  refine nn_arr (pc := 131) (r := 52) (i := 0) (N := 251) (at0 := .int) (m := (m.1 + 775, m.2 + 1397736)) g.gn rfl (by decide) ⟨rfl, by decide, by decide⟩ (by decide +kernel) (by decide) rfl (by decide) (by decide) (hm.le (by dsimp only; omega) (by dsimp only; omega)) kn_9 d_Mo_init_131 fun q131 a52 hk e52 hm => ?_
  have e0 : q131.1 0 0 = a0 := (hk 0 0 ⟨⟨rfl, by decide, by decide⟩, by decide +kernel⟩).trans e0
  have e41 : q131.1 41 0 = a41 := (hk 41 0 ⟨⟨rfl, by decide, by decide⟩, by decide +kernel⟩).trans e41
  have e42 : q131.1 42 0 = a42 := (hk 42 0 ⟨⟨rfl, by decide, by decide⟩, by decide +kernel⟩).trans e42
  have e43 : q131.1 43 0 = a43 := (hk 43 0 ⟨⟨rfl, by decide, by decide⟩, by decide +kernel⟩).trans e43
  have e44 : q131.1 44 0 = a44 := (hk 44 0 ⟨⟨rfl, by decide, by decide⟩, by decide +kernel⟩).trans e44
  have e45 : q131.1 45 0 = a45 := (hk 45 0 ⟨⟨rfl, by decide, by decide⟩, by decide +kernel⟩).trans e45
  have e46 : q131.1 46 0 = a46 := (hk 46 0 ⟨⟨rfl, by decide, by decide⟩, by decide +kernel⟩).trans e46
  have e47 : q131.1 47 0 = a47 := (hk 47 0 ⟨⟨rfl, by decide, by decide⟩, by decide +kernel⟩).trans e47
  have e48 : q131.1 48 0 = a48 := (hk 48 0 ⟨⟨rfl, by decide, by decide⟩, by decide +kernel⟩).trans e48
  have e49 : q131.1 49 0 = a49 := (hk 49 0 ⟨⟨rfl, by decide, by decide⟩, by decide +kernel⟩).trans e49
  have e50 : q131.1 50 0 = a50 := (hk 50 0 ⟨⟨rfl, by decide, by decide⟩, by decide +kernel⟩).trans e50
  have e51 : q131.1 51 0 = a51 := (hk 51 0 ⟨⟨rfl, by decide, by decide⟩, by decide +kernel⟩).trans e51
  have hkp := hkp.tr hk (by decide)
  refine nn_put (pc := 133) (r := 0) (k := 16) (n' := 130) g cl_Mo ⟨⟨rfl, by decide, by decide⟩, by decide +kernel⟩ (by decide) (Or.inl kn_138) (Or.inr ⟨rfl, hnm, rfl, kn_138⟩) e0 rfl rfl (Or.inl ⟨(by decide +kernel), rfl, (fvR rfl rfl e52)⟩) d_Mo_init_133 ?_
  refine nn_aload_n (pc := 136) g.1 d_Mo_init_136 rfl (lv_at hl 0 rfl) ?_
  refine nn_sipush (pc := 137) g.1 (v := 30200) d_Mo_init_137 (by decide) ?_
  refine nn_arr (pc := 140) (r := 53) (i := 0) (N := 30200) (at0 := .int) (m := (m.1 + 774, m.2 + 1367536)) g.gn rfl (by decide) ⟨rfl, by decide, by decide⟩ (by decide +kernel) (by decide) rfl (by decide) (by decide) (hm.le (by dsimp only; omega) (by dsimp only; omega)) kn_9 d_Mo_init_140 fun q140 a53 hk e53 hm => ?_
  have e0 : q140.1 0 0 = a0 := (hk 0 0 ⟨⟨rfl, by decide, by decide⟩, by decide +kernel⟩).trans e0
  have e41 : q140.1 41 0 = a41 := (hk 41 0 ⟨⟨rfl, by decide, by decide⟩, by decide +kernel⟩).trans e41
  have e42 : q140.1 42 0 = a42 := (hk 42 0 ⟨⟨rfl, by decide, by decide⟩, by decide +kernel⟩).trans e42
  have e43 : q140.1 43 0 = a43 := (hk 43 0 ⟨⟨rfl, by decide, by decide⟩, by decide +kernel⟩).trans e43
  have e44 : q140.1 44 0 = a44 := (hk 44 0 ⟨⟨rfl, by decide, by decide⟩, by decide +kernel⟩).trans e44
  have e45 : q140.1 45 0 = a45 := (hk 45 0 ⟨⟨rfl, by decide, by decide⟩, by decide +kernel⟩).trans e45
  have e46 : q140.1 46 0 = a46 := (hk 46 0 ⟨⟨rfl, by decide, by decide⟩, by decide +kernel⟩).trans e46
  have e47 : q140.1 47 0 = a47 := (hk 47 0 ⟨⟨rfl, by decide, by decide⟩, by decide +kernel⟩).trans e47
  have e48 : q140.1 48 0 = a48 := (hk 48 0 ⟨⟨rfl, by decide, by decide⟩, by decide +kernel⟩).trans e48
  have e49 : q140.1 49 0 = a49 := (hk 49 0 ⟨⟨rfl, by decide, by decide⟩, by decide +kernel⟩).trans e49
  have e50 : q140.1 50 0 = a50 := (hk 50 0 ⟨⟨rfl, by decide, by decide⟩, by decide +kernel⟩).trans e50
  have e51 : q140.1 51 0 = a51 := (hk 51 0 ⟨⟨rfl, by decide, by decide⟩, by decide +kernel⟩).trans e51
  have e52 : q140.1 52 0 = a52 := (hk 52 0 ⟨⟨rfl, by decide, by decide⟩, by decide +kernel⟩).trans e52
  have hkp := hkp.tr hk (by decide)
  refine nn_put (pc := 142) (r := 0) (k := 17) (n' := 132) g cl_Mo ⟨⟨rfl, by decide, by decide⟩, by decide +kernel⟩ (by decide) (Or.inl kn_139) (Or.inr ⟨rfl, hnm, rfl, kn_139⟩) e0 rfl rfl (Or.inl ⟨(by decide +kernel), rfl, (fvR rfl rfl e53)⟩) d_Mo_init_142 ?_
  refine nn_aload_n (pc := 145) g.1 d_Mo_init_145 rfl (lv_at hl 0 rfl) ?_
  refine nn_sipush (pc := 146) g.1 (v := 256) d_Mo_init_146 (by decide) ?_
  refine nn_arr (pc := 149) (r := 54) (i := 0) (N := 256) (at0 := .int) (m := (m.1 + 773, m.2 + 1367280)) g.gn rfl (by decide) ⟨rfl, by decide, by decide⟩ (by decide +kernel) (by decide) rfl (by decide) (by decide) (hm.le (by dsimp only; omega) (by dsimp only; omega)) kn_9 d_Mo_init_149 fun q149 a54 hk e54 hm => ?_
  have e0 : q149.1 0 0 = a0 := (hk 0 0 ⟨⟨rfl, by decide, by decide⟩, by decide +kernel⟩).trans e0
  have e41 : q149.1 41 0 = a41 := (hk 41 0 ⟨⟨rfl, by decide, by decide⟩, by decide +kernel⟩).trans e41
  have e42 : q149.1 42 0 = a42 := (hk 42 0 ⟨⟨rfl, by decide, by decide⟩, by decide +kernel⟩).trans e42
  have e43 : q149.1 43 0 = a43 := (hk 43 0 ⟨⟨rfl, by decide, by decide⟩, by decide +kernel⟩).trans e43
  have e44 : q149.1 44 0 = a44 := (hk 44 0 ⟨⟨rfl, by decide, by decide⟩, by decide +kernel⟩).trans e44
  have e45 : q149.1 45 0 = a45 := (hk 45 0 ⟨⟨rfl, by decide, by decide⟩, by decide +kernel⟩).trans e45
  have e46 : q149.1 46 0 = a46 := (hk 46 0 ⟨⟨rfl, by decide, by decide⟩, by decide +kernel⟩).trans e46
  have e47 : q149.1 47 0 = a47 := (hk 47 0 ⟨⟨rfl, by decide, by decide⟩, by decide +kernel⟩).trans e47
  have e48 : q149.1 48 0 = a48 := (hk 48 0 ⟨⟨rfl, by decide, by decide⟩, by decide +kernel⟩).trans e48
  have e49 : q149.1 49 0 = a49 := (hk 49 0 ⟨⟨rfl, by decide, by decide⟩, by decide +kernel⟩).trans e49
  have e50 : q149.1 50 0 = a50 := (hk 50 0 ⟨⟨rfl, by decide, by decide⟩, by decide +kernel⟩).trans e50
  have e51 : q149.1 51 0 = a51 := (hk 51 0 ⟨⟨rfl, by decide, by decide⟩, by decide +kernel⟩).trans e51
  have e52 : q149.1 52 0 = a52 := (hk 52 0 ⟨⟨rfl, by decide, by decide⟩, by decide +kernel⟩).trans e52
  have e53 : q149.1 53 0 = a53 := (hk 53 0 ⟨⟨rfl, by decide, by decide⟩, by decide +kernel⟩).trans e53
  have hkp := hkp.tr hk (by decide)
  refine nn_put (pc := 151) (r := 0) (k := 18) (n' := 134) g cl_Mo ⟨⟨rfl, by decide, by decide⟩, by decide +kernel⟩ (by decide) (Or.inl kn_140) (Or.inr ⟨rfl, hnm, rfl, kn_140⟩) e0 rfl rfl (Or.inl ⟨(by decide +kernel), rfl, (fvR rfl rfl e54)⟩) d_Mo_init_151 ?_
  refine nn_aload_n (pc := 154) g.1 d_Mo_init_154 rfl (lv_at hl 0 rfl) ?_
  refine nn_sipush (pc := 155) g.1 (v := 20001) d_Mo_init_155 (by decide) ?_
  refine nn_arr (pc := 158) (r := 55) (i := 0) (N := 20001) (at0 := .int) (m := (m.1 + 772, m.2 + 1347279)) g.gn rfl (by decide) ⟨rfl, by decide, by decide⟩ (by decide +kernel) (by decide) rfl (by decide) (by decide) (hm.le (by dsimp only; omega) (by dsimp only; omega)) kn_9 d_Mo_init_158 fun q158 a55 hk e55 hm => ?_
  have e0 : q158.1 0 0 = a0 := (hk 0 0 ⟨⟨rfl, by decide, by decide⟩, by decide +kernel⟩).trans e0
  have e41 : q158.1 41 0 = a41 := (hk 41 0 ⟨⟨rfl, by decide, by decide⟩, by decide +kernel⟩).trans e41
  have e42 : q158.1 42 0 = a42 := (hk 42 0 ⟨⟨rfl, by decide, by decide⟩, by decide +kernel⟩).trans e42
  have e43 : q158.1 43 0 = a43 := (hk 43 0 ⟨⟨rfl, by decide, by decide⟩, by decide +kernel⟩).trans e43
  have e44 : q158.1 44 0 = a44 := (hk 44 0 ⟨⟨rfl, by decide, by decide⟩, by decide +kernel⟩).trans e44
  have e45 : q158.1 45 0 = a45 := (hk 45 0 ⟨⟨rfl, by decide, by decide⟩, by decide +kernel⟩).trans e45
  have e46 : q158.1 46 0 = a46 := (hk 46 0 ⟨⟨rfl, by decide, by decide⟩, by decide +kernel⟩).trans e46
  have e47 : q158.1 47 0 = a47 := (hk 47 0 ⟨⟨rfl, by decide, by decide⟩, by decide +kernel⟩).trans e47
  have e48 : q158.1 48 0 = a48 := (hk 48 0 ⟨⟨rfl, by decide, by decide⟩, by decide +kernel⟩).trans e48
  have e49 : q158.1 49 0 = a49 := (hk 49 0 ⟨⟨rfl, by decide, by decide⟩, by decide +kernel⟩).trans e49
  have e50 : q158.1 50 0 = a50 := (hk 50 0 ⟨⟨rfl, by decide, by decide⟩, by decide +kernel⟩).trans e50
  have e51 : q158.1 51 0 = a51 := (hk 51 0 ⟨⟨rfl, by decide, by decide⟩, by decide +kernel⟩).trans e51
  have e52 : q158.1 52 0 = a52 := (hk 52 0 ⟨⟨rfl, by decide, by decide⟩, by decide +kernel⟩).trans e52
  have e53 : q158.1 53 0 = a53 := (hk 53 0 ⟨⟨rfl, by decide, by decide⟩, by decide +kernel⟩).trans e53
  have e54 : q158.1 54 0 = a54 := (hk 54 0 ⟨⟨rfl, by decide, by decide⟩, by decide +kernel⟩).trans e54
  have hkp := hkp.tr hk (by decide)
  refine nn_put (pc := 160) (r := 0) (k := 19) (n' := 136) g cl_Mo ⟨⟨rfl, by decide, by decide⟩, by decide +kernel⟩ (by decide) (Or.inl kn_141) (Or.inr ⟨rfl, hnm, rfl, kn_141⟩) e0 rfl rfl (Or.inl ⟨(by decide +kernel), rfl, (fvR rfl rfl e55)⟩) d_Mo_init_160 ?_
  refine nn_aload_n (pc := 163) g.1 d_Mo_init_163 rfl (lv_at hl 0 rfl) ?_
  refine nn_sipush (pc := 164) g.1 (v := 20001) d_Mo_init_164 (by decide) ?_
  refine nn_arr (pc := 167) (r := 56) (i := 0) (N := 20001) (at0 := .int) (m := (m.1 + 771, m.2 + 1327278)) g.gn rfl (by decide) ⟨rfl, by decide, by decide⟩ (by decide +kernel) (by decide) rfl (by decide) (by decide) (hm.le (by dsimp only; omega) (by dsimp only; omega)) kn_9 d_Mo_init_167 fun q167 a56 hk e56 hm => ?_
  have e0 : q167.1 0 0 = a0 := (hk 0 0 ⟨⟨rfl, by decide, by decide⟩, by decide +kernel⟩).trans e0
  have e41 : q167.1 41 0 = a41 := (hk 41 0 ⟨⟨rfl, by decide, by decide⟩, by decide +kernel⟩).trans e41
  have e42 : q167.1 42 0 = a42 := (hk 42 0 ⟨⟨rfl, by decide, by decide⟩, by decide +kernel⟩).trans e42
  have e43 : q167.1 43 0 = a43 := (hk 43 0 ⟨⟨rfl, by decide, by decide⟩, by decide +kernel⟩).trans e43
  have e44 : q167.1 44 0 = a44 := (hk 44 0 ⟨⟨rfl, by decide, by decide⟩, by decide +kernel⟩).trans e44
  have e45 : q167.1 45 0 = a45 := (hk 45 0 ⟨⟨rfl, by decide, by decide⟩, by decide +kernel⟩).trans e45
  have e46 : q167.1 46 0 = a46 := (hk 46 0 ⟨⟨rfl, by decide, by decide⟩, by decide +kernel⟩).trans e46
  have e47 : q167.1 47 0 = a47 := (hk 47 0 ⟨⟨rfl, by decide, by decide⟩, by decide +kernel⟩).trans e47
  have e48 : q167.1 48 0 = a48 := (hk 48 0 ⟨⟨rfl, by decide, by decide⟩, by decide +kernel⟩).trans e48
  have e49 : q167.1 49 0 = a49 := (hk 49 0 ⟨⟨rfl, by decide, by decide⟩, by decide +kernel⟩).trans e49
  have e50 : q167.1 50 0 = a50 := (hk 50 0 ⟨⟨rfl, by decide, by decide⟩, by decide +kernel⟩).trans e50
  have e51 : q167.1 51 0 = a51 := (hk 51 0 ⟨⟨rfl, by decide, by decide⟩, by decide +kernel⟩).trans e51
  have e52 : q167.1 52 0 = a52 := (hk 52 0 ⟨⟨rfl, by decide, by decide⟩, by decide +kernel⟩).trans e52
  have e53 : q167.1 53 0 = a53 := (hk 53 0 ⟨⟨rfl, by decide, by decide⟩, by decide +kernel⟩).trans e53
  have e54 : q167.1 54 0 = a54 := (hk 54 0 ⟨⟨rfl, by decide, by decide⟩, by decide +kernel⟩).trans e54
  have e55 : q167.1 55 0 = a55 := (hk 55 0 ⟨⟨rfl, by decide, by decide⟩, by decide +kernel⟩).trans e55
  have hkp := hkp.tr hk (by decide)
  refine nn_put (pc := 169) (r := 0) (k := 20) (n' := 138) g cl_Mo ⟨⟨rfl, by decide, by decide⟩, by decide +kernel⟩ (by decide) (Or.inl kn_142) (Or.inr ⟨rfl, hnm, rfl, kn_142⟩) e0 rfl rfl (Or.inl ⟨(by decide +kernel), rfl, (fvR rfl rfl e56)⟩) d_Mo_init_169 ?_
  refine nn_aload_n (pc := 172) g.1 d_Mo_init_172 rfl (lv_at hl 0 rfl) ?_
  refine nn_new (pc := 173) (r := 1) (i := 0) (m := (m.1 + 770, m.2 + 1327275)) g.gn (cl_Va (i := 0) (Or.inl ⟨by decide, rfl⟩)) (by unfold dvC; decide +kernel) ⟨rfl, by decide, by decide⟩ (by decide +kernel) (hm.le (by dsimp only; omega) (by have z : nfF 1 = 3 := rfl; dsimp only; omega)) kn_143 kn_144 kn_145 d_Mo_init_173 fun q173 a1 hk e1 hm => ?_
  have e0 : q173.1 0 0 = a0 := (hk 0 0 ⟨⟨rfl, by decide, by decide⟩, by decide +kernel⟩).trans e0
  have e41 : q173.1 41 0 = a41 := (hk 41 0 ⟨⟨rfl, by decide, by decide⟩, by decide +kernel⟩).trans e41
  have e42 : q173.1 42 0 = a42 := (hk 42 0 ⟨⟨rfl, by decide, by decide⟩, by decide +kernel⟩).trans e42
  have e43 : q173.1 43 0 = a43 := (hk 43 0 ⟨⟨rfl, by decide, by decide⟩, by decide +kernel⟩).trans e43
  have e44 : q173.1 44 0 = a44 := (hk 44 0 ⟨⟨rfl, by decide, by decide⟩, by decide +kernel⟩).trans e44
  have e45 : q173.1 45 0 = a45 := (hk 45 0 ⟨⟨rfl, by decide, by decide⟩, by decide +kernel⟩).trans e45
  have e46 : q173.1 46 0 = a46 := (hk 46 0 ⟨⟨rfl, by decide, by decide⟩, by decide +kernel⟩).trans e46
  have e47 : q173.1 47 0 = a47 := (hk 47 0 ⟨⟨rfl, by decide, by decide⟩, by decide +kernel⟩).trans e47
  have e48 : q173.1 48 0 = a48 := (hk 48 0 ⟨⟨rfl, by decide, by decide⟩, by decide +kernel⟩).trans e48
  have e49 : q173.1 49 0 = a49 := (hk 49 0 ⟨⟨rfl, by decide, by decide⟩, by decide +kernel⟩).trans e49
  have e50 : q173.1 50 0 = a50 := (hk 50 0 ⟨⟨rfl, by decide, by decide⟩, by decide +kernel⟩).trans e50
  have e51 : q173.1 51 0 = a51 := (hk 51 0 ⟨⟨rfl, by decide, by decide⟩, by decide +kernel⟩).trans e51
  have e52 : q173.1 52 0 = a52 := (hk 52 0 ⟨⟨rfl, by decide, by decide⟩, by decide +kernel⟩).trans e52
  have e53 : q173.1 53 0 = a53 := (hk 53 0 ⟨⟨rfl, by decide, by decide⟩, by decide +kernel⟩).trans e53
  have e54 : q173.1 54 0 = a54 := (hk 54 0 ⟨⟨rfl, by decide, by decide⟩, by decide +kernel⟩).trans e54
  have e55 : q173.1 55 0 = a55 := (hk 55 0 ⟨⟨rfl, by decide, by decide⟩, by decide +kernel⟩).trans e55
  have e56 : q173.1 56 0 = a56 := (hk 56 0 ⟨⟨rfl, by decide, by decide⟩, by decide +kernel⟩).trans e56
  have hkp := hkp.tr hk (by decide)
  refine nn_dup (pc := 176) g.1 d_Mo_init_176 rfl ?_
  refine nn_sipush (pc := 177) g.1 (v := 20001) d_Mo_init_177 (by decide) ?_
  refine nn_call (pc := 180) (rest := [.ref a1, .ref a0]) (m := (m.1 + 768, m.2 + 1287273)) (As := [.int 20001]) g.gn ci_Va_init (Or.inl kn_152) (cn_Va_1 (hm.le (by dsimp only; omega) (by dsimp only; omega)) e1) (hm.le (by dsimp only; omega) (by dsimp only; omega)) ⟨by decide, by decide⟩ rfl hl.1 (Nat.le_of_ble_eq_true rfl) d_Mo_init_180 rfl fun q180 hk hm => ?_
  have e0 : q180.1 0 0 = a0 := (hk 0 0 ⟨⟨rfl, by decide, by decide⟩, by decide +kernel⟩).trans e0
  have e41 : q180.1 41 0 = a41 := (hk 41 0 ⟨⟨rfl, by decide, by decide⟩, by decide +kernel⟩).trans e41
  have e42 : q180.1 42 0 = a42 := (hk 42 0 ⟨⟨rfl, by decide, by decide⟩, by decide +kernel⟩).trans e42
  have e43 : q180.1 43 0 = a43 := (hk 43 0 ⟨⟨rfl, by decide, by decide⟩, by decide +kernel⟩).trans e43
  have e44 : q180.1 44 0 = a44 := (hk 44 0 ⟨⟨rfl, by decide, by decide⟩, by decide +kernel⟩).trans e44
  have e45 : q180.1 45 0 = a45 := (hk 45 0 ⟨⟨rfl, by decide, by decide⟩, by decide +kernel⟩).trans e45
  have e46 : q180.1 46 0 = a46 := (hk 46 0 ⟨⟨rfl, by decide, by decide⟩, by decide +kernel⟩).trans e46
  have e47 : q180.1 47 0 = a47 := (hk 47 0 ⟨⟨rfl, by decide, by decide⟩, by decide +kernel⟩).trans e47
  have e48 : q180.1 48 0 = a48 := (hk 48 0 ⟨⟨rfl, by decide, by decide⟩, by decide +kernel⟩).trans e48
  have e49 : q180.1 49 0 = a49 := (hk 49 0 ⟨⟨rfl, by decide, by decide⟩, by decide +kernel⟩).trans e49
  have e50 : q180.1 50 0 = a50 := (hk 50 0 ⟨⟨rfl, by decide, by decide⟩, by decide +kernel⟩).trans e50
  have e51 : q180.1 51 0 = a51 := (hk 51 0 ⟨⟨rfl, by decide, by decide⟩, by decide +kernel⟩).trans e51
  have e52 : q180.1 52 0 = a52 := (hk 52 0 ⟨⟨rfl, by decide, by decide⟩, by decide +kernel⟩).trans e52
  have e53 : q180.1 53 0 = a53 := (hk 53 0 ⟨⟨rfl, by decide, by decide⟩, by decide +kernel⟩).trans e53
  have e54 : q180.1 54 0 = a54 := (hk 54 0 ⟨⟨rfl, by decide, by decide⟩, by decide +kernel⟩).trans e54
  have e55 : q180.1 55 0 = a55 := (hk 55 0 ⟨⟨rfl, by decide, by decide⟩, by decide +kernel⟩).trans e55
  have e56 : q180.1 56 0 = a56 := (hk 56 0 ⟨⟨rfl, by decide, by decide⟩, by decide +kernel⟩).trans e56
  have e1 : q180.1 1 0 = a1 := (hk 1 0 ⟨⟨rfl, by decide, by decide⟩, by decide +kernel⟩).trans e1
  have hkp := hkp.tr hk (by decide)
  refine nn_put (pc := 183) (r := 0) (k := 21) (n' := 144) g cl_Mo ⟨⟨rfl, by decide, by decide⟩, by decide +kernel⟩ (by decide) (Or.inl kn_153) (Or.inr ⟨rfl, hnm, rfl, kn_153⟩) e0 rfl rfl (Or.inl ⟨(by decide +kernel), rfl, (fvR rfl rfl e1)⟩) d_Mo_init_183 ?_
  refine nn_aload_n (pc := 186) g.1 d_Mo_init_186 rfl (lv_at hl 0 rfl) ?_
  refine nn_sipush (pc := 187) g.1 (v := 20001) d_Mo_init_187 (by decide) ?_
  refine nn_arr (pc := 190) (r := 57) (i := 0) (N := 20001) (at0 := .int) (m := (m.1 + 767, m.2 + 1267272)) g.gn rfl (by decide) ⟨rfl, by decide, by decide⟩ (by decide +kernel) (by decide) rfl (by decide) (by decide) (hm.le (by dsimp only; omega) (by dsimp only; omega)) kn_9 d_Mo_init_190 fun q190 a57 hk e57 hm => ?_
  have e0 : q190.1 0 0 = a0 := (hk 0 0 ⟨⟨rfl, by decide, by decide⟩, by decide +kernel⟩).trans e0
  have e41 : q190.1 41 0 = a41 := (hk 41 0 ⟨⟨rfl, by decide, by decide⟩, by decide +kernel⟩).trans e41
  have e42 : q190.1 42 0 = a42 := (hk 42 0 ⟨⟨rfl, by decide, by decide⟩, by decide +kernel⟩).trans e42
  have e43 : q190.1 43 0 = a43 := (hk 43 0 ⟨⟨rfl, by decide, by decide⟩, by decide +kernel⟩).trans e43
  have e44 : q190.1 44 0 = a44 := (hk 44 0 ⟨⟨rfl, by decide, by decide⟩, by decide +kernel⟩).trans e44
  have e45 : q190.1 45 0 = a45 := (hk 45 0 ⟨⟨rfl, by decide, by decide⟩, by decide +kernel⟩).trans e45
  have e46 : q190.1 46 0 = a46 := (hk 46 0 ⟨⟨rfl, by decide, by decide⟩, by decide +kernel⟩).trans e46
  have e47 : q190.1 47 0 = a47 := (hk 47 0 ⟨⟨rfl, by decide, by decide⟩, by decide +kernel⟩).trans e47
  have e48 : q190.1 48 0 = a48 := (hk 48 0 ⟨⟨rfl, by decide, by decide⟩, by decide +kernel⟩).trans e48
  have e49 : q190.1 49 0 = a49 := (hk 49 0 ⟨⟨rfl, by decide, by decide⟩, by decide +kernel⟩).trans e49
  have e50 : q190.1 50 0 = a50 := (hk 50 0 ⟨⟨rfl, by decide, by decide⟩, by decide +kernel⟩).trans e50
  have e51 : q190.1 51 0 = a51 := (hk 51 0 ⟨⟨rfl, by decide, by decide⟩, by decide +kernel⟩).trans e51
  have e52 : q190.1 52 0 = a52 := (hk 52 0 ⟨⟨rfl, by decide, by decide⟩, by decide +kernel⟩).trans e52
  have e53 : q190.1 53 0 = a53 := (hk 53 0 ⟨⟨rfl, by decide, by decide⟩, by decide +kernel⟩).trans e53
  have e54 : q190.1 54 0 = a54 := (hk 54 0 ⟨⟨rfl, by decide, by decide⟩, by decide +kernel⟩).trans e54
  have e55 : q190.1 55 0 = a55 := (hk 55 0 ⟨⟨rfl, by decide, by decide⟩, by decide +kernel⟩).trans e55
  have e56 : q190.1 56 0 = a56 := (hk 56 0 ⟨⟨rfl, by decide, by decide⟩, by decide +kernel⟩).trans e56
  have e1 : q190.1 1 0 = a1 := (hk 1 0 ⟨⟨rfl, by decide, by decide⟩, by decide +kernel⟩).trans e1
  have hkp := hkp.tr hk (by decide)
  refine nn_put (pc := 192) (r := 0) (k := 22) (n' := 146) g cl_Mo ⟨⟨rfl, by decide, by decide⟩, by decide +kernel⟩ (by decide) (Or.inl kn_154) (Or.inr ⟨rfl, hnm, rfl, kn_154⟩) e0 rfl rfl (Or.inl ⟨(by decide +kernel), rfl, (fvR rfl rfl e57)⟩) d_Mo_init_192 ?_
  refine nn_aload_n (pc := 195) g.1 d_Mo_init_195 rfl (lv_at hl 0 rfl) ?_
  refine nn_iconst (pc := 196) g.1 (v := 0) d_Mo_init_196 (by decide) ?_
  refine nn_put (pc := 197) (r := 0) (k := 23) (n' := 146) g cl_Mo ⟨⟨rfl, by decide, by decide⟩, by decide +kernel⟩ (by decide) (Or.inl kn_155) (Or.inl rfl) e0 rfl rfl (Or.inr ⟨rfl, fN_dv (Or.inr ⟨by decide +kernel, (by decide), (fvI rfl rfl)⟩)⟩) d_Mo_init_197 ?_
  refine nn_aload_n (pc := 200) g.1 d_Mo_init_200 rfl (lv_at hl 0 rfl) ?_
  refine nn_iconst (pc := 201) g.1 (v := 0) d_Mo_init_201 (by decide) ?_
  refine nn_put (pc := 202) (r := 0) (k := 24) (n' := 146) g cl_Mo ⟨⟨rfl, by decide, by decide⟩, by decide +kernel⟩ (by decide) (Or.inl kn_156) (Or.inl rfl) e0 rfl rfl (Or.inr ⟨rfl, fN_dv (Or.inr ⟨by decide +kernel, (by decide), (fvI rfl rfl)⟩)⟩) d_Mo_init_202 ?_
  refine nn_aload_n (pc := 205) g.1 d_Mo_init_205 rfl (lv_at hl 0 rfl) ?_
  refine nn_iconst (pc := 206) g.1 (v := 0) d_Mo_init_206 (by decide) ?_
  refine nn_put (pc := 207) (r := 0) (k := 25) (n' := 146) g cl_Mo ⟨⟨rfl, by decide, by decide⟩, by decide +kernel⟩ (by decide) (Or.inl kn_157) (Or.inl rfl) e0 rfl rfl (Or.inr ⟨rfl, fN_dv (Or.inr ⟨by decide +kernel, (by decide), (fvI rfl rfl)⟩)⟩) d_Mo_init_207 ?_
  refine nn_aload_n (pc := 210) g.1 d_Mo_init_210 rfl (lv_at hl 0 rfl) ?_
  refine nn_iconst (pc := 211) g.1 (v := 0) d_Mo_init_211 (by decide) ?_
  refine nn_put (pc := 212) (r := 0) (k := 26) (n' := 146) g cl_Mo ⟨⟨rfl, by decide, by decide⟩, by decide +kernel⟩ (by decide) (Or.inl kn_158) (Or.inl rfl) e0 rfl rfl (Or.inr ⟨rfl, fN_dv (Or.inr ⟨by decide +kernel, (by decide), (fvI rfl rfl)⟩)⟩) d_Mo_init_212 ?_
  refine nn_aload_n (pc := 215) g.1 d_Mo_init_215 rfl (lv_at hl 0 rfl) ?_
  refine nn_iconst (pc := 216) g.1 (v := 0) d_Mo_init_216 (by decide) ?_
  refine nn_put (pc := 217) (r := 0) (k := 27) (n' := 146) g cl_Mo ⟨⟨rfl, by decide, by decide⟩, by decide +kernel⟩ (by decide) (Or.inl kn_159) (Or.inl rfl) e0 rfl rfl (Or.inr ⟨rfl, fN_dv (Or.inr ⟨by decide +kernel, (by decide), (fvI rfl rfl)⟩)⟩) d_Mo_init_217 ?_
  refine nn_aload_n (pc := 220) g.1 d_Mo_init_220 rfl (lv_at hl 0 rfl) ?_
  refine nn_iconst (pc := 221) g.1 (v := 0) d_Mo_init_221 (by decide) ?_
  refine nn_put (pc := 222) (r := 0) (k := 28) (n' := 146) g cl_Mo ⟨⟨rfl, by decide, by decide⟩, by decide +kernel⟩ (by decide) (Or.inl kn_160) (Or.inl rfl) e0 rfl rfl (Or.inr ⟨rfl, fN_dv (Or.inr ⟨by decide +kernel, (by decide), (fvI rfl rfl)⟩)⟩) d_Mo_init_222 ?_
  refine nn_aload_n (pc := 225) g.1 d_Mo_init_225 rfl (lv_at hl 0 rfl) ?_
  refine nn_iconst (pc := 226) g.1 (v := 0) d_Mo_init_226 (by decide) ?_
  refine nn_put (pc := 227) (r := 0) (k := 29) (n' := 146) g cl_Mo ⟨⟨rfl, by decide, by decide⟩, by decide +kernel⟩ (by decide) (Or.inl kn_161) (Or.inl rfl) e0 rfl rfl (Or.inr ⟨rfl, fN_dv (Or.inr ⟨by decide +kernel, (by decide), (fvI rfl rfl)⟩)⟩) d_Mo_init_227 ?_
  refine nn_aload_n (pc := 230) g.1 d_Mo_init_230 rfl (lv_at hl 0 rfl) ?_
  refine nn_iconst (pc := 231) g.1 (v := 0) d_Mo_init_231 (by decide) ?_
  refine nn_put (pc := 232) (r := 0) (k := 30) (n' := 146) g cl_Mo ⟨⟨rfl, by decide, by decide⟩, by decide +kernel⟩ (by decide) (Or.inl kn_162) (Or.inl rfl) e0 rfl rfl (Or.inr ⟨rfl, fN_dv (Or.inr ⟨by decide +kernel, (by decide), (fvI rfl rfl)⟩)⟩) d_Mo_init_232 ?_
  refine nn_aload_n (pc := 235) g.1 d_Mo_init_235 rfl (lv_at hl 0 rfl) ?_
  refine nn_iconst (pc := 236) g.1 (v := 0) d_Mo_init_236 (by decide) ?_
  refine nn_put (pc := 237) (r := 0) (k := 31) (n' := 146) g cl_Mo ⟨⟨rfl, by decide, by decide⟩, by decide +kernel⟩ (by decide) (Or.inl kn_163) (Or.inl rfl) e0 rfl rfl (Or.inr ⟨rfl, fN_dv (Or.inr ⟨by decide +kernel, (by decide), (fvI rfl rfl)⟩)⟩) d_Mo_init_237 ?_
  refine nn_aload_n (pc := 240) g.1 d_Mo_init_240 rfl (lv_at hl 0 rfl) ?_
  refine nn_iconst (pc := 241) g.1 (v := 0) d_Mo_init_241 (by decide) ?_
  refine nn_put (pc := 242) (r := 0) (k := 32) (n' := 146) g cl_Mo ⟨⟨rfl, by decide, by decide⟩, by decide +kernel⟩ (by decide) (Or.inl kn_164) (Or.inl rfl) e0 rfl rfl (Or.inr ⟨rfl, fN_dv (Or.inl ⟨by decide +kernel, by decide +kernel, rfl⟩)⟩) d_Mo_init_242 ?_
  refine nn_aload_n (pc := 245) g.1 d_Mo_init_245 rfl (lv_at hl 0 rfl) ?_
  refine nn_iconst (pc := 246) g.1 (v := 0) d_Mo_init_246 (by decide) ?_
  refine nn_put (pc := 247) (r := 0) (k := 33) (n' := 146) g cl_Mo ⟨⟨rfl, by decide, by decide⟩, by decide +kernel⟩ (by decide) (Or.inl kn_165) (Or.inl rfl) e0 rfl rfl (Or.inr ⟨rfl, fN_dv (Or.inr ⟨by decide +kernel, (by decide), (fvI rfl rfl)⟩)⟩) d_Mo_init_247 ?_
  refine nn_aload_n (pc := 250) g.1 d_Mo_init_250 rfl (lv_at hl 0 rfl) ?_
  refine nn_iconst (pc := 251) g.1 (v := 0) d_Mo_init_251 (by decide) ?_
  refine nn_put (pc := 252) (r := 0) (k := 34) (n' := 146) g cl_Mo ⟨⟨rfl, by decide, by decide⟩, by decide +kernel⟩ (by decide) (Or.inl kn_166) (Or.inl rfl) e0 rfl rfl (Or.inr ⟨rfl, fN_dv (Or.inr ⟨by decide +kernel, (by decide), (fvI rfl rfl)⟩)⟩) d_Mo_init_252 ?_
  refine nn_aload_n (pc := 255) g.1 d_Mo_init_255 rfl (lv_at hl 0 rfl) ?_
  refine nn_iconst (pc := 256) g.1 (v := 0) d_Mo_init_256 (by decide) ?_
  refine nn_put (pc := 257) (r := 0) (k := 35) (n' := 146) g cl_Mo ⟨⟨rfl, by decide, by decide⟩, by decide +kernel⟩ (by decide) (Or.inl kn_167) (Or.inl rfl) e0 rfl rfl (Or.inr ⟨rfl, fN_dv (Or.inr ⟨by decide +kernel, (by decide), (fvI rfl rfl)⟩)⟩) d_Mo_init_257 ?_
  refine nn_aload_n (pc := 260) g.1 d_Mo_init_260 rfl (lv_at hl 0 rfl) ?_
  refine nn_iconst (pc := 261) g.1 (v := 0) d_Mo_init_261 (by decide) ?_
  refine nn_put (pc := 262) (r := 0) (k := 36) (n' := 146) g cl_Mo ⟨⟨rfl, by decide, by decide⟩, by decide +kernel⟩ (by decide) (Or.inl kn_168) (Or.inl rfl) e0 rfl rfl (Or.inr ⟨rfl, fN_dv (Or.inr ⟨by decide +kernel, (by decide), (fvI rfl rfl)⟩)⟩) d_Mo_init_262 ?_
  refine nn_aload_n (pc := 265) g.1 d_Mo_init_265 rfl (lv_at hl 0 rfl) ?_
  refine nn_iconst (pc := 266) g.1 (v := 0) d_Mo_init_266 (by decide) ?_
  refine nn_put (pc := 267) (r := 0) (k := 37) (n' := 146) g cl_Mo ⟨⟨rfl, by decide, by decide⟩, by decide +kernel⟩ (by decide) (Or.inl kn_169) (Or.inl rfl) e0 rfl rfl (Or.inr ⟨rfl, fN_dv (Or.inr ⟨by decide +kernel, (by decide), (fvI rfl rfl)⟩)⟩) d_Mo_init_267 ?_
  refine nn_aload_n (pc := 270) g.1 d_Mo_init_270 rfl (lv_at hl 0 rfl) ?_
  refine nn_iconst (pc := 271) g.1 (v := 0) d_Mo_init_271 (by decide) ?_
  refine nn_put (pc := 272) (r := 0) (k := 38) (n' := 146) g cl_Mo ⟨⟨rfl, by decide, by decide⟩, by decide +kernel⟩ (by decide) (Or.inl kn_170) (Or.inl rfl) e0 rfl rfl (Or.inr ⟨rfl, fN_dv (Or.inr ⟨by decide +kernel, (by decide), (fvI rfl rfl)⟩)⟩) d_Mo_init_272 ?_
  refine nn_aload_n (pc := 275) g.1 d_Mo_init_275 rfl (lv_at hl 0 rfl) ?_
  refine nn_iconst (pc := 276) g.1 (v := 0) d_Mo_init_276 (by decide) ?_
  refine nn_put (pc := 277) (r := 0) (k := 39) (n' := 146) g cl_Mo ⟨⟨rfl, by decide, by decide⟩, by decide +kernel⟩ (by decide) (Or.inl kn_171) (Or.inl rfl) e0 rfl rfl (Or.inr ⟨rfl, fN_dv (Or.inr ⟨by decide +kernel, (by decide), (fvI rfl rfl)⟩)⟩) d_Mo_init_277 ?_
  refine nn_aload_n (pc := 280) g.1 d_Mo_init_280 rfl (lv_at hl 0 rfl) ?_
  refine nn_iconst (pc := 281) g.1 (v := 0) d_Mo_init_281 (by decide) ?_
  refine nn_put (pc := 282) (r := 0) (k := 40) (n' := 146) g cl_Mo ⟨⟨rfl, by decide, by decide⟩, by decide +kernel⟩ (by decide) (Or.inl kn_172) (Or.inl rfl) e0 rfl rfl (Or.inr ⟨rfl, fN_dv (Or.inr ⟨by decide +kernel, (by decide), (fvI rfl rfl)⟩)⟩) d_Mo_init_282 ?_
  refine nn_aload_n (pc := 285) g.1 d_Mo_init_285 rfl (lv_at hl 0 rfl) ?_
  refine nn_iconst (pc := 286) g.1 (v := 0) d_Mo_init_286 (by decide) ?_
  refine nn_put (pc := 287) (r := 0) (k := 41) (n' := 146) g cl_Mo ⟨⟨rfl, by decide, by decide⟩, by decide +kernel⟩ (by decide) (Or.inl kn_173) (Or.inl rfl) e0 rfl rfl (Or.inr ⟨rfl, fN_dv (Or.inr ⟨by decide +kernel, (by decide), (fvI rfl rfl)⟩)⟩) d_Mo_init_287 ?_
  refine nn_aload_n (pc := 290) g.1 d_Mo_init_290 rfl (lv_at hl 0 rfl) ?_
  refine nn_iconst (pc := 291) g.1 (v := 0) d_Mo_init_291 (by decide) ?_
  refine nn_put (pc := 292) (r := 0) (k := 42) (n' := 146) g cl_Mo ⟨⟨rfl, by decide, by decide⟩, by decide +kernel⟩ (by decide) (Or.inl kn_174) (Or.inl rfl) e0 rfl rfl (Or.inr ⟨rfl, fN_dv (Or.inr ⟨by decide +kernel, (by decide), (fvI rfl rfl)⟩)⟩) d_Mo_init_292 ?_
  refine nn_aload_n (pc := 295) g.1 d_Mo_init_295 rfl (lv_at hl 0 rfl) ?_
  refine nn_iconst (pc := 296) g.1 (v := 0) d_Mo_init_296 (by decide) ?_
  refine nn_put (pc := 297) (r := 0) (k := 43) (n' := 146) g cl_Mo ⟨⟨rfl, by decide, by decide⟩, by decide +kernel⟩ (by decide) (Or.inl kn_175) (Or.inl rfl) e0 rfl rfl (Or.inr ⟨rfl, fN_dv (Or.inr ⟨by decide +kernel, (by decide), (fvI rfl rfl)⟩)⟩) d_Mo_init_297 ?_
  refine nn_aload_n (pc := 300) g.1 d_Mo_init_300 rfl (lv_at hl 0 rfl) ?_
  refine nn_iconst (pc := 301) g.1 (v := 0) d_Mo_init_301 (by decide) ?_
  refine nn_put (pc := 302) (r := 0) (k := 44) (n' := 146) g cl_Mo ⟨⟨rfl, by decide, by decide⟩, by decide +kernel⟩ (by decide) (Or.inl kn_176) (Or.inl rfl) e0 rfl rfl (Or.inr ⟨rfl, fN_dv (Or.inr ⟨by decide +kernel, (by decide), (fvI rfl rfl)⟩)⟩) d_Mo_init_302 ?_
  refine nn_aload_n (pc := 305) g.1 d_Mo_init_305 rfl (lv_at hl 0 rfl) ?_
  refine nn_sipush (pc := 306) g.1 (v := 4100) d_Mo_init_306 (by decide) ?_
  refine nn_arr (pc := 309) (r := 58) (i := 0) (N := 4100) (at0 := .byte) (m := (m.1 + 766, m.2 + 1263172)) g.gn rfl (by decide) ⟨rfl, by decide, by decide⟩ (by decide +kernel) (by decide) rfl (by decide) (by decide) (hm.le (by dsimp only; omega) (by dsimp only; omega)) kn_12 d_Mo_init_309 fun q309 a58 hk e58 hm => ?_
  have e0 : q309.1 0 0 = a0 := (hk 0 0 ⟨⟨rfl, by decide, by decide⟩, by decide +kernel⟩).trans e0
  have e41 : q309.1 41 0 = a41 := (hk 41 0 ⟨⟨rfl, by decide, by decide⟩, by decide +kernel⟩).trans e41
  have e42 : q309.1 42 0 = a42 := (hk 42 0 ⟨⟨rfl, by decide, by decide⟩, by decide +kernel⟩).trans e42
  have e43 : q309.1 43 0 = a43 := (hk 43 0 ⟨⟨rfl, by decide, by decide⟩, by decide +kernel⟩).trans e43
  have e44 : q309.1 44 0 = a44 := (hk 44 0 ⟨⟨rfl, by decide, by decide⟩, by decide +kernel⟩).trans e44
  have e45 : q309.1 45 0 = a45 := (hk 45 0 ⟨⟨rfl, by decide, by decide⟩, by decide +kernel⟩).trans e45
  have e46 : q309.1 46 0 = a46 := (hk 46 0 ⟨⟨rfl, by decide, by decide⟩, by decide +kernel⟩).trans e46
  have e47 : q309.1 47 0 = a47 := (hk 47 0 ⟨⟨rfl, by decide, by decide⟩, by decide +kernel⟩).trans e47
  have e48 : q309.1 48 0 = a48 := (hk 48 0 ⟨⟨rfl, by decide, by decide⟩, by decide +kernel⟩).trans e48
  have e49 : q309.1 49 0 = a49 := (hk 49 0 ⟨⟨rfl, by decide, by decide⟩, by decide +kernel⟩).trans e49
  have e50 : q309.1 50 0 = a50 := (hk 50 0 ⟨⟨rfl, by decide, by decide⟩, by decide +kernel⟩).trans e50
  have e51 : q309.1 51 0 = a51 := (hk 51 0 ⟨⟨rfl, by decide, by decide⟩, by decide +kernel⟩).trans e51
  have e52 : q309.1 52 0 = a52 := (hk 52 0 ⟨⟨rfl, by decide, by decide⟩, by decide +kernel⟩).trans e52
  have e53 : q309.1 53 0 = a53 := (hk 53 0 ⟨⟨rfl, by decide, by decide⟩, by decide +kernel⟩).trans e53
  have e54 : q309.1 54 0 = a54 := (hk 54 0 ⟨⟨rfl, by decide, by decide⟩, by decide +kernel⟩).trans e54
  have e55 : q309.1 55 0 = a55 := (hk 55 0 ⟨⟨rfl, by decide, by decide⟩, by decide +kernel⟩).trans e55
  have e56 : q309.1 56 0 = a56 := (hk 56 0 ⟨⟨rfl, by decide, by decide⟩, by decide +kernel⟩).trans e56
  have e1 : q309.1 1 0 = a1 := (hk 1 0 ⟨⟨rfl, by decide, by decide⟩, by decide +kernel⟩).trans e1
  have e57 : q309.1 57 0 = a57 := (hk 57 0 ⟨⟨rfl, by decide, by decide⟩, by decide +kernel⟩).trans e57
  have hkp := hkp.tr hk (by decide)
  refine nn_put (pc := 311) (r := 0) (k := 45) (n' := 148) g cl_Mo ⟨⟨rfl, by decide, by decide⟩, by decide +kernel⟩ (by decide) (Or.inl kn_177) (Or.inr ⟨rfl, hnm, rfl, kn_177⟩) e0 rfl rfl (Or.inl ⟨(by decide +kernel), rfl, (fvR rfl rfl e58)⟩) d_Mo_init_311 ?_
  refine nn_aload_n (pc := 314) g.1 d_Mo_init_314 rfl (lv_at hl 0 rfl) ?_
  refine nn_sipush (pc := 315) g.1 (v := 4100) d_Mo_init_315 (by decide) ?_
  refine nn_arr (pc := 318) (r := 59) (i := 0) (N := 4100) (at0 := .boolean) (m := (m.1 + 765, m.2 + 1259072)) g.gn rfl (by decide) ⟨rfl, by decide, by decide⟩ (by decide +kernel) (by decide) rfl (by decide) (by decide) (hm.le (by dsimp only; omega) (by dsimp only; omega)) kn_178 d_Mo_init_318 fun q318 a59 hk e59 hm => ?_
  have e0 : q318.1 0 0 = a0 := (hk 0 0 ⟨⟨rfl, by decide, by decide⟩, by decide +kernel⟩).trans e0
  have e41 : q318.1 41 0 = a41 := (hk 41 0 ⟨⟨rfl, by decide, by decide⟩, by decide +kernel⟩).trans e41
  have e42 : q318.1 42 0 = a42 := (hk 42 0 ⟨⟨rfl, by decide, by decide⟩, by decide +kernel⟩).trans e42
  have e43 : q318.1 43 0 = a43 := (hk 43 0 ⟨⟨rfl, by decide, by decide⟩, by decide +kernel⟩).trans e43
  have e44 : q318.1 44 0 = a44 := (hk 44 0 ⟨⟨rfl, by decide, by decide⟩, by decide +kernel⟩).trans e44
  have e45 : q318.1 45 0 = a45 := (hk 45 0 ⟨⟨rfl, by decide, by decide⟩, by decide +kernel⟩).trans e45
  have e46 : q318.1 46 0 = a46 := (hk 46 0 ⟨⟨rfl, by decide, by decide⟩, by decide +kernel⟩).trans e46
  have e47 : q318.1 47 0 = a47 := (hk 47 0 ⟨⟨rfl, by decide, by decide⟩, by decide +kernel⟩).trans e47
  have e48 : q318.1 48 0 = a48 := (hk 48 0 ⟨⟨rfl, by decide, by decide⟩, by decide +kernel⟩).trans e48
  have e49 : q318.1 49 0 = a49 := (hk 49 0 ⟨⟨rfl, by decide, by decide⟩, by decide +kernel⟩).trans e49
  have e50 : q318.1 50 0 = a50 := (hk 50 0 ⟨⟨rfl, by decide, by decide⟩, by decide +kernel⟩).trans e50
  have e51 : q318.1 51 0 = a51 := (hk 51 0 ⟨⟨rfl, by decide, by decide⟩, by decide +kernel⟩).trans e51
  have e52 : q318.1 52 0 = a52 := (hk 52 0 ⟨⟨rfl, by decide, by decide⟩, by decide +kernel⟩).trans e52
  have e53 : q318.1 53 0 = a53 := (hk 53 0 ⟨⟨rfl, by decide, by decide⟩, by decide +kernel⟩).trans e53
  have e54 : q318.1 54 0 = a54 := (hk 54 0 ⟨⟨rfl, by decide, by decide⟩, by decide +kernel⟩).trans e54
  have e55 : q318.1 55 0 = a55 := (hk 55 0 ⟨⟨rfl, by decide, by decide⟩, by decide +kernel⟩).trans e55
  have e56 : q318.1 56 0 = a56 := (hk 56 0 ⟨⟨rfl, by decide, by decide⟩, by decide +kernel⟩).trans e56
  have e1 : q318.1 1 0 = a1 := (hk 1 0 ⟨⟨rfl, by decide, by decide⟩, by decide +kernel⟩).trans e1
  have e57 : q318.1 57 0 = a57 := (hk 57 0 ⟨⟨rfl, by decide, by decide⟩, by decide +kernel⟩).trans e57
  have e58 : q318.1 58 0 = a58 := (hk 58 0 ⟨⟨rfl, by decide, by decide⟩, by decide +kernel⟩).trans e58
  have hkp := hkp.tr hk (by decide)
  refine nn_put (pc := 320) (r := 0) (k := 46) (n' := 150) g cl_Mo ⟨⟨rfl, by decide, by decide⟩, by decide +kernel⟩ (by decide) (Or.inl kn_179) (Or.inr ⟨rfl, hnm, rfl, kn_179⟩) e0 rfl rfl (Or.inl ⟨(by decide +kernel), rfl, (fvR rfl rfl e59)⟩) d_Mo_init_320 ?_
  refine nn_aload_n (pc := 323) g.1 d_Mo_init_323 rfl (lv_at hl 0 rfl) ?_
  refine nn_sipush (pc := 324) g.1 (v := 4100) d_Mo_init_324 (by decide) ?_
  refine nn_arr (pc := 327) (r := 60) (i := 0) (N := 4100) (at0 := .boolean) (m := (m.1 + 764, m.2 + 1254972)) g.gn rfl (by decide) ⟨rfl, by decide, by decide⟩ (by decide +kernel) (by decide) rfl (by decide) (by decide) (hm.le (by dsimp only; omega) (by dsimp only; omega)) kn_178 d_Mo_init_327 fun q327 a60 hk e60 hm => ?_
  have e0 : q327.1 0 0 = a0 := (hk 0 0 ⟨⟨rfl, by decide, by decide⟩, by decide +kernel⟩).trans e0
  have e41 : q327.1 41 0 = a41 := (hk 41 0 ⟨⟨rfl, by decide, by decide⟩, by decide +kernel⟩).trans e41
  have e42 : q327.1 42 0 = a42 := (hk 42 0 ⟨⟨rfl, by decide, by decide⟩, by decide +kernel⟩).trans e42
  have e43 : q327.1 43 0 = a43 := (hk 43 0 ⟨⟨rfl, by decide, by decide⟩, by decide +kernel⟩).trans e43
  have e44 : q327.1 44 0 = a44 := (hk 44 0 ⟨⟨rfl, by decide, by decide⟩, by decide +kernel⟩).trans e44
  have e45 : q327.1 45 0 = a45 := (hk 45 0 ⟨⟨rfl, by decide, by decide⟩, by decide +kernel⟩).trans e45
  have e46 : q327.1 46 0 = a46 := (hk 46 0 ⟨⟨rfl, by decide, by decide⟩, by decide +kernel⟩).trans e46
  have e47 : q327.1 47 0 = a47 := (hk 47 0 ⟨⟨rfl, by decide, by decide⟩, by decide +kernel⟩).trans e47
  have e48 : q327.1 48 0 = a48 := (hk 48 0 ⟨⟨rfl, by decide, by decide⟩, by decide +kernel⟩).trans e48
  have e49 : q327.1 49 0 = a49 := (hk 49 0 ⟨⟨rfl, by decide, by decide⟩, by decide +kernel⟩).trans e49
  have e50 : q327.1 50 0 = a50 := (hk 50 0 ⟨⟨rfl, by decide, by decide⟩, by decide +kernel⟩).trans e50
  have e51 : q327.1 51 0 = a51 := (hk 51 0 ⟨⟨rfl, by decide, by decide⟩, by decide +kernel⟩).trans e51
  have e52 : q327.1 52 0 = a52 := (hk 52 0 ⟨⟨rfl, by decide, by decide⟩, by decide +kernel⟩).trans e52
  have e53 : q327.1 53 0 = a53 := (hk 53 0 ⟨⟨rfl, by decide, by decide⟩, by decide +kernel⟩).trans e53
  have e54 : q327.1 54 0 = a54 := (hk 54 0 ⟨⟨rfl, by decide, by decide⟩, by decide +kernel⟩).trans e54
  have e55 : q327.1 55 0 = a55 := (hk 55 0 ⟨⟨rfl, by decide, by decide⟩, by decide +kernel⟩).trans e55
  have e56 : q327.1 56 0 = a56 := (hk 56 0 ⟨⟨rfl, by decide, by decide⟩, by decide +kernel⟩).trans e56
  have e1 : q327.1 1 0 = a1 := (hk 1 0 ⟨⟨rfl, by decide, by decide⟩, by decide +kernel⟩).trans e1
  have e57 : q327.1 57 0 = a57 := (hk 57 0 ⟨⟨rfl, by decide, by decide⟩, by decide +kernel⟩).trans e57
  have e58 : q327.1 58 0 = a58 := (hk 58 0 ⟨⟨rfl, by decide, by decide⟩, by decide +kernel⟩).trans e58
  have e59 : q327.1 59 0 = a59 := (hk 59 0 ⟨⟨rfl, by decide, by decide⟩, by decide +kernel⟩).trans e59
  have hkp := hkp.tr hk (by decide)
  refine nn_put (pc := 329) (r := 0) (k := 47) (n' := 152) g cl_Mo ⟨⟨rfl, by decide, by decide⟩, by decide +kernel⟩ (by decide) (Or.inl kn_180) (Or.inr ⟨rfl, hnm, rfl, kn_180⟩) e0 rfl rfl (Or.inl ⟨(by decide +kernel), rfl, (fvR rfl rfl e60)⟩) d_Mo_init_329 ?_
  refine nn_aload_n (pc := 332) g.1 d_Mo_init_332 rfl (lv_at hl 0 rfl) ?_
  refine nn_sipush (pc := 333) g.1 (v := 4100) d_Mo_init_333 (by decide) ?_
  refine nn_arr (pc := 336) (r := 61) (i := 0) (N := 4100) (at0 := .int) (m := (m.1 + 763, m.2 + 1250872)) g.gn rfl (by decide) ⟨rfl, by decide, by decide⟩ (by decide +kernel) (by decide) rfl (by decide) (by decide) (hm.le (by dsimp only; omega) (by dsimp only; omega)) kn_9 d_Mo_init_336 fun q336 a61 hk e61 hm => ?_
  have e0 : q336.1 0 0 = a0 := (hk 0 0 ⟨⟨rfl, by decide, by decide⟩, by decide +kernel⟩).trans e0
  have e41 : q336.1 41 0 = a41 := (hk 41 0 ⟨⟨rfl, by decide, by decide⟩, by decide +kernel⟩).trans e41
  have e42 : q336.1 42 0 = a42 := (hk 42 0 ⟨⟨rfl, by decide, by decide⟩, by decide +kernel⟩).trans e42
  have e43 : q336.1 43 0 = a43 := (hk 43 0 ⟨⟨rfl, by decide, by decide⟩, by decide +kernel⟩).trans e43
  have e44 : q336.1 44 0 = a44 := (hk 44 0 ⟨⟨rfl, by decide, by decide⟩, by decide +kernel⟩).trans e44
  have e45 : q336.1 45 0 = a45 := (hk 45 0 ⟨⟨rfl, by decide, by decide⟩, by decide +kernel⟩).trans e45
  have e46 : q336.1 46 0 = a46 := (hk 46 0 ⟨⟨rfl, by decide, by decide⟩, by decide +kernel⟩).trans e46
  have e47 : q336.1 47 0 = a47 := (hk 47 0 ⟨⟨rfl, by decide, by decide⟩, by decide +kernel⟩).trans e47
  have e48 : q336.1 48 0 = a48 := (hk 48 0 ⟨⟨rfl, by decide, by decide⟩, by decide +kernel⟩).trans e48
  have e49 : q336.1 49 0 = a49 := (hk 49 0 ⟨⟨rfl, by decide, by decide⟩, by decide +kernel⟩).trans e49
  have e50 : q336.1 50 0 = a50 := (hk 50 0 ⟨⟨rfl, by decide, by decide⟩, by decide +kernel⟩).trans e50
  have e51 : q336.1 51 0 = a51 := (hk 51 0 ⟨⟨rfl, by decide, by decide⟩, by decide +kernel⟩).trans e51
  have e52 : q336.1 52 0 = a52 := (hk 52 0 ⟨⟨rfl, by decide, by decide⟩, by decide +kernel⟩).trans e52
  have e53 : q336.1 53 0 = a53 := (hk 53 0 ⟨⟨rfl, by decide, by decide⟩, by decide +kernel⟩).trans e53
  have e54 : q336.1 54 0 = a54 := (hk 54 0 ⟨⟨rfl, by decide, by decide⟩, by decide +kernel⟩).trans e54
  have e55 : q336.1 55 0 = a55 := (hk 55 0 ⟨⟨rfl, by decide, by decide⟩, by decide +kernel⟩).trans e55
  have e56 : q336.1 56 0 = a56 := (hk 56 0 ⟨⟨rfl, by decide, by decide⟩, by decide +kernel⟩).trans e56
  have e1 : q336.1 1 0 = a1 := (hk 1 0 ⟨⟨rfl, by decide, by decide⟩, by decide +kernel⟩).trans e1
  have e57 : q336.1 57 0 = a57 := (hk 57 0 ⟨⟨rfl, by decide, by decide⟩, by decide +kernel⟩).trans e57
  have e58 : q336.1 58 0 = a58 := (hk 58 0 ⟨⟨rfl, by decide, by decide⟩, by decide +kernel⟩).trans e58
  have e59 : q336.1 59 0 = a59 := (hk 59 0 ⟨⟨rfl, by decide, by decide⟩, by decide +kernel⟩).trans e59
  have e60 : q336.1 60 0 = a60 := (hk 60 0 ⟨⟨rfl, by decide, by decide⟩, by decide +kernel⟩).trans e60
  have hkp := hkp.tr hk (by decide)
  refine nn_put (pc := 338) (r := 0) (k := 48) (n' := 154) g cl_Mo ⟨⟨rfl, by decide, by decide⟩, by decide +kernel⟩ (by decide) (Or.inl kn_181) (Or.inr ⟨rfl, hnm, rfl, kn_181⟩) e0 rfl rfl (Or.inl ⟨(by decide +kernel), rfl, (fvR rfl rfl e61)⟩) d_Mo_init_338 ?_
  refine nn_aload_n (pc := 341) g.1 d_Mo_init_341 rfl (lv_at hl 0 rfl) ?_
  refine nn_sipush (pc := 342) g.1 (v := 4100) d_Mo_init_342 (by decide) ?_
  refine nn_arr (pc := 345) (r := 62) (i := 0) (N := 4100) (at0 := .int) (m := (m.1 + 762, m.2 + 1246772)) g.gn rfl (by decide) ⟨rfl, by decide, by decide⟩ (by decide +kernel) (by decide) rfl (by decide) (by decide) (hm.le (by dsimp only; omega) (by dsimp only; omega)) kn_9 d_Mo_init_345 fun q345 a62 hk e62 hm => ?_
  have e0 : q345.1 0 0 = a0 := (hk 0 0 ⟨⟨rfl, by decide, by decide⟩, by decide +kernel⟩).trans e0
  have e41 : q345.1 41 0 = a41 := (hk 41 0 ⟨⟨rfl, by decide, by decide⟩, by decide +kernel⟩).trans e41
  have e42 : q345.1 42 0 = a42 := (hk 42 0 ⟨⟨rfl, by decide, by decide⟩, by decide +kernel⟩).trans e42
  have e43 : q345.1 43 0 = a43 := (hk 43 0 ⟨⟨rfl, by decide, by decide⟩, by decide +kernel⟩).trans e43
  have e44 : q345.1 44 0 = a44 := (hk 44 0 ⟨⟨rfl, by decide, by decide⟩, by decide +kernel⟩).trans e44
  have e45 : q345.1 45 0 = a45 := (hk 45 0 ⟨⟨rfl, by decide, by decide⟩, by decide +kernel⟩).trans e45
  have e46 : q345.1 46 0 = a46 := (hk 46 0 ⟨⟨rfl, by decide, by decide⟩, by decide +kernel⟩).trans e46
  have e47 : q345.1 47 0 = a47 := (hk 47 0 ⟨⟨rfl, by decide, by decide⟩, by decide +kernel⟩).trans e47
  have e48 : q345.1 48 0 = a48 := (hk 48 0 ⟨⟨rfl, by decide, by decide⟩, by decide +kernel⟩).trans e48
  have e49 : q345.1 49 0 = a49 := (hk 49 0 ⟨⟨rfl, by decide, by decide⟩, by decide +kernel⟩).trans e49
  have e50 : q345.1 50 0 = a50 := (hk 50 0 ⟨⟨rfl, by decide, by decide⟩, by decide +kernel⟩).trans e50
  have e51 : q345.1 51 0 = a51 := (hk 51 0 ⟨⟨rfl, by decide, by decide⟩, by decide +kernel⟩).trans e51
  have e52 : q345.1 52 0 = a52 := (hk 52 0 ⟨⟨rfl, by decide, by decide⟩, by decide +kernel⟩).trans e52
  have e53 : q345.1 53 0 = a53 := (hk 53 0 ⟨⟨rfl, by decide, by decide⟩, by decide +kernel⟩).trans e53
  have e54 : q345.1 54 0 = a54 := (hk 54 0 ⟨⟨rfl, by decide, by decide⟩, by decide +kernel⟩).trans e54
  have e55 : q345.1 55 0 = a55 := (hk 55 0 ⟨⟨rfl, by decide, by decide⟩, by decide +kernel⟩).trans e55
  have e56 : q345.1 56 0 = a56 := (hk 56 0 ⟨⟨rfl, by decide, by decide⟩, by decide +kernel⟩).trans e56
  have e1 : q345.1 1 0 = a1 := (hk 1 0 ⟨⟨rfl, by decide, by decide⟩, by decide +kernel⟩).trans e1
  have e57 : q345.1 57 0 = a57 := (hk 57 0 ⟨⟨rfl, by decide, by decide⟩, by decide +kernel⟩).trans e57
  have e58 : q345.1 58 0 = a58 := (hk 58 0 ⟨⟨rfl, by decide, by decide⟩, by decide +kernel⟩).trans e58
  have e59 : q345.1 59 0 = a59 := (hk 59 0 ⟨⟨rfl, by decide, by decide⟩, by decide +kernel⟩).trans e59
  have e60 : q345.1 60 0 = a60 := (hk 60 0 ⟨⟨rfl, by decide, by decide⟩, by decide +kernel⟩).trans e60
  have e61 : q345.1 61 0 = a61 := (hk 61 0 ⟨⟨rfl, by decide, by decide⟩, by decide +kernel⟩).trans e61
  have hkp := hkp.tr hk (by decide)
  refine nn_put (pc := 347) (r := 0) (k := 49) (n' := 156) g cl_Mo ⟨⟨rfl, by decide, by decide⟩, by decide +kernel⟩ (by decide) (Or.inl kn_182) (Or.inr ⟨rfl, hnm, rfl, kn_182⟩) e0 rfl rfl (Or.inl ⟨(by decide +kernel), rfl, (fvR rfl rfl e62)⟩) d_Mo_init_347 ?_
  refine nn_aload_n (pc := 350) g.1 d_Mo_init_350 rfl (lv_at hl 0 rfl) ?_
  refine nn_sipush (pc := 351) g.1 (v := 4100) d_Mo_init_351 (by decide) ?_
  refine nn_arr (pc := 354) (r := 63) (i := 0) (N := 4100) (at0 := .int) (m := (m.1 + 761, m.2 + 1242672)) g.gn rfl (by decide) ⟨rfl, by decide, by decide⟩ (by decide +kernel) (by decide) rfl (by decide) (by decide) (hm.le (by dsimp only; omega) (by dsimp only; omega)) kn_9 d_Mo_init_354 fun q354 a63 hk e63 hm => ?_
  have e0 : q354.1 0 0 = a0 := (hk 0 0 ⟨⟨rfl, by decide, by decide⟩, by decide +kernel⟩).trans e0
  have e41 : q354.1 41 0 = a41 := (hk 41 0 ⟨⟨rfl, by decide, by decide⟩, by decide +kernel⟩).trans e41
  have e42 : q354.1 42 0 = a42 := (hk 42 0 ⟨⟨rfl, by decide, by decide⟩, by decide +kernel⟩).trans e42
  have e43 : q354.1 43 0 = a43 := (hk 43 0 ⟨⟨rfl, by decide, by decide⟩, by decide +kernel⟩).trans e43
  have e44 : q354.1 44 0 = a44 := (hk 44 0 ⟨⟨rfl, by decide, by decide⟩, by decide +kernel⟩).trans e44
  have e45 : q354.1 45 0 = a45 := (hk 45 0 ⟨⟨rfl, by decide, by decide⟩, by decide +kernel⟩).trans e45
  have e46 : q354.1 46 0 = a46 := (hk 46 0 ⟨⟨rfl, by decide, by decide⟩, by decide +kernel⟩).trans e46
  have e47 : q354.1 47 0 = a47 := (hk 47 0 ⟨⟨rfl, by decide, by decide⟩, by decide +kernel⟩).trans e47
  have e48 : q354.1 48 0 = a48 := (hk 48 0 ⟨⟨rfl, by decide, by decide⟩, by decide +kernel⟩).trans e48
  have e49 : q354.1 49 0 = a49 := (hk 49 0 ⟨⟨rfl, by decide, by decide⟩, by decide +kernel⟩).trans e49
  have e50 : q354.1 50 0 = a50 := (hk 50 0 ⟨⟨rfl, by decide, by decide⟩, by decide +kernel⟩).trans e50
  have e51 : q354.1 51 0 = a51 := (hk 51 0 ⟨⟨rfl, by decide, by decide⟩, by decide +kernel⟩).trans e51
  have e52 : q354.1 52 0 = a52 := (hk 52 0 ⟨⟨rfl, by decide, by decide⟩, by decide +kernel⟩).trans e52
  have e53 : q354.1 53 0 = a53 := (hk 53 0 ⟨⟨rfl, by decide, by decide⟩, by decide +kernel⟩).trans e53
  have e54 : q354.1 54 0 = a54 := (hk 54 0 ⟨⟨rfl, by decide, by decide⟩, by decide +kernel⟩).trans e54
  have e55 : q354.1 55 0 = a55 := (hk 55 0 ⟨⟨rfl, by decide, by decide⟩, by decide +kernel⟩).trans e55
  have e56 : q354.1 56 0 = a56 := (hk 56 0 ⟨⟨rfl, by decide, by decide⟩, by decide +kernel⟩).trans e56
  have e1 : q354.1 1 0 = a1 := (hk 1 0 ⟨⟨rfl, by decide, by decide⟩, by decide +kernel⟩).trans e1
  have e57 : q354.1 57 0 = a57 := (hk 57 0 ⟨⟨rfl, by decide, by decide⟩, by decide +kernel⟩).trans e57
  have e58 : q354.1 58 0 = a58 := (hk 58 0 ⟨⟨rfl, by decide, by decide⟩, by decide +kernel⟩).trans e58
  have e59 : q354.1 59 0 = a59 := (hk 59 0 ⟨⟨rfl, by decide, by decide⟩, by decide +kernel⟩).trans e59
  have e60 : q354.1 60 0 = a60 := (hk 60 0 ⟨⟨rfl, by decide, by decide⟩, by decide +kernel⟩).trans e60
  have e61 : q354.1 61 0 = a61 := (hk 61 0 ⟨⟨rfl, by decide, by decide⟩, by decide +kernel⟩).trans e61
  have e62 : q354.1 62 0 = a62 := (hk 62 0 ⟨⟨rfl, by decide, by decide⟩, by decide +kernel⟩).trans e62
  have hkp := hkp.tr hk (by decide)
  refine nn_put (pc := 356) (r := 0) (k := 50) (n' := 158) g cl_Mo ⟨⟨rfl, by decide, by decide⟩, by decide +kernel⟩ (by decide) (Or.inl kn_183) (Or.inr ⟨rfl, hnm, rfl, kn_183⟩) e0 rfl rfl (Or.inl ⟨(by decide +kernel), rfl, (fvR rfl rfl e63)⟩) d_Mo_init_356 ?_
  refine nn_aload_n (pc := 359) g.1 d_Mo_init_359 rfl (lv_at hl 0 rfl) ?_
  refine nn_sipush (pc := 360) g.1 (v := 4100) d_Mo_init_360 (by decide) ?_
  refine nn_arr (pc := 363) (r := 64) (i := 0) (N := 4100) (at0 := .int) (m := (m.1 + 760, m.2 + 1238572)) g.gn rfl (by decide) ⟨rfl, by decide, by decide⟩ (by decide +kernel) (by decide) rfl (by decide) (by decide) (hm.le (by dsimp only; omega) (by dsimp only; omega)) kn_9 d_Mo_init_363 fun q363 a64 hk e64 hm => ?_
  have e0 : q363.1 0 0 = a0 := (hk 0 0 ⟨⟨rfl, by decide, by decide⟩, by decide +kernel⟩).trans e0
  have e41 : q363.1 41 0 = a41 := (hk 41 0 ⟨⟨rfl, by decide, by decide⟩, by decide +kernel⟩).trans e41
  have e42 : q363.1 42 0 = a42 := (hk 42 0 ⟨⟨rfl, by decide, by decide⟩, by decide +kernel⟩).trans e42
  have e43 : q363.1 43 0 = a43 := (hk 43 0 ⟨⟨rfl, by decide, by decide⟩, by decide +kernel⟩).trans e43
  have e44 : q363.1 44 0 = a44 := (hk 44 0 ⟨⟨rfl, by decide, by decide⟩, by decide +kernel⟩).trans e44
  have e45 : q363.1 45 0 = a45 := (hk 45 0 ⟨⟨rfl, by decide, by decide⟩, by decide +kernel⟩).trans e45
  have e46 : q363.1 46 0 = a46 := (hk 46 0 ⟨⟨rfl, by decide, by decide⟩, by decide +kernel⟩).trans e46
  have e47 : q363.1 47 0 = a47 := (hk 47 0 ⟨⟨rfl, by decide, by decide⟩, by decide +kernel⟩).trans e47
  have e48 : q363.1 48 0 = a48 := (hk 48 0 ⟨⟨rfl, by decide, by decide⟩, by decide +kernel⟩).trans e48
  have e49 : q363.1 49 0 = a49 := (hk 49 0 ⟨⟨rfl, by decide, by decide⟩, by decide +kernel⟩).trans e49
  have e50 : q363.1 50 0 = a50 := (hk 50 0 ⟨⟨rfl, by decide, by decide⟩, by decide +kernel⟩).trans e50
  have e51 : q363.1 51 0 = a51 := (hk 51 0 ⟨⟨rfl, by decide, by decide⟩, by decide +kernel⟩).trans e51
  have e52 : q363.1 52 0 = a52 := (hk 52 0 ⟨⟨rfl, by decide, by decide⟩, by decide +kernel⟩).trans e52
  have e53 : q363.1 53 0 = a53 := (hk 53 0 ⟨⟨rfl, by decide, by decide⟩, by decide +kernel⟩).trans e53
  have e54 : q363.1 54 0 = a54 := (hk 54 0 ⟨⟨rfl, by decide, by decide⟩, by decide +kernel⟩).trans e54
  have e55 : q363.1 55 0 = a55 := (hk 55 0 ⟨⟨rfl, by decide, by decide⟩, by decide +kernel⟩).trans e55
  have e56 : q363.1 56 0 = a56 := (hk 56 0 ⟨⟨rfl, by decide, by decide⟩, by decide +kernel⟩).trans e56
  have e1 : q363.1 1 0 = a1 := (hk 1 0 ⟨⟨rfl, by decide, by decide⟩, by decide +kernel⟩).trans e1
  have e57 : q363.1 57 0 = a57 := (hk 57 0 ⟨⟨rfl, by decide, by decide⟩, by decide +kernel⟩).trans e57
  have e58 : q363.1 58 0 = a58 := (hk 58 0 ⟨⟨rfl, by decide, by decide⟩, by decide +kernel⟩).trans e58
  have e59 : q363.1 59 0 = a59 := (hk 59 0 ⟨⟨rfl, by decide, by decide⟩, by decide +kernel⟩).trans e59
  have e60 : q363.1 60 0 = a60 := (hk 60 0 ⟨⟨rfl, by decide, by decide⟩, by decide +kernel⟩).trans e60
  have e61 : q363.1 61 0 = a61 := (hk 61 0 ⟨⟨rfl, by decide, by decide⟩, by decide +kernel⟩).trans e61
  have e62 : q363.1 62 0 = a62 := (hk 62 0 ⟨⟨rfl, by decide, by decide⟩, by decide +kernel⟩).trans e62
  have e63 : q363.1 63 0 = a63 := (hk 63 0 ⟨⟨rfl, by decide, by decide⟩, by decide +kernel⟩).trans e63
  have hkp := hkp.tr hk (by decide)
  refine nn_put (pc := 365) (r := 0) (k := 51) (n' := 160) g cl_Mo ⟨⟨rfl, by decide, by decide⟩, by decide +kernel⟩ (by decide) (Or.inl kn_184) (Or.inr ⟨rfl, hnm, rfl, kn_184⟩) e0 rfl rfl (Or.inl ⟨(by decide +kernel), rfl, (fvR rfl rfl e64)⟩) d_Mo_init_365 ?_
  refine nn_aload_n (pc := 368) g.1 d_Mo_init_368 rfl (lv_at hl 0 rfl) ?_
  refine nn_sipush (pc := 369) g.1 (v := 4100) d_Mo_init_369 (by decide) ?_
  refine nn_arr (pc := 372) (r := 65) (i := 0) (N := 4100) (at0 := .int) (m := (m.1 + 759, m.2 + 1234472)) g.gn rfl (by decide) ⟨rfl, by decide, by decide⟩ (by decide +kernel) (by decide) rfl (by decide) (by decide) (hm.le (by dsimp only; omega) (by dsimp only; omega)) kn_9 d_Mo_init_372 fun q372 a65 hk e65 hm => ?_
  have e0 : q372.1 0 0 = a0 := (hk 0 0 ⟨⟨rfl, by decide, by decide⟩, by decide +kernel⟩).trans e0
  have e41 : q372.1 41 0 = a41 := (hk 41 0 ⟨⟨rfl, by decide, by decide⟩, by decide +kernel⟩).trans e41
  have e42 : q372.1 42 0 = a42 := (hk 42 0 ⟨⟨rfl, by decide, by decide⟩, by decide +kernel⟩).trans e42
  have e43 : q372.1 43 0 = a43 := (hk 43 0 ⟨⟨rfl, by decide, by decide⟩, by decide +kernel⟩).trans e43
  have e44 : q372.1 44 0 = a44 := (hk 44 0 ⟨⟨rfl, by decide, by decide⟩, by decide +kernel⟩).trans e44
  have e45 : q372.1 45 0 = a45 := (hk 45 0 ⟨⟨rfl, by decide, by decide⟩, by decide +kernel⟩).trans e45
  have e46 : q372.1 46 0 = a46 := (hk 46 0 ⟨⟨rfl, by decide, by decide⟩, by decide +kernel⟩).trans e46
  have e47 : q372.1 47 0 = a47 := (hk 47 0 ⟨⟨rfl, by decide, by decide⟩, by decide +kernel⟩).trans e47
  have e48 : q372.1 48 0 = a48 := (hk 48 0 ⟨⟨rfl, by decide, by decide⟩, by decide +kernel⟩).trans e48
  have e49 : q372.1 49 0 = a49 := (hk 49 0 ⟨⟨rfl, by decide, by decide⟩, by decide +kernel⟩).trans e49
  have e50 : q372.1 50 0 = a50 := (hk 50 0 ⟨⟨rfl, by decide, by decide⟩, by decide +kernel⟩).trans e50
  have e51 : q372.1 51 0 = a51 := (hk 51 0 ⟨⟨rfl, by decide, by decide⟩, by decide +kernel⟩).trans e51
  have e52 : q372.1 52 0 = a52 := (hk 52 0 ⟨⟨rfl, by decide, by decide⟩, by decide +kernel⟩).trans e52
  have e53 : q372.1 53 0 = a53 := (hk 53 0 ⟨⟨rfl, by decide, by decide⟩, by decide +kernel⟩).trans e53
  have e54 : q372.1 54 0 = a54 := (hk 54 0 ⟨⟨rfl, by decide, by decide⟩, by decide +kernel⟩).trans e54
  have e55 : q372.1 55 0 = a55 := (hk 55 0 ⟨⟨rfl, by decide, by decide⟩, by decide +kernel⟩).trans e55
  have e56 : q372.1 56 0 = a56 := (hk 56 0 ⟨⟨rfl, by decide, by decide⟩, by decide +kernel⟩).trans e56
  have e1 : q372.1 1 0 = a1 := (hk 1 0 ⟨⟨rfl, by decide, by decide⟩, by decide +kernel⟩).trans e1
  have e57 : q372.1 57 0 = a57 := (hk 57 0 ⟨⟨rfl, by decide, by decide⟩, by decide +kernel⟩).trans e57
  have e58 : q372.1 58 0 = a58 := (hk 58 0 ⟨⟨rfl, by decide, by decide⟩, by decide +kernel⟩).trans e58
  have e59 : q372.1 59 0 = a59 := (hk 59 0 ⟨⟨rfl, by decide, by decide⟩, by decide +kernel⟩).trans e59
  have e60 : q372.1 60 0 = a60 := (hk 60 0 ⟨⟨rfl, by decide, by decide⟩, by decide +kernel⟩).trans e60
  have e61 : q372.1 61 0 = a61 := (hk 61 0 ⟨⟨rfl, by decide, by decide⟩, by decide +kernel⟩).trans e61
  have e62 : q372.1 62 0 = a62 := (hk 62 0 ⟨⟨rfl, by decide, by decide⟩, by decide +kernel⟩).trans e62
  have e63 : q372.1 63 0 = a63 := (hk 63 0 ⟨⟨rfl, by decide, by decide⟩, by decide +kernel⟩).trans e63
  have e64 : q372.1 64 0 = a64 := (hk 64 0 ⟨⟨rfl, by decide, by decide⟩, by decide +kernel⟩).trans e64
  have hkp := hkp.tr hk (by decide)
  refine nn_put (pc := 374) (r := 0) (k := 52) (n' := 162) g cl_Mo ⟨⟨rfl, by decide, by decide⟩, by decide +kernel⟩ (by decide) (Or.inl kn_185) (Or.inr ⟨rfl, hnm, rfl, kn_185⟩) e0 rfl rfl (Or.inl ⟨(by decide +kernel), rfl, (fvR rfl rfl e65)⟩) d_Mo_init_374 ?_
  refine nn_aload_n (pc := 377) g.1 d_Mo_init_377 rfl (lv_at hl 0 rfl) ?_
  refine nn_sipush (pc := 378) g.1 (v := 4100) d_Mo_init_378 (by decide) ?_
  refine nn_arr (pc := 381) (r := 66) (i := 0) (N := 4100) (at0 := .int) (m := (m.1 + 758, m.2 + 1230372)) g.gn rfl (by decide) ⟨rfl, by decide, by decide⟩ (by decide +kernel) (by decide) rfl (by decide) (by decide) (hm.le (by dsimp only; omega) (by dsimp only; omega)) kn_9 d_Mo_init_381 fun q381 a66 hk e66 hm => ?_
  have e0 : q381.1 0 0 = a0 := (hk 0 0 ⟨⟨rfl, by decide, by decide⟩, by decide +kernel⟩).trans e0
  have e41 : q381.1 41 0 = a41 := (hk 41 0 ⟨⟨rfl, by decide, by decide⟩, by decide +kernel⟩).trans e41
  have e42 : q381.1 42 0 = a42 := (hk 42 0 ⟨⟨rfl, by decide, by decide⟩, by decide +kernel⟩).trans e42
  have e43 : q381.1 43 0 = a43 := (hk 43 0 ⟨⟨rfl, by decide, by decide⟩, by decide +kernel⟩).trans e43
  have e44 : q381.1 44 0 = a44 := (hk 44 0 ⟨⟨rfl, by decide, by decide⟩, by decide +kernel⟩).trans e44
  have e45 : q381.1 45 0 = a45 := (hk 45 0 ⟨⟨rfl, by decide, by decide⟩, by decide +kernel⟩).trans e45
  have e46 : q381.1 46 0 = a46 := (hk 46 0 ⟨⟨rfl, by decide, by decide⟩, by decide +kernel⟩).trans e46
  have e47 : q381.1 47 0 = a47 := (hk 47 0 ⟨⟨rfl, by decide, by decide⟩, by decide +kernel⟩).trans e47
  have e48 : q381.1 48 0 = a48 := (hk 48 0 ⟨⟨rfl, by decide, by decide⟩, by decide +kernel⟩).trans e48
  have e49 : q381.1 49 0 = a49 := (hk 49 0 ⟨⟨rfl, by decide, by decide⟩, by decide +kernel⟩).trans e49
  have e50 : q381.1 50 0 = a50 := (hk 50 0 ⟨⟨rfl, by decide, by decide⟩, by decide +kernel⟩).trans e50
  have e51 : q381.1 51 0 = a51 := (hk 51 0 ⟨⟨rfl, by decide, by decide⟩, by decide +kernel⟩).trans e51
  have e52 : q381.1 52 0 = a52 := (hk 52 0 ⟨⟨rfl, by decide, by decide⟩, by decide +kernel⟩).trans e52
  have e53 : q381.1 53 0 = a53 := (hk 53 0 ⟨⟨rfl, by decide, by decide⟩, by decide +kernel⟩).trans e53
  have e54 : q381.1 54 0 = a54 := (hk 54 0 ⟨⟨rfl, by decide, by decide⟩, by decide +kernel⟩).trans e54
  have e55 : q381.1 55 0 = a55 := (hk 55 0 ⟨⟨rfl, by decide, by decide⟩, by decide +kernel⟩).trans e55
  have e56 : q381.1 56 0 = a56 := (hk 56 0 ⟨⟨rfl, by decide, by decide⟩, by decide +kernel⟩).trans e56
  have e1 : q381.1 1 0 = a1 := (hk 1 0 ⟨⟨rfl, by decide, by decide⟩, by decide +kernel⟩).trans e1
  have e57 : q381.1 57 0 = a57 := (hk 57 0 ⟨⟨rfl, by decide, by decide⟩, by decide +kernel⟩).trans e57
  have e58 : q381.1 58 0 = a58 := (hk 58 0 ⟨⟨rfl, by decide, by decide⟩, by decide +kernel⟩).trans e58
  have e59 : q381.1 59 0 = a59 := (hk 59 0 ⟨⟨rfl, by decide, by decide⟩, by decide +kernel⟩).trans e59
  have e60 : q381.1 60 0 = a60 := (hk 60 0 ⟨⟨rfl, by decide, by decide⟩, by decide +kernel⟩).trans e60
  have e61 : q381.1 61 0 = a61 := (hk 61 0 ⟨⟨rfl, by decide, by decide⟩, by decide +kernel⟩).trans e61
  have e62 : q381.1 62 0 = a62 := (hk 62 0 ⟨⟨rfl, by decide, by decide⟩, by decide +kernel⟩).trans e62
  have e63 : q381.1 63 0 = a63 := (hk 63 0 ⟨⟨rfl, by decide, by decide⟩, by decide +kernel⟩).trans e63
  have e64 : q381.1 64 0 = a64 := (hk 64 0 ⟨⟨rfl, by decide, by decide⟩, by decide +kernel⟩).trans e64
  have e65 : q381.1 65 0 = a65 := (hk 65 0 ⟨⟨rfl, by decide, by decide⟩, by decide +kernel⟩).trans e65
  have hkp := hkp.tr hk (by decide)
  refine nn_put (pc := 383) (r := 0) (k := 53) (n' := 164) g cl_Mo ⟨⟨rfl, by decide, by decide⟩, by decide +kernel⟩ (by decide) (Or.inl kn_186) (Or.inr ⟨rfl, hnm, rfl, kn_186⟩) e0 rfl rfl (Or.inl ⟨(by decide +kernel), rfl, (fvR rfl rfl e66)⟩) d_Mo_init_383 ?_
  refine nn_aload_n (pc := 386) g.1 d_Mo_init_386 rfl (lv_at hl 0 rfl) ?_
  refine nn_iconst (pc := 387) g.1 (v := 0) d_Mo_init_387 (by decide) ?_
  refine nn_put (pc := 388) (r := 0) (k := 54) (n' := 164) g cl_Mo ⟨⟨rfl, by decide, by decide⟩, by decide +kernel⟩ (by decide) (Or.inl kn_187) (Or.inl rfl) e0 rfl rfl (Or.inr ⟨rfl, fN_dv (Or.inr ⟨by decide +kernel, (by decide), (fvI rfl rfl)⟩)⟩) d_Mo_init_388 ?_
  refine nn_aload_n (pc := 391) g.1 d_Mo_init_391 rfl (lv_at hl 0 rfl) ?_
  refine nn_ldc (pc := 392) g.gn (v := 400000) kn_188 d_Mo_init_392 ?_
  refine nn_arr (pc := 394) (r := 67) (i := 0) (N := 400000) (at0 := .byte) (m := (m.1 + 757, m.2 + 830372)) g.gn rfl (by decide) ⟨rfl, by decide, by decide⟩ (by decide +kernel) (by decide) rfl (by decide) (by decide) (hm.le (by dsimp only; omega) (by dsimp only; omega)) kn_12 d_Mo_init_394 fun q394 a67 hk e67 hm => ?_
  have e0 : q394.1 0 0 = a0 := (hk 0 0 ⟨⟨rfl, by decide, by decide⟩, by decide +kernel⟩).trans e0
  have e41 : q394.1 41 0 = a41 := (hk 41 0 ⟨⟨rfl, by decide, by decide⟩, by decide +kernel⟩).trans e41
  have e42 : q394.1 42 0 = a42 := (hk 42 0 ⟨⟨rfl, by decide, by decide⟩, by decide +kernel⟩).trans e42
  have e43 : q394.1 43 0 = a43 := (hk 43 0 ⟨⟨rfl, by decide, by decide⟩, by decide +kernel⟩).trans e43
  have e44 : q394.1 44 0 = a44 := (hk 44 0 ⟨⟨rfl, by decide, by decide⟩, by decide +kernel⟩).trans e44
  have e45 : q394.1 45 0 = a45 := (hk 45 0 ⟨⟨rfl, by decide, by decide⟩, by decide +kernel⟩).trans e45
  have e46 : q394.1 46 0 = a46 := (hk 46 0 ⟨⟨rfl, by decide, by decide⟩, by decide +kernel⟩).trans e46
  have e47 : q394.1 47 0 = a47 := (hk 47 0 ⟨⟨rfl, by decide, by decide⟩, by decide +kernel⟩).trans e47
  have e48 : q394.1 48 0 = a48 := (hk 48 0 ⟨⟨rfl, by decide, by decide⟩, by decide +kernel⟩).trans e48
  have e49 : q394.1 49 0 = a49 := (hk 49 0 ⟨⟨rfl, by decide, by decide⟩, by decide +kernel⟩).trans e49
  have e50 : q394.1 50 0 = a50 := (hk 50 0 ⟨⟨rfl, by decide, by decide⟩, by decide +kernel⟩).trans e50
  have e51 : q394.1 51 0 = a51 := (hk 51 0 ⟨⟨rfl, by decide, by decide⟩, by decide +kernel⟩).trans e51
  have e52 : q394.1 52 0 = a52 := (hk 52 0 ⟨⟨rfl, by decide, by decide⟩, by decide +kernel⟩).trans e52
  have e53 : q394.1 53 0 = a53 := (hk 53 0 ⟨⟨rfl, by decide, by decide⟩, by decide +kernel⟩).trans e53
  have e54 : q394.1 54 0 = a54 := (hk 54 0 ⟨⟨rfl, by decide, by decide⟩, by decide +kernel⟩).trans e54
  have e55 : q394.1 55 0 = a55 := (hk 55 0 ⟨⟨rfl, by decide, by decide⟩, by decide +kernel⟩).trans e55
  have e56 : q394.1 56 0 = a56 := (hk 56 0 ⟨⟨rfl, by decide, by decide⟩, by decide +kernel⟩).trans e56
  have e1 : q394.1 1 0 = a1 := (hk 1 0 ⟨⟨rfl, by decide, by decide⟩, by decide +kernel⟩).trans e1
  have e57 : q394.1 57 0 = a57 := (hk 57 0 ⟨⟨rfl, by decide, by decide⟩, by decide +kernel⟩).trans e57
  have e58 : q394.1 58 0 = a58 := (hk 58 0 ⟨⟨rfl, by decide, by decide⟩, by decide +kernel⟩).trans e58
  have e59 : q394.1 59 0 = a59 := (hk 59 0 ⟨⟨rfl, by decide, by decide⟩, by decide +kernel⟩).trans e59
  have e60 : q394.1 60 0 = a60 := (hk 60 0 ⟨⟨rfl, by decide, by decide⟩, by decide +kernel⟩).trans e60
  have e61 : q394.1 61 0 = a61 := (hk 61 0 ⟨⟨rfl, by decide, by decide⟩, by decide +kernel⟩).trans e61
  have e62 : q394.1 62 0 = a62 := (hk 62 0 ⟨⟨rfl, by decide, by decide⟩, by decide +kernel⟩).trans e62
  have e63 : q394.1 63 0 = a63 := (hk 63 0 ⟨⟨rfl, by decide, by decide⟩, by decide +kernel⟩).trans e63
  have e64 : q394.1 64 0 = a64 := (hk 64 0 ⟨⟨rfl, by decide, by decide⟩, by decide +kernel⟩).trans e64
  have e65 : q394.1 65 0 = a65 := (hk 65 0 ⟨⟨rfl, by decide, by decide⟩, by decide +kernel⟩).trans e65
  have e66 : q394.1 66 0 = a66 := (hk 66 0 ⟨⟨rfl, by decide, by decide⟩, by decide +kernel⟩).trans e66
  have hkp := hkp.tr hk (by decide)
  refine nn_put (pc := 396) (r := 0) (k := 55) (n' := 166) g cl_Mo ⟨⟨rfl, by decide, by decide⟩, by decide +kernel⟩ (by decide) (Or.inl kn_189) (Or.inr ⟨rfl, hnm, rfl, kn_189⟩) e0 rfl rfl (Or.inl ⟨(by decide +kernel), rfl, (fvR rfl rfl e67)⟩) d_Mo_init_396 ?_
  refine nn_aload_n (pc := 399) g.1 d_Mo_init_399 rfl (lv_at hl 0 rfl) ?_
  refine nn_sipush (pc := 400) g.1 (v := 1024) d_Mo_init_400 (by decide) ?_
  refine nn_arr (pc := 403) (r := 68) (i := 0) (N := 1024) (at0 := .int) (m := (m.1 + 756, m.2 + 829348)) g.gn rfl (by decide) ⟨rfl, by decide, by decide⟩ (by decide +kernel) (by decide) rfl (by decide) (by decide) (hm.le (by dsimp only; omega) (by dsimp only; omega)) kn_9 d_Mo_init_403 fun q403 a68 hk e68 hm => ?_
  have e0 : q403.1 0 0 = a0 := (hk 0 0 ⟨⟨rfl, by decide, by decide⟩, by decide +kernel⟩).trans e0
  have e41 : q403.1 41 0 = a41 := (hk 41 0 ⟨⟨rfl, by decide, by decide⟩, by decide +kernel⟩).trans e41
  have e42 : q403.1 42 0 = a42 := (hk 42 0 ⟨⟨rfl, by decide, by decide⟩, by decide +kernel⟩).trans e42
  have e43 : q403.1 43 0 = a43 := (hk 43 0 ⟨⟨rfl, by decide, by decide⟩, by decide +kernel⟩).trans e43
  have e44 : q403.1 44 0 = a44 := (hk 44 0 ⟨⟨rfl, by decide, by decide⟩, by decide +kernel⟩).trans e44
  have e45 : q403.1 45 0 = a45 := (hk 45 0 ⟨⟨rfl, by decide, by decide⟩, by decide +kernel⟩).trans e45
  have e46 : q403.1 46 0 = a46 := (hk 46 0 ⟨⟨rfl, by decide, by decide⟩, by decide +kernel⟩).trans e46
  have e47 : q403.1 47 0 = a47 := (hk 47 0 ⟨⟨rfl, by decide, by decide⟩, by decide +kernel⟩).trans e47
  have e48 : q403.1 48 0 = a48 := (hk 48 0 ⟨⟨rfl, by decide, by decide⟩, by decide +kernel⟩).trans e48
  have e49 : q403.1 49 0 = a49 := (hk 49 0 ⟨⟨rfl, by decide, by decide⟩, by decide +kernel⟩).trans e49
  have e50 : q403.1 50 0 = a50 := (hk 50 0 ⟨⟨rfl, by decide, by decide⟩, by decide +kernel⟩).trans e50
  have e51 : q403.1 51 0 = a51 := (hk 51 0 ⟨⟨rfl, by decide, by decide⟩, by decide +kernel⟩).trans e51
  have e52 : q403.1 52 0 = a52 := (hk 52 0 ⟨⟨rfl, by decide, by decide⟩, by decide +kernel⟩).trans e52
  have e53 : q403.1 53 0 = a53 := (hk 53 0 ⟨⟨rfl, by decide, by decide⟩, by decide +kernel⟩).trans e53
  have e54 : q403.1 54 0 = a54 := (hk 54 0 ⟨⟨rfl, by decide, by decide⟩, by decide +kernel⟩).trans e54
  have e55 : q403.1 55 0 = a55 := (hk 55 0 ⟨⟨rfl, by decide, by decide⟩, by decide +kernel⟩).trans e55
  have e56 : q403.1 56 0 = a56 := (hk 56 0 ⟨⟨rfl, by decide, by decide⟩, by decide +kernel⟩).trans e56
  have e1 : q403.1 1 0 = a1 := (hk 1 0 ⟨⟨rfl, by decide, by decide⟩, by decide +kernel⟩).trans e1
  have e57 : q403.1 57 0 = a57 := (hk 57 0 ⟨⟨rfl, by decide, by decide⟩, by decide +kernel⟩).trans e57
  have e58 : q403.1 58 0 = a58 := (hk 58 0 ⟨⟨rfl, by decide, by decide⟩, by decide +kernel⟩).trans e58
  have e59 : q403.1 59 0 = a59 := (hk 59 0 ⟨⟨rfl, by decide, by decide⟩, by decide +kernel⟩).trans e59
  have e60 : q403.1 60 0 = a60 := (hk 60 0 ⟨⟨rfl, by decide, by decide⟩, by decide +kernel⟩).trans e60
  have e61 : q403.1 61 0 = a61 := (hk 61 0 ⟨⟨rfl, by decide, by decide⟩, by decide +kernel⟩).trans e61
  have e62 : q403.1 62 0 = a62 := (hk 62 0 ⟨⟨rfl, by decide, by decide⟩, by decide +kernel⟩).trans e62
  have e63 : q403.1 63 0 = a63 := (hk 63 0 ⟨⟨rfl, by decide, by decide⟩, by decide +kernel⟩).trans e63
  have e64 : q403.1 64 0 = a64 := (hk 64 0 ⟨⟨rfl, by decide, by decide⟩, by decide +kernel⟩).trans e64
  have e65 : q403.1 65 0 = a65 := (hk 65 0 ⟨⟨rfl, by decide, by decide⟩, by decide +kernel⟩).trans e65
  have e66 : q403.1 66 0 = a66 := (hk 66 0 ⟨⟨rfl, by decide, by decide⟩, by decide +kernel⟩).trans e66
  have e67 : q403.1 67 0 = a67 := (hk 67 0 ⟨⟨rfl, by decide, by decide⟩, by decide +kernel⟩).trans e67
  have hkp := hkp.tr hk (by decide)
  refine nn_put (pc := 405) (r := 0) (k := 56) (n' := 168) g cl_Mo ⟨⟨rfl, by decide, by decide⟩, by decide +kernel⟩ (by decide) (Or.inl kn_190) (Or.inr ⟨rfl, hnm, rfl, kn_190⟩) e0 rfl rfl (Or.inl ⟨(by decide +kernel), rfl, (fvR rfl rfl e68)⟩) d_Mo_init_405 ?_
  refine nn_aload_n (pc := 408) g.1 d_Mo_init_408 rfl (lv_at hl 0 rfl) ?_
  refine nn_null (pc := 409) g.1 d_Mo_init_409 ?_
  refine nn_put (pc := 410) (r := 0) (k := 57) (n' := 168) g cl_Mo ⟨⟨rfl, by decide, by decide⟩, by decide +kernel⟩ (by decide) (Or.inl kn_191) (Or.inl rfl) e0 rfl rfl (Or.inr ⟨rfl, fN_dv (Or.inr ⟨by decide +kernel, (by decide), rfl⟩)⟩) d_Mo_init_410 ?_
  refine nn_aload_n (pc := 413) g.1 d_Mo_init_413 rfl (lv_at hl 0 rfl) ?_
  refine nn_null (pc := 414) g.1 d_Mo_init_414 ?_
  refine nn_put (pc := 415) (r := 0) (k := 58) (n' := 168) g cl_Mo ⟨⟨rfl, by decide, by decide⟩, by decide +kernel⟩ (by decide) (Or.inl kn_192) (Or.inl rfl) e0 rfl rfl (Or.inr ⟨rfl, fN_dv (Or.inr ⟨by decide +kernel, (by decide), rfl⟩)⟩) d_Mo_init_415 ?_
  refine nn_aload_n (pc := 418) g.1 d_Mo_init_418 rfl (lv_at hl 0 rfl) ?_
  refine nn_null (pc := 419) g.1 d_Mo_init_419 ?_
  refine nn_put (pc := 420) (r := 0) (k := 59) (n' := 168) g cl_Mo ⟨⟨rfl, by decide, by decide⟩, by decide +kernel⟩ (by decide) (Or.inl kn_193) (Or.inl rfl) e0 rfl rfl (Or.inr ⟨rfl, fN_dv (Or.inr ⟨by decide +kernel, (by decide), rfl⟩)⟩) d_Mo_init_420 ?_
  refine nn_aload_n (pc := 423) g.1 d_Mo_init_423 rfl (lv_at hl 0 rfl) ?_
  refine nn_null (pc := 424) g.1 d_Mo_init_424 ?_
  refine nn_put (pc := 425) (r := 0) (k := 60) (n' := 168) g cl_Mo ⟨⟨rfl, by decide, by decide⟩, by decide +kernel⟩ (by decide) (Or.inl kn_194) (Or.inl rfl) e0 rfl rfl (Or.inr ⟨rfl, fN_dv (Or.inr ⟨by decide +kernel, (by decide), rfl⟩)⟩) d_Mo_init_425 ?_
  refine nn_aload_n (pc := 428) g.1 d_Mo_init_428 rfl (lv_at hl 0 rfl) ?_
  refine nn_null (pc := 429) g.1 d_Mo_init_429 ?_
  refine nn_put (pc := 430) (r := 0) (k := 61) (n' := 168) g cl_Mo ⟨⟨rfl, by decide, by decide⟩, by decide +kernel⟩ (by decide) (Or.inl kn_195) (Or.inl rfl) e0 rfl rfl (Or.inr ⟨rfl, fN_dv (Or.inr ⟨by decide +kernel, (by decide), rfl⟩)⟩) d_Mo_init_430 ?_
  refine nn_aload_n (pc := 433) g.1 d_Mo_init_433 rfl (lv_at hl 0 rfl) ?_
  refine nn_null (pc := 434) g.1 d_Mo_init_434 ?_
  refine nn_put (pc := 435) (r := 0) (k := 62) (n' := 168) g cl_Mo ⟨⟨rfl, by decide, by decide⟩, by decide +kernel⟩ (by decide) (Or.inl kn_196) (Or.inl rfl) e0 rfl rfl (Or.inr ⟨rfl, fN_dv (Or.inr ⟨by decide +kernel, (by decide), rfl⟩)⟩) d_Mo_init_435 ?_
  refine nn_aload_n (pc := 438) g.1 d_Mo_init_438 rfl (lv_at hl 0 rfl) ?_
  refine nn_new (pc := 439) (r := 4) (i := 0) (m := (m.1 + 755, m.2 + 829345)) g.gn (cl_Va (i := 0) (Or.inl ⟨by decide, rfl⟩)) (by unfold dvC; decide +kernel) ⟨rfl, by decide, by decide⟩ (by decide +kernel) (hm.le (by dsimp only; omega) (by have z : nfF 4 = 3 := rfl; dsimp only; omega)) kn_143 kn_144 kn_145 d_Mo_init_439 fun q439 a4 hk e4 hm => ?_
  have e0 : q439.1 0 0 = a0 := (hk 0 0 ⟨⟨rfl, by decide, by decide⟩, by decide +kernel⟩).trans e0
  have e41 : q439.1 41 0 = a41 := (hk 41 0 ⟨⟨rfl, by decide, by decide⟩, by decide +kernel⟩).trans e41
  have e42 : q439.1 42 0 = a42 := (hk 42 0 ⟨⟨rfl, by decide, by decide⟩, by decide +kernel⟩).trans e42
  have e43 : q439.1 43 0 = a43 := (hk 43 0 ⟨⟨rfl, by decide, by decide⟩, by decide +kernel⟩).trans e43
  have e44 : q439.1 44 0 = a44 := (hk 44 0 ⟨⟨rfl, by decide, by decide⟩, by decide +kernel⟩).trans e44
  have e45 : q439.1 45 0 = a45 := (hk 45 0 ⟨⟨rfl, by decide, by decide⟩, by decide +kernel⟩).trans e45
  have e46 : q439.1 46 0 = a46 := (hk 46 0 ⟨⟨rfl, by decide, by decide⟩, by decide +kernel⟩).trans e46
  have e47 : q439.1 47 0 = a47 := (hk 47 0 ⟨⟨rfl, by decide, by decide⟩, by decide +kernel⟩).trans e47
  have e48 : q439.1 48 0 = a48 := (hk 48 0 ⟨⟨rfl, by decide, by decide⟩, by decide +kernel⟩).trans e48
  have e49 : q439.1 49 0 = a49 := (hk 49 0 ⟨⟨rfl, by decide, by decide⟩, by decide +kernel⟩).trans e49
  have e50 : q439.1 50 0 = a50 := (hk 50 0 ⟨⟨rfl, by decide, by decide⟩, by decide +kernel⟩).trans e50
  have e51 : q439.1 51 0 = a51 := (hk 51 0 ⟨⟨rfl, by decide, by decide⟩, by decide +kernel⟩).trans e51
  have e52 : q439.1 52 0 = a52 := (hk 52 0 ⟨⟨rfl, by decide, by decide⟩, by decide +kernel⟩).trans e52
  have e53 : q439.1 53 0 = a53 := (hk 53 0 ⟨⟨rfl, by decide, by decide⟩, by decide +kernel⟩).trans e53
  have e54 : q439.1 54 0 = a54 := (hk 54 0 ⟨⟨rfl, by decide, by decide⟩, by decide +kernel⟩).trans e54
  have e55 : q439.1 55 0 = a55 := (hk 55 0 ⟨⟨rfl, by decide, by decide⟩, by decide +kernel⟩).trans e55
  have e56 : q439.1 56 0 = a56 := (hk 56 0 ⟨⟨rfl, by decide, by decide⟩, by decide +kernel⟩).trans e56
  have e1 : q439.1 1 0 = a1 := (hk 1 0 ⟨⟨rfl, by decide, by decide⟩, by decide +kernel⟩).trans e1
  have e57 : q439.1 57 0 = a57 := (hk 57 0 ⟨⟨rfl, by decide, by decide⟩, by decide +kernel⟩).trans e57
  have e58 : q439.1 58 0 = a58 := (hk 58 0 ⟨⟨rfl, by decide, by decide⟩, by decide +kernel⟩).trans e58
  have e59 : q439.1 59 0 = a59 := (hk 59 0 ⟨⟨rfl, by decide, by decide⟩, by decide +kernel⟩).trans e59
  have e60 : q439.1 60 0 = a60 := (hk 60 0 ⟨⟨rfl, by decide, by decide⟩, by decide +kernel⟩).trans e60
  have e61 : q439.1 61 0 = a61 := (hk 61 0 ⟨⟨rfl, by decide, by decide⟩, by decide +kernel⟩).trans e61
  have e62 : q439.1 62 0 = a62 := (hk 62 0 ⟨⟨rfl, by decide, by decide⟩, by decide +kernel⟩).trans e62
  have e63 : q439.1 63 0 = a63 := (hk 63 0 ⟨⟨rfl, by decide, by decide⟩, by decide +kernel⟩).trans e63
  have e64 : q439.1 64 0 = a64 := (hk 64 0 ⟨⟨rfl, by decide, by decide⟩, by decide +kernel⟩).trans e64
  have e65 : q439.1 65 0 = a65 := (hk 65 0 ⟨⟨rfl, by decide, by decide⟩, by decide +kernel⟩).trans e65
  have e66 : q439.1 66 0 = a66 := (hk 66 0 ⟨⟨rfl, by decide, by decide⟩, by decide +kernel⟩).trans e66
  have e67 : q439.1 67 0 = a67 := (hk 67 0 ⟨⟨rfl, by decide, by decide⟩, by decide +kernel⟩).trans e67
  have e68 : q439.1 68 0 = a68 := (hk 68 0 ⟨⟨rfl, by decide, by decide⟩, by decide +kernel⟩).trans e68
  have hkp := hkp.tr hk (by decide)
  refine nn_dup (pc := 442) g.1 d_Mo_init_442 rfl ?_
  refine nn_sipush (pc := 443) g.1 (v := 4100) d_Mo_init_443 (by decide) ?_
  refine nn_call (pc := 446) (rest := [.ref a4, .ref a0]) (m := (m.1 + 753, m.2 + 821145)) (As := [.int 4100]) g.gn ci_Va_init (Or.inl kn_152) (cn_Va_4 (hm.le (by dsimp only; omega) (by dsimp only; omega)) e4) (hm.le (by dsimp only; omega) (by dsimp only; omega)) ⟨by decide, by decide⟩ rfl hl.1 (Nat.le_of_ble_eq_true rfl) d_Mo_init_446 rfl fun q446 hk hm => ?_
  have e0 : q446.1 0 0 = a0 := (hk 0 0 ⟨⟨rfl, by decide, by decide⟩, by decide +kernel⟩).trans e0
  have e41 : q446.1 41 0 = a41 := (hk 41 0 ⟨⟨rfl, by decide, by decide⟩, by decide +kernel⟩).trans e41
  have e42 : q446.1 42 0 = a42 := (hk 42 0 ⟨⟨rfl, by decide, by decide⟩, by decide +kernel⟩).trans e42
  have e43 : q446.1 43 0 = a43 := (hk 43 0 ⟨⟨rfl, by decide, by decide⟩, by decide +kernel⟩).trans e43
  have e44 : q446.1 44 0 = a44 := (hk 44 0 ⟨⟨rfl, by decide, by decide⟩, by decide +kernel⟩).trans e44
  have e45 : q446.1 45 0 = a45 := (hk 45 0 ⟨⟨rfl, by decide, by decide⟩, by decide +kernel⟩).trans e45
  have e46 : q446.1 46 0 = a46 := (hk 46 0 ⟨⟨rfl, by decide, by decide⟩, by decide +kernel⟩).trans e46
  have e47 : q446.1 47 0 = a47 := (hk 47 0 ⟨⟨rfl, by decide, by decide⟩, by decide +kernel⟩).trans e47
  have e48 : q446.1 48 0 = a48 := (hk 48 0 ⟨⟨rfl, by decide, by decide⟩, by decide +kernel⟩).trans e48
  have e49 : q446.1 49 0 = a49 := (hk 49 0 ⟨⟨rfl, by decide, by decide⟩, by decide +kernel⟩).trans e49
  have e50 : q446.1 50 0 = a50 := (hk 50 0 ⟨⟨rfl, by decide, by decide⟩, by decide +kernel⟩).trans e50
  have e51 : q446.1 51 0 = a51 := (hk 51 0 ⟨⟨rfl, by decide, by decide⟩, by decide +kernel⟩).trans e51
  have e52 : q446.1 52 0 = a52 := (hk 52 0 ⟨⟨rfl, by decide, by decide⟩, by decide +kernel⟩).trans e52
  have e53 : q446.1 53 0 = a53 := (hk 53 0 ⟨⟨rfl, by decide, by decide⟩, by decide +kernel⟩).trans e53
  have e54 : q446.1 54 0 = a54 := (hk 54 0 ⟨⟨rfl, by decide, by decide⟩, by decide +kernel⟩).trans e54
  have e55 : q446.1 55 0 = a55 := (hk 55 0 ⟨⟨rfl, by decide, by decide⟩, by decide +kernel⟩).trans e55
  have e56 : q446.1 56 0 = a56 := (hk 56 0 ⟨⟨rfl, by decide, by decide⟩, by decide +kernel⟩).trans e56
  have e1 : q446.1 1 0 = a1 := (hk 1 0 ⟨⟨rfl, by decide, by decide⟩, by decide +kernel⟩).trans e1
  have e57 : q446.1 57 0 = a57 := (hk 57 0 ⟨⟨rfl, by decide, by decide⟩, by decide +kernel⟩).trans e57
  have e58 : q446.1 58 0 = a58 := (hk 58 0 ⟨⟨rfl, by decide, by decide⟩, by decide +kernel⟩).trans e58
  have e59 : q446.1 59 0 = a59 := (hk 59 0 ⟨⟨rfl, by decide, by decide⟩, by decide +kernel⟩).trans e59
  have e60 : q446.1 60 0 = a60 := (hk 60 0 ⟨⟨rfl, by decide, by decide⟩, by decide +kernel⟩).trans e60
  have e61 : q446.1 61 0 = a61 := (hk 61 0 ⟨⟨rfl, by decide, by decide⟩, by decide +kernel⟩).trans e61
  have e62 : q446.1 62 0 = a62 := (hk 62 0 ⟨⟨rfl, by decide, by decide⟩, by decide +kernel⟩).trans e62
  have e63 : q446.1 63 0 = a63 := (hk 63 0 ⟨⟨rfl, by decide, by decide⟩, by decide +kernel⟩).trans e63
  have e64 : q446.1 64 0 = a64 := (hk 64 0 ⟨⟨rfl, by decide, by decide⟩, by decide +kernel⟩).trans e64
  have e65 : q446.1 65 0 = a65 := (hk 65 0 ⟨⟨rfl, by decide, by decide⟩, by decide +kernel⟩).trans e65
  have e66 : q446.1 66 0 = a66 := (hk 66 0 ⟨⟨rfl, by decide, by decide⟩, by decide +kernel⟩).trans e66
  have e67 : q446.1 67 0 = a67 := (hk 67 0 ⟨⟨rfl, by decide, by decide⟩, by decide +kernel⟩).trans e67
  have e68 : q446.1 68 0 = a68 := (hk 68 0 ⟨⟨rfl, by decide, by decide⟩, by decide +kernel⟩).trans e68
  have e4 : q446.1 4 0 = a4 := (hk 4 0 ⟨⟨rfl, by decide, by decide⟩, by decide +kernel⟩).trans e4
  have hkp := hkp.tr hk (by decide)
  refine nn_put (pc := 449) (r := 0) (k := 63) (n' := 174) g cl_Mo ⟨⟨rfl, by decide, by decide⟩, by decide +kernel⟩ (by decide) (Or.inl kn_197) (Or.inr ⟨rfl, hnm, rfl, kn_197⟩) e0 rfl rfl (Or.inl ⟨(by decide +kernel), rfl, (fvR rfl rfl e4)⟩) d_Mo_init_449 ?_
  refine nn_aload_n (pc := 452) g.1 d_Mo_init_452 rfl (lv_at hl 0 rfl) ?_
  refine nn_iconst (pc := 453) g.1 (v := 0) d_Mo_init_453 (by decide) ?_
  refine nn_put (pc := 454) (r := 0) (k := 64) (n' := 174) g cl_Mo ⟨⟨rfl, by decide, by decide⟩, by decide +kernel⟩ (by decide) (Or.inl kn_198) (Or.inl rfl) e0 rfl rfl (Or.inr ⟨rfl, fN_dv (Or.inr ⟨by decide +kernel, (by decide), (fvI rfl rfl)⟩)⟩) d_Mo_init_454 ?_
  refine nn_aload_n (pc := 457) g.1 d_Mo_init_457 rfl (lv_at hl 0 rfl) ?_
  refine nn_lconst (pc := 458) g.1 (v := 0) d_Mo_init_458 (by decide) ?_
  refine nn_put (pc := 459) (r := 0) (k := 65) (n' := 174) g cl_Mo ⟨⟨rfl, by decide, by decide⟩, by decide +kernel⟩ (by decide) (Or.inl kn_199) (Or.inl rfl) e0 rfl rfl (Or.inr ⟨rfl, fN_dv (Or.inr ⟨by decide +kernel, (by decide), rfl⟩)⟩) d_Mo_init_459 ?_
  refine nn_aload_n (pc := 462) g.1 d_Mo_init_462 rfl (lv_at hl 0 rfl) ?_
  refine nn_iconst (pc := 463) g.1 (v := 0) d_Mo_init_463 (by decide) ?_
  refine nn_put (pc := 464) (r := 0) (k := 66) (n' := 174) g cl_Mo ⟨⟨rfl, by decide, by decide⟩, by decide +kernel⟩ (by decide) (Or.inl kn_200) (Or.inl rfl) e0 rfl rfl (Or.inr ⟨rfl, fN_dv (Or.inr ⟨by decide +kernel, (by decide), (fvI rfl rfl)⟩)⟩) d_Mo_init_464 ?_
  refine nn_aload_n (pc := 467) g.1 d_Mo_init_467 rfl (lv_at hl 0 rfl) ?_
  refine nn_lconst (pc := 468) g.1 (v := 0) d_Mo_init_468 (by decide) ?_
  refine nn_put (pc := 469) (r := 0) (k := 67) (n' := 174) g cl_Mo ⟨⟨rfl, by decide, by decide⟩, by decide +kernel⟩ (by decide) (Or.inl kn_201) (Or.inl rfl) e0 rfl rfl (Or.inr ⟨rfl, fN_dv (Or.inr ⟨by decide +kernel, (by decide), rfl⟩)⟩) d_Mo_init_469 ?_
  refine nn_aload_n (pc := 472) g.1 d_Mo_init_472 rfl (lv_at hl 0 rfl) ?_
  refine nn_sipush (pc := 473) g.1 (v := 4100) d_Mo_init_473 (by decide) ?_
  refine nn_arr (pc := 476) (r := 75) (i := 0) (N := 4100) (at0 := .int) (m := (m.1 + 752, m.2 + 817045)) g.gn rfl (by decide) ⟨rfl, by decide, by decide⟩ (by decide +kernel) (by decide) rfl (by decide) (by decide) (hm.le (by dsimp only; omega) (by dsimp only; omega)) kn_9 d_Mo_init_476 fun q476 a75 hk e75 hm => ?_
  have e0 : q476.1 0 0 = a0 := (hk 0 0 ⟨⟨rfl, by decide, by decide⟩, by decide +kernel⟩).trans e0
  have e41 : q476.1 41 0 = a41 := (hk 41 0 ⟨⟨rfl, by decide, by decide⟩, by decide +kernel⟩).trans e41
  have e42 : q476.1 42 0 = a42 := (hk 42 0 ⟨⟨rfl, by decide, by decide⟩, by decide +kernel⟩).trans e42
  have e43 : q476.1 43 0 = a43 := (hk 43 0 ⟨⟨rfl, by decide, by decide⟩, by decide +kernel⟩).trans e43
  have e44 : q476.1 44 0 = a44 := (hk 44 0 ⟨⟨rfl, by decide, by decide⟩, by decide +kernel⟩).trans e44
  have e45 : q476.1 45 0 = a45 := (hk 45 0 ⟨⟨rfl, by decide, by decide⟩, by decide +kernel⟩).trans e45
  have e46 : q476.1 46 0 = a46 := (hk 46 0 ⟨⟨rfl, by decide, by decide⟩, by decide +kernel⟩).trans e46
  have e47 : q476.1 47 0 = a47 := (hk 47 0 ⟨⟨rfl, by decide, by decide⟩, by decide +kernel⟩).trans e47
  have e48 : q476.1 48 0 = a48 := (hk 48 0 ⟨⟨rfl, by decide, by decide⟩, by decide +kernel⟩).trans e48
  have e49 : q476.1 49 0 = a49 := (hk 49 0 ⟨⟨rfl, by decide, by decide⟩, by decide +kernel⟩).trans e49
  have e50 : q476.1 50 0 = a50 := (hk 50 0 ⟨⟨rfl, by decide, by decide⟩, by decide +kernel⟩).trans e50
  have e51 : q476.1 51 0 = a51 := (hk 51 0 ⟨⟨rfl, by decide, by decide⟩, by decide +kernel⟩).trans e51
  have e52 : q476.1 52 0 = a52 := (hk 52 0 ⟨⟨rfl, by decide, by decide⟩, by decide +kernel⟩).trans e52
  have e53 : q476.1 53 0 = a53 := (hk 53 0 ⟨⟨rfl, by decide, by decide⟩, by decide +kernel⟩).trans e53
  have e54 : q476.1 54 0 = a54 := (hk 54 0 ⟨⟨rfl, by decide, by decide⟩, by decide +kernel⟩).trans e54
  have e55 : q476.1 55 0 = a55 := (hk 55 0 ⟨⟨rfl, by decide, by decide⟩, by decide +kernel⟩).trans e55
  have e56 : q476.1 56 0 = a56 := (hk 56 0 ⟨⟨rfl, by decide, by decide⟩, by decide +kernel⟩).trans e56
  have e1 : q476.1 1 0 = a1 := (hk 1 0 ⟨⟨rfl, by decide, by decide⟩, by decide +kernel⟩).trans e1
  have e57 : q476.1 57 0 = a57 := (hk 57 0 ⟨⟨rfl, by decide, by decide⟩, by decide +kernel⟩).trans e57
  have e58 : q476.1 58 0 = a58 := (hk 58 0 ⟨⟨rfl, by decide, by decide⟩, by decide +kernel⟩).trans e58
  have e59 : q476.1 59 0 = a59 := (hk 59 0 ⟨⟨rfl, by decide, by decide⟩, by decide +kernel⟩).trans e59
  have e60 : q476.1 60 0 = a60 := (hk 60 0 ⟨⟨rfl, by decide, by decide⟩, by decide +kernel⟩).trans e60
  have e61 : q476.1 61 0 = a61 := (hk 61 0 ⟨⟨rfl, by decide, by decide⟩, by decide +kernel⟩).trans e61
  have e62 : q476.1 62 0 = a62 := (hk 62 0 ⟨⟨rfl, by decide, by decide⟩, by decide +kernel⟩).trans e62
  have e63 : q476.1 63 0 = a63 := (hk 63 0 ⟨⟨rfl, by decide, by decide⟩, by decide +kernel⟩).trans e63
  have e64 : q476.1 64 0 = a64 := (hk 64 0 ⟨⟨rfl, by decide, by decide⟩, by decide +kernel⟩).trans e64
  have e65 : q476.1 65 0 = a65 := (hk 65 0 ⟨⟨rfl, by decide, by decide⟩, by decide +kernel⟩).trans e65
  have e66 : q476.1 66 0 = a66 := (hk 66 0 ⟨⟨rfl, by decide, by decide⟩, by decide +kernel⟩).trans e66
  have e67 : q476.1 67 0 = a67 := (hk 67 0 ⟨⟨rfl, by decide, by decide⟩, by decide +kernel⟩).trans e67
  have e68 : q476.1 68 0 = a68 := (hk 68 0 ⟨⟨rfl, by decide, by decide⟩, by decide +kernel⟩).trans e68
  have e4 : q476.1 4 0 = a4 := (hk 4 0 ⟨⟨rfl, by decide, by decide⟩, by decide +kernel⟩).trans e4
  have hkp := hkp.tr hk (by decide)
  refine nn_put (pc := 478) (r := 0) (k := 68) (n' := 176) g cl_Mo ⟨⟨rfl, by decide, by decide⟩, by decide +kernel⟩ (by decide) (Or.inl kn_202) (Or.inr ⟨rfl, hnm, rfl, kn_202⟩) e0 rfl rfl (Or.inl ⟨(by decide +kernel), rfl, (fvR rfl rfl e75)⟩) d_Mo_init_478 ?_
  refine nn_aload_n (pc := 481) g.1 d_Mo_init_481 rfl (lv_at hl 0 rfl) ?_
  refine nn_iconst (pc := 482) g.1 (v := 0) d_Mo_init_482 (by decide) ?_
  refine nn_put (pc := 483) (r := 0) (k := 69) (n' := 176) g cl_Mo ⟨⟨rfl, by decide, by decide⟩, by decide +kernel⟩ (by decide) (Or.inl kn_203) (Or.inl rfl) e0 rfl rfl (Or.inr ⟨rfl, fN_dv (Or.inr ⟨by decide +kernel, (by decide), (fvI rfl rfl)⟩)⟩) d_Mo_init_483 ?_
  refine nn_aload_n (pc := 486) g.1 d_Mo_init_486 rfl (lv_at hl 0 rfl) ?_
  refine nn_new (pc := 487) (r := 16) (i := 0) (m := (m.1 + 751, m.2 + 817042)) g.gn (cl_Va (i := 0) (Or.inl ⟨by decide, rfl⟩)) (by unfold dvC; decide +kernel) ⟨rfl, by decide, by decide⟩ (by decide +kernel) (hm.le (by dsimp only; omega) (by have z : nfF 16 = 3 := rfl; dsimp only; omega)) kn_143 kn_144 kn_145 d_Mo_init_487 fun q487 a16 hk e16 hm => ?_
  have e0 : q487.1 0 0 = a0 := (hk 0 0 ⟨⟨rfl, by decide, by decide⟩, by decide +kernel⟩).trans e0
  have e41 : q487.1 41 0 = a41 := (hk 41 0 ⟨⟨rfl, by decide, by decide⟩, by decide +kernel⟩).trans e41
  have e42 : q487.1 42 0 = a42 := (hk 42 0 ⟨⟨rfl, by decide, by decide⟩, by decide +kernel⟩).trans e42
  have e43 : q487.1 43 0 = a43 := (hk 43 0 ⟨⟨rfl, by decide, by decide⟩, by decide +kernel⟩).trans e43
  have e44 : q487.1 44 0 = a44 := (hk 44 0 ⟨⟨rfl, by decide, by decide⟩, by decide +kernel⟩).trans e44
  have e45 : q487.1 45 0 = a45 := (hk 45 0 ⟨⟨rfl, by decide, by decide⟩, by decide +kernel⟩).trans e45
  have e46 : q487.1 46 0 = a46 := (hk 46 0 ⟨⟨rfl, by decide, by decide⟩, by decide +kernel⟩).trans e46
  have e47 : q487.1 47 0 = a47 := (hk 47 0 ⟨⟨rfl, by decide, by decide⟩, by decide +kernel⟩).trans e47
  have e48 : q487.1 48 0 = a48 := (hk 48 0 ⟨⟨rfl, by decide, by decide⟩, by decide +kernel⟩).trans e48
  have e49 : q487.1 49 0 = a49 := (hk 49 0 ⟨⟨rfl, by decide, by decide⟩, by decide +kernel⟩).trans e49
  have e50 : q487.1 50 0 = a50 := (hk 50 0 ⟨⟨rfl, by decide, by decide⟩, by decide +kernel⟩).trans e50
  have e51 : q487.1 51 0 = a51 := (hk 51 0 ⟨⟨rfl, by decide, by decide⟩, by decide +kernel⟩).trans e51
  have e52 : q487.1 52 0 = a52 := (hk 52 0 ⟨⟨rfl, by decide, by decide⟩, by decide +kernel⟩).trans e52
  have e53 : q487.1 53 0 = a53 := (hk 53 0 ⟨⟨rfl, by decide, by decide⟩, by decide +kernel⟩).trans e53
  have e54 : q487.1 54 0 = a54 := (hk 54 0 ⟨⟨rfl, by decide, by decide⟩, by decide +kernel⟩).trans e54
  have e55 : q487.1 55 0 = a55 := (hk 55 0 ⟨⟨rfl, by decide, by decide⟩, by decide +kernel⟩).trans e55
  have e56 : q487.1 56 0 = a56 := (hk 56 0 ⟨⟨rfl, by decide, by decide⟩, by decide +kernel⟩).trans e56
  have e1 : q487.1 1 0 = a1 := (hk 1 0 ⟨⟨rfl, by decide, by decide⟩, by decide +kernel⟩).trans e1
  have e57 : q487.1 57 0 = a57 := (hk 57 0 ⟨⟨rfl, by decide, by decide⟩, by decide +kernel⟩).trans e57
  have e58 : q487.1 58 0 = a58 := (hk 58 0 ⟨⟨rfl, by decide, by decide⟩, by decide +kernel⟩).trans e58
  have e59 : q487.1 59 0 = a59 := (hk 59 0 ⟨⟨rfl, by decide, by decide⟩, by decide +kernel⟩).trans e59
  have e60 : q487.1 60 0 = a60 := (hk 60 0 ⟨⟨rfl, by decide, by decide⟩, by decide +kernel⟩).trans e60
  have e61 : q487.1 61 0 = a61 := (hk 61 0 ⟨⟨rfl, by decide, by decide⟩, by decide +kernel⟩).trans e61
  have e62 : q487.1 62 0 = a62 := (hk 62 0 ⟨⟨rfl, by decide, by decide⟩, by decide +kernel⟩).trans e62
  have e63 : q487.1 63 0 = a63 := (hk 63 0 ⟨⟨rfl, by decide, by decide⟩, by decide +kernel⟩).trans e63
  have e64 : q487.1 64 0 = a64 := (hk 64 0 ⟨⟨rfl, by decide, by decide⟩, by decide +kernel⟩).trans e64
  have e65 : q487.1 65 0 = a65 := (hk 65 0 ⟨⟨rfl, by decide, by decide⟩, by decide +kernel⟩).trans e65
  have e66 : q487.1 66 0 = a66 := (hk 66 0 ⟨⟨rfl, by decide, by decide⟩, by decide +kernel⟩).trans e66
  have e67 : q487.1 67 0 = a67 := (hk 67 0 ⟨⟨rfl, by decide, by decide⟩, by decide +kernel⟩).trans e67
  have e68 : q487.1 68 0 = a68 := (hk 68 0 ⟨⟨rfl, by decide, by decide⟩, by decide +kernel⟩).trans e68
  have e4 : q487.1 4 0 = a4 := (hk 4 0 ⟨⟨rfl, by decide, by decide⟩, by decide +kernel⟩).trans e4
  have e75 : q487.1 75 0 = a75 := (hk 75 0 ⟨⟨rfl, by decide, by decide⟩, by decide +kernel⟩).trans e75
  have hkp := hkp.tr hk (by decide)
  refine nn_dup (pc := 490) g.1 d_Mo_init_490 rfl ?_
  refine nn_bipush (pc := 491) g.1 (v := 64) d_Mo_init_491 (by decide) ?_
  refine nn_call (pc := 493) (rest := [.ref a16, .ref a0]) (m := (m.1 + 749, m.2 + 816914)) (As := [.int 64]) g.gn ci_Va_init (Or.inl kn_152) (cn_Va_16 (hm.le (by dsimp only; omega) (by dsimp only; omega)) e16) (hm.le (by dsimp only; omega) (by dsimp only; omega)) ⟨by decide, by decide⟩ rfl hl.1 (Nat.le_of_ble_eq_true rfl) d_Mo_init_493 rfl fun q493 hk hm => ?_
  have e0 : q493.1 0 0 = a0 := (hk 0 0 ⟨⟨rfl, by decide, by decide⟩, by decide +kernel⟩).trans e0
  have e41 : q493.1 41 0 = a41 := (hk 41 0 ⟨⟨rfl, by decide, by decide⟩, by decide +kernel⟩).trans e41
  have e42 : q493.1 42 0 = a42 := (hk 42 0 ⟨⟨rfl, by decide, by decide⟩, by decide +kernel⟩).trans e42
  have e43 : q493.1 43 0 = a43 := (hk 43 0 ⟨⟨rfl, by decide, by decide⟩, by decide +kernel⟩).trans e43
  have e44 : q493.1 44 0 = a44 := (hk 44 0 ⟨⟨rfl, by decide, by decide⟩, by decide +kernel⟩).trans e44
  have e45 : q493.1 45 0 = a45 := (hk 45 0 ⟨⟨rfl, by decide, by decide⟩, by decide +kernel⟩).trans e45
  have e46 : q493.1 46 0 = a46 := (hk 46 0 ⟨⟨rfl, by decide, by decide⟩, by decide +kernel⟩).trans e46
  have e47 : q493.1 47 0 = a47 := (hk 47 0 ⟨⟨rfl, by decide, by decide⟩, by decide +kernel⟩).trans e47
  have e48 : q493.1 48 0 = a48 := (hk 48 0 ⟨⟨rfl, by decide, by decide⟩, by decide +kernel⟩).trans e48
  have e49 : q493.1 49 0 = a49 := (hk 49 0 ⟨⟨rfl, by decide, by decide⟩, by decide +kernel⟩).trans e49
  have e50 : q493.1 50 0 = a50 := (hk 50 0 ⟨⟨rfl, by decide, by decide⟩, by decide +kernel⟩).trans e50
  have e51 : q493.1 51 0 = a51 := (hk 51 0 ⟨⟨rfl, by decide, by decide⟩, by decide +kernel⟩).trans e51
  have e52 : q493.1 52 0 = a52 := (hk 52 0 ⟨⟨rfl, by decide, by decide⟩, by decide +kernel⟩).trans e52
  have e53 : q493.1 53 0 = a53 := (hk 53 0 ⟨⟨rfl, by decide, by decide⟩, by decide +kernel⟩).trans e53
  have e54 : q493.1 54 0 = a54 := (hk 54 0 ⟨⟨rfl, by decide, by decide⟩, by decide +kernel⟩).trans e54
  have e55 : q493.1 55 0 = a55 := (hk 55 0 ⟨⟨rfl, by decide, by decide⟩, by decide +kernel⟩).trans e55
  have e56 : q493.1 56 0 = a56 := (hk 56 0 ⟨⟨rfl, by decide, by decide⟩, by decide +kernel⟩).trans e56
  have e1 : q493.1 1 0 = a1 := (hk 1 0 ⟨⟨rfl, by decide, by decide⟩, by decide +kernel⟩).trans e1
  have e57 : q493.1 57 0 = a57 := (hk 57 0 ⟨⟨rfl, by decide, by decide⟩, by decide +kernel⟩).trans e57
  have e58 : q493.1 58 0 = a58 := (hk 58 0 ⟨⟨rfl, by decide, by decide⟩, by decide +kernel⟩).trans e58
  have e59 : q493.1 59 0 = a59 := (hk 59 0 ⟨⟨rfl, by decide, by decide⟩, by decide +kernel⟩).trans e59
  have e60 : q493.1 60 0 = a60 := (hk 60 0 ⟨⟨rfl, by decide, by decide⟩, by decide +kernel⟩).trans e60
  have e61 : q493.1 61 0 = a61 := (hk 61 0 ⟨⟨rfl, by decide, by decide⟩, by decide +kernel⟩).trans e61
  have e62 : q493.1 62 0 = a62 := (hk 62 0 ⟨⟨rfl, by decide, by decide⟩, by decide +kernel⟩).trans e62
  have e63 : q493.1 63 0 = a63 := (hk 63 0 ⟨⟨rfl, by decide, by decide⟩, by decide +kernel⟩).trans e63
  have e64 : q493.1 64 0 = a64 := (hk 64 0 ⟨⟨rfl, by decide, by decide⟩, by decide +kernel⟩).trans e64
  have e65 : q493.1 65 0 = a65 := (hk 65 0 ⟨⟨rfl, by decide, by decide⟩, by decide +kernel⟩).trans e65
  have e66 : q493.1 66 0 = a66 := (hk 66 0 ⟨⟨rfl, by decide, by decide⟩, by decide +kernel⟩).trans e66
  have e67 : q493.1 67 0 = a67 := (hk 67 0 ⟨⟨rfl, by decide, by decide⟩, by decide +kernel⟩).trans e67
  have e68 : q493.1 68 0 = a68 := (hk 68 0 ⟨⟨rfl, by decide, by decide⟩, by decide +kernel⟩).trans e68
  have e4 : q493.1 4 0 = a4 := (hk 4 0 ⟨⟨rfl, by decide, by decide⟩, by decide +kernel⟩).trans e4
  have e75 : q493.1 75 0 = a75 := (hk 75 0 ⟨⟨rfl, by decide, by decide⟩, by decide +kernel⟩).trans e75
  have e16 : q493.1 16 0 = a16 := (hk 16 0 ⟨⟨rfl, by decide, by decide⟩, by decide +kernel⟩).trans e16
  have hkp := hkp.tr hk (by decide)
  refine nn_put (pc := 496) (r := 0) (k := 70) (n' := 182) g cl_Mo ⟨⟨rfl, by decide, by decide⟩, by decide +kernel⟩ (by decide) (Or.inl kn_204) (Or.inr ⟨rfl, hnm, rfl, kn_204⟩) e0 rfl rfl (Or.inl ⟨(by decide +kernel), rfl, (fvR rfl rfl e16)⟩) d_Mo_init_496 ?_
  refine nn_aload_n (pc := 499) g.1 d_Mo_init_499 rfl (lv_at hl 0 rfl) ?_
  refine nn_bipush (pc := 500) g.1 (v := 33) d_Mo_init_500 (by decide) ?_
  refine nn_anew (pc := 502) (r := 76) (i := 0) (N := 33) (m := (m.1 + 748, m.2 + 816881)) g.gn (by decide) ⟨rfl, by decide, by decide⟩ (by decide +kernel) (by decide) rfl (by decide) (by decide) (fun j hj => hz_76 j hj) (hm.le (by dsimp only; omega) (by dsimp only; omega)) kn_205 kxn_6 d_Mo_init_502 fun q502 a76 hk e76 hm => ?_
  have e0 : q502.1 0 0 = a0 := (hk 0 0 ⟨⟨rfl, by decide, by decide⟩, by decide +kernel⟩).trans e0
  have e41 : q502.1 41 0 = a41 := (hk 41 0 ⟨⟨rfl, by decide, by decide⟩, by decide +kernel⟩).trans e41
  have e42 : q502.1 42 0 = a42 := (hk 42 0 ⟨⟨rfl, by decide, by decide⟩, by decide +kernel⟩).trans e42
  have e43 : q502.1 43 0 = a43 := (hk 43 0 ⟨⟨rfl, by decide, by decide⟩, by decide +kernel⟩).trans e43
  have e44 : q502.1 44 0 = a44 := (hk 44 0 ⟨⟨rfl, by decide, by decide⟩, by decide +kernel⟩).trans e44
  have e45 : q502.1 45 0 = a45 := (hk 45 0 ⟨⟨rfl, by decide, by decide⟩, by decide +kernel⟩).trans e45
  have e46 : q502.1 46 0 = a46 := (hk 46 0 ⟨⟨rfl, by decide, by decide⟩, by decide +kernel⟩).trans e46
  have e47 : q502.1 47 0 = a47 := (hk 47 0 ⟨⟨rfl, by decide, by decide⟩, by decide +kernel⟩).trans e47
  have e48 : q502.1 48 0 = a48 := (hk 48 0 ⟨⟨rfl, by decide, by decide⟩, by decide +kernel⟩).trans e48
  have e49 : q502.1 49 0 = a49 := (hk 49 0 ⟨⟨rfl, by decide, by decide⟩, by decide +kernel⟩).trans e49
  have e50 : q502.1 50 0 = a50 := (hk 50 0 ⟨⟨rfl, by decide, by decide⟩, by decide +kernel⟩).trans e50
  have e51 : q502.1 51 0 = a51 := (hk 51 0 ⟨⟨rfl, by decide, by decide⟩, by decide +kernel⟩).trans e51
  have e52 : q502.1 52 0 = a52 := (hk 52 0 ⟨⟨rfl, by decide, by decide⟩, by decide +kernel⟩).trans e52
  have e53 : q502.1 53 0 = a53 := (hk 53 0 ⟨⟨rfl, by decide, by decide⟩, by decide +kernel⟩).trans e53
  have e54 : q502.1 54 0 = a54 := (hk 54 0 ⟨⟨rfl, by decide, by decide⟩, by decide +kernel⟩).trans e54
  have e55 : q502.1 55 0 = a55 := (hk 55 0 ⟨⟨rfl, by decide, by decide⟩, by decide +kernel⟩).trans e55
  have e56 : q502.1 56 0 = a56 := (hk 56 0 ⟨⟨rfl, by decide, by decide⟩, by decide +kernel⟩).trans e56
  have e1 : q502.1 1 0 = a1 := (hk 1 0 ⟨⟨rfl, by decide, by decide⟩, by decide +kernel⟩).trans e1
  have e57 : q502.1 57 0 = a57 := (hk 57 0 ⟨⟨rfl, by decide, by decide⟩, by decide +kernel⟩).trans e57
  have e58 : q502.1 58 0 = a58 := (hk 58 0 ⟨⟨rfl, by decide, by decide⟩, by decide +kernel⟩).trans e58
  have e59 : q502.1 59 0 = a59 := (hk 59 0 ⟨⟨rfl, by decide, by decide⟩, by decide +kernel⟩).trans e59
  have e60 : q502.1 60 0 = a60 := (hk 60 0 ⟨⟨rfl, by decide, by decide⟩, by decide +kernel⟩).trans e60
  have e61 : q502.1 61 0 = a61 := (hk 61 0 ⟨⟨rfl, by decide, by decide⟩, by decide +kernel⟩).trans e61
  have e62 : q502.1 62 0 = a62 := (hk 62 0 ⟨⟨rfl, by decide, by decide⟩, by decide +kernel⟩).trans e62
  have e63 : q502.1 63 0 = a63 := (hk 63 0 ⟨⟨rfl, by decide, by decide⟩, by decide +kernel⟩).trans e63
  have e64 : q502.1 64 0 = a64 := (hk 64 0 ⟨⟨rfl, by decide, by decide⟩, by decide +kernel⟩).trans e64
  have e65 : q502.1 65 0 = a65 := (hk 65 0 ⟨⟨rfl, by decide, by decide⟩, by decide +kernel⟩).trans e65
  have e66 : q502.1 66 0 = a66 := (hk 66 0 ⟨⟨rfl, by decide, by decide⟩, by decide +kernel⟩).trans e66
  have e67 : q502.1 67 0 = a67 := (hk 67 0 ⟨⟨rfl, by decide, by decide⟩, by decide +kernel⟩).trans e67
  have e68 : q502.1 68 0 = a68 := (hk 68 0 ⟨⟨rfl, by decide, by decide⟩, by decide +kernel⟩).trans e68
  have e4 : q502.1 4 0 = a4 := (hk 4 0 ⟨⟨rfl, by decide, by decide⟩, by decide +kernel⟩).trans e4
  have e75 : q502.1 75 0 = a75 := (hk 75 0 ⟨⟨rfl, by decide, by decide⟩, by decide +kernel⟩).trans e75
  have e16 : q502.1 16 0 = a16 := (hk 16 0 ⟨⟨rfl, by decide, by decide⟩, by decide +kernel⟩).trans e16
  have hkp := hkp.tr hk (by decide)
  refine nn_put (pc := 505) (r := 0) (k := 71) (n' := 184) g cl_Mo ⟨⟨rfl, by decide, by decide⟩, by decide +kernel⟩ (by decide) (Or.inl kn_206) (Or.inr ⟨rfl, hnm, rfl, kn_206⟩) e0 rfl rfl (Or.inl ⟨(by decide +kernel), rfl, (fvR rfl rfl e76)⟩) d_Mo_init_505 ?_
  refine nn_aload_n (pc := 508) g.1 d_Mo_init_508 rfl (lv_at hl 0 rfl) ?_
  refine nn_null (pc := 509) g.1 d_Mo_init_509 ?_
  refine nn_put (pc := 510) (r := 0) (k := 72) (n' := 184) g cl_Mo ⟨⟨rfl, by decide, by decide⟩, by decide +kernel⟩ (by decide) (Or.inl kn_207) (Or.inl rfl) e0 rfl rfl (Or.inr ⟨rfl, fN_dv (Or.inr ⟨by decide +kernel, (by decide), rfl⟩)⟩) d_Mo_init_510 ?_
  refine nn_aload_n (pc := 513) g.1 d_Mo_init_513 rfl (lv_at hl 0 rfl) ?_
  refine nn_iconst (pc := 514) g.1 (v := 0) d_Mo_init_514 (by decide) ?_
  refine nn_put (pc := 515) (r := 0) (k := 73) (n' := 184) g cl_Mo ⟨⟨rfl, by decide, by decide⟩, by decide +kernel⟩ (by decide) (Or.inl kn_208) (Or.inl rfl) e0 rfl rfl (Or.inr ⟨rfl, fN_dv (Or.inr ⟨by decide +kernel, (by decide), (fvI rfl rfl)⟩)⟩) d_Mo_init_515 ?_
  refine nn_aload_n (pc := 518) g.1 d_Mo_init_518 rfl (lv_at hl 0 rfl) ?_
  refine nn_iconst (pc := 519) g.1 (v := (-1)) d_Mo_init_519 (by decide) ?_
  refine nn_put (pc := 520) (r := 0) (k := 74) (n' := 185) g cl_Mo ⟨⟨rfl, by decide, by decide⟩, by decide +kernel⟩ (by decide) (Or.inl kn_209) (Or.inl rfl) e0 rfl rfl (Or.inl ⟨(by decide +kernel), rfl, (fvI rfl rfl)⟩) d_Mo_init_520 ?_
  refine nn_aload_n (pc := 523) g.1 d_Mo_init_523 rfl (lv_at hl 0 rfl) ?_
  refine nn_iconst (pc := 524) g.1 (v := 0) d_Mo_init_524 (by decide) ?_
  refine nn_put (pc := 525) (r := 0) (k := 75) (n' := 185) g cl_Mo ⟨⟨rfl, by decide, by decide⟩, by decide +kernel⟩ (by decide) (Or.inl kn_210) (Or.inl rfl) e0 rfl rfl (Or.inr ⟨rfl, fN_dv (Or.inr ⟨by decide +kernel, (by decide), (fvI rfl rfl)⟩)⟩) d_Mo_init_525 ?_
  refine nn_aload_n (pc := 528) g.1 d_Mo_init_528 rfl (lv_at hl 0 rfl) ?_
  refine nn_lconst (pc := 529) g.1 (v := 0) d_Mo_init_529 (by decide) ?_
  refine nn_put (pc := 530) (r := 0) (k := 76) (n' := 185) g cl_Mo ⟨⟨rfl, by decide, by decide⟩, by decide +kernel⟩ (by decide) (Or.inl kn_211) (Or.inl rfl) e0 rfl rfl (Or.inr ⟨rfl, fN_dv (Or.inr ⟨by decide +kernel, (by decide), rfl⟩)⟩) d_Mo_init_530 ?_
  refine nn_aload_n (pc := 533) g.1 d_Mo_init_533 rfl (lv_at hl 0 rfl) ?_
  refine nn_new (pc := 534) (r := 7) (i := 0) (m := (m.1 + 747, m.2 + 816878)) g.gn (cl_Va (i := 0) (Or.inl ⟨by decide, rfl⟩)) (by unfold dvC; decide +kernel) ⟨rfl, by decide, by decide⟩ (by decide +kernel) (hm.le (by dsimp only; omega) (by have z : nfF 7 = 3 := rfl; dsimp only; omega)) kn_143 kn_144 kn_145 d_Mo_init_534 fun q534 a7 hk e7 hm => ?_
  have e0 : q534.1 0 0 = a0 := (hk 0 0 ⟨⟨rfl, by decide, by decide⟩, by decide +kernel⟩).trans e0
  have e41 : q534.1 41 0 = a41 := (hk 41 0 ⟨⟨rfl, by decide, by decide⟩, by decide +kernel⟩).trans e41
  have e42 : q534.1 42 0 = a42 := (hk 42 0 ⟨⟨rfl, by decide, by decide⟩, by decide +kernel⟩).trans e42
  have e43 : q534.1 43 0 = a43 := (hk 43 0 ⟨⟨rfl, by decide, by decide⟩, by decide +kernel⟩).trans e43
  have e44 : q534.1 44 0 = a44 := (hk 44 0 ⟨⟨rfl, by decide, by decide⟩, by decide +kernel⟩).trans e44
  have e45 : q534.1 45 0 = a45 := (hk 45 0 ⟨⟨rfl, by decide, by decide⟩, by decide +kernel⟩).trans e45
  have e46 : q534.1 46 0 = a46 := (hk 46 0 ⟨⟨rfl, by decide, by decide⟩, by decide +kernel⟩).trans e46
  have e47 : q534.1 47 0 = a47 := (hk 47 0 ⟨⟨rfl, by decide, by decide⟩, by decide +kernel⟩).trans e47
  have e48 : q534.1 48 0 = a48 := (hk 48 0 ⟨⟨rfl, by decide, by decide⟩, by decide +kernel⟩).trans e48
  have e49 : q534.1 49 0 = a49 := (hk 49 0 ⟨⟨rfl, by decide, by decide⟩, by decide +kernel⟩).trans e49
  have e50 : q534.1 50 0 = a50 := (hk 50 0 ⟨⟨rfl, by decide, by decide⟩, by decide +kernel⟩).trans e50
  have e51 : q534.1 51 0 = a51 := (hk 51 0 ⟨⟨rfl, by decide, by decide⟩, by decide +kernel⟩).trans e51
  have e52 : q534.1 52 0 = a52 := (hk 52 0 ⟨⟨rfl, by decide, by decide⟩, by decide +kernel⟩).trans e52
  have e53 : q534.1 53 0 = a53 := (hk 53 0 ⟨⟨rfl, by decide, by decide⟩, by decide +kernel⟩).trans e53
  have e54 : q534.1 54 0 = a54 := (hk 54 0 ⟨⟨rfl, by decide, by decide⟩, by decide +kernel⟩).trans e54
  have e55 : q534.1 55 0 = a55 := (hk 55 0 ⟨⟨rfl, by decide, by decide⟩, by decide +kernel⟩).trans e55
  have e56 : q534.1 56 0 = a56 := (hk 56 0 ⟨⟨rfl, by decide, by decide⟩, by decide +kernel⟩).trans e56
  have e1 : q534.1 1 0 = a1 := (hk 1 0 ⟨⟨rfl, by decide, by decide⟩, by decide +kernel⟩).trans e1
  have e57 : q534.1 57 0 = a57 := (hk 57 0 ⟨⟨rfl, by decide, by decide⟩, by decide +kernel⟩).trans e57
  have e58 : q534.1 58 0 = a58 := (hk 58 0 ⟨⟨rfl, by decide, by decide⟩, by decide +kernel⟩).trans e58
  have e59 : q534.1 59 0 = a59 := (hk 59 0 ⟨⟨rfl, by decide, by decide⟩, by decide +kernel⟩).trans e59
  have e60 : q534.1 60 0 = a60 := (hk 60 0 ⟨⟨rfl, by decide, by decide⟩, by decide +kernel⟩).trans e60
  have e61 : q534.1 61 0 = a61 := (hk 61 0 ⟨⟨rfl, by decide, by decide⟩, by decide +kernel⟩).trans e61
  have e62 : q534.1 62 0 = a62 := (hk 62 0 ⟨⟨rfl, by decide, by decide⟩, by decide +kernel⟩).trans e62
  have e63 : q534.1 63 0 = a63 := (hk 63 0 ⟨⟨rfl, by decide, by decide⟩, by decide +kernel⟩).trans e63
  have e64 : q534.1 64 0 = a64 := (hk 64 0 ⟨⟨rfl, by decide, by decide⟩, by decide +kernel⟩).trans e64
  have e65 : q534.1 65 0 = a65 := (hk 65 0 ⟨⟨rfl, by decide, by decide⟩, by decide +kernel⟩).trans e65
  have e66 : q534.1 66 0 = a66 := (hk 66 0 ⟨⟨rfl, by decide, by decide⟩, by decide +kernel⟩).trans e66
  have e67 : q534.1 67 0 = a67 := (hk 67 0 ⟨⟨rfl, by decide, by decide⟩, by decide +kernel⟩).trans e67
  have e68 : q534.1 68 0 = a68 := (hk 68 0 ⟨⟨rfl, by decide, by decide⟩, by decide +kernel⟩).trans e68
  have e4 : q534.1 4 0 = a4 := (hk 4 0 ⟨⟨rfl, by decide, by decide⟩, by decide +kernel⟩).trans e4
  have e75 : q534.1 75 0 = a75 := (hk 75 0 ⟨⟨rfl, by decide, by decide⟩, by decide +kernel⟩).trans e75
  have e16 : q534.1 16 0 = a16 := (hk 16 0 ⟨⟨rfl, by decide, by decide⟩, by decide +kernel⟩).trans e16
  have e76 : q534.1 76 0 = a76 := (hk 76 0 ⟨⟨rfl, by decide, by decide⟩, by decide +kernel⟩).trans e76
  have hkp := hkp.tr hk (by decide)
  refine nn_dup (pc := 537) g.1 d_Mo_init_537 rfl ?_
  refine nn_sipush (pc := 538) g.1 (v := 400) d_Mo_init_538 (by decide) ?_
  refine nn_call (pc := 541) (rest := [.ref a7, .ref a0]) (m := (m.1 + 745, m.2 + 816078)) (As := [.int 400]) g.gn ci_Va_init (Or.inl kn_152) (cn_Va_7 (hm.le (by dsimp only; omega) (by dsimp only; omega)) e7) (hm.le (by dsimp only; omega) (by dsimp only; omega)) ⟨by decide, by decide⟩ rfl hl.1 (Nat.le_of_ble_eq_true rfl) d_Mo_init_541 rfl fun q541 hk hm => ?_
  have e0 : q541.1 0 0 = a0 := (hk 0 0 ⟨⟨rfl, by decide, by decide⟩, by decide +kernel⟩).trans e0
  have e41 : q541.1 41 0 = a41 := (hk 41 0 ⟨⟨rfl, by decide, by decide⟩, by decide +kernel⟩).trans e41
  have e42 : q541.1 42 0 = a42 := (hk 42 0 ⟨⟨rfl, by decide, by decide⟩, by decide +kernel⟩).trans e42
  have e43 : q541.1 43 0 = a43 := (hk 43 0 ⟨⟨rfl, by decide, by decide⟩, by decide +kernel⟩).trans e43
  have e44 : q541.1 44 0 = a44 := (hk 44 0 ⟨⟨rfl, by decide, by decide⟩, by decide +kernel⟩).trans e44
  have e45 : q541.1 45 0 = a45 := (hk 45 0 ⟨⟨rfl, by decide, by decide⟩, by decide +kernel⟩).trans e45
  have e46 : q541.1 46 0 = a46 := (hk 46 0 ⟨⟨rfl, by decide, by decide⟩, by decide +kernel⟩).trans e46
  have e47 : q541.1 47 0 = a47 := (hk 47 0 ⟨⟨rfl, by decide, by decide⟩, by decide +kernel⟩).trans e47
  have e48 : q541.1 48 0 = a48 := (hk 48 0 ⟨⟨rfl, by decide, by decide⟩, by decide +kernel⟩).trans e48
  have e49 : q541.1 49 0 = a49 := (hk 49 0 ⟨⟨rfl, by decide, by decide⟩, by decide +kernel⟩).trans e49
  have e50 : q541.1 50 0 = a50 := (hk 50 0 ⟨⟨rfl, by decide, by decide⟩, by decide +kernel⟩).trans e50
  have e51 : q541.1 51 0 = a51 := (hk 51 0 ⟨⟨rfl, by decide, by decide⟩, by decide +kernel⟩).trans e51
  have e52 : q541.1 52 0 = a52 := (hk 52 0 ⟨⟨rfl, by decide, by decide⟩, by decide +kernel⟩).trans e52
  have e53 : q541.1 53 0 = a53 := (hk 53 0 ⟨⟨rfl, by decide, by decide⟩, by decide +kernel⟩).trans e53
  have e54 : q541.1 54 0 = a54 := (hk 54 0 ⟨⟨rfl, by decide, by decide⟩, by decide +kernel⟩).trans e54
  have e55 : q541.1 55 0 = a55 := (hk 55 0 ⟨⟨rfl, by decide, by decide⟩, by decide +kernel⟩).trans e55
  have e56 : q541.1 56 0 = a56 := (hk 56 0 ⟨⟨rfl, by decide, by decide⟩, by decide +kernel⟩).trans e56
  have e1 : q541.1 1 0 = a1 := (hk 1 0 ⟨⟨rfl, by decide, by decide⟩, by decide +kernel⟩).trans e1
  have e57 : q541.1 57 0 = a57 := (hk 57 0 ⟨⟨rfl, by decide, by decide⟩, by decide +kernel⟩).trans e57
  have e58 : q541.1 58 0 = a58 := (hk 58 0 ⟨⟨rfl, by decide, by decide⟩, by decide +kernel⟩).trans e58
  have e59 : q541.1 59 0 = a59 := (hk 59 0 ⟨⟨rfl, by decide, by decide⟩, by decide +kernel⟩).trans e59
  have e60 : q541.1 60 0 = a60 := (hk 60 0 ⟨⟨rfl, by decide, by decide⟩, by decide +kernel⟩).trans e60
  have e61 : q541.1 61 0 = a61 := (hk 61 0 ⟨⟨rfl, by decide, by decide⟩, by decide +kernel⟩).trans e61
  have e62 : q541.1 62 0 = a62 := (hk 62 0 ⟨⟨rfl, by decide, by decide⟩, by decide +kernel⟩).trans e62
  have e63 : q541.1 63 0 = a63 := (hk 63 0 ⟨⟨rfl, by decide, by decide⟩, by decide +kernel⟩).trans e63
  have e64 : q541.1 64 0 = a64 := (hk 64 0 ⟨⟨rfl, by decide, by decide⟩, by decide +kernel⟩).trans e64
  have e65 : q541.1 65 0 = a65 := (hk 65 0 ⟨⟨rfl, by decide, by decide⟩, by decide +kernel⟩).trans e65
  have e66 : q541.1 66 0 = a66 := (hk 66 0 ⟨⟨rfl, by decide, by decide⟩, by decide +kernel⟩).trans e66
  have e67 : q541.1 67 0 = a67 := (hk 67 0 ⟨⟨rfl, by decide, by decide⟩, by decide +kernel⟩).trans e67
  have e68 : q541.1 68 0 = a68 := (hk 68 0 ⟨⟨rfl, by decide, by decide⟩, by decide +kernel⟩).trans e68
  have e4 : q541.1 4 0 = a4 := (hk 4 0 ⟨⟨rfl, by decide, by decide⟩, by decide +kernel⟩).trans e4
  have e75 : q541.1 75 0 = a75 := (hk 75 0 ⟨⟨rfl, by decide, by decide⟩, by decide +kernel⟩).trans e75
  have e16 : q541.1 16 0 = a16 := (hk 16 0 ⟨⟨rfl, by decide, by decide⟩, by decide +kernel⟩).trans e16
  have e76 : q541.1 76 0 = a76 := (hk 76 0 ⟨⟨rfl, by decide, by decide⟩, by decide +kernel⟩).trans e76
  have e7 : q541.1 7 0 = a7 := (hk 7 0 ⟨⟨rfl, by decide, by decide⟩, by decide +kernel⟩).trans e7
  have hkp := hkp.tr hk (by decide)
  refine nn_put (pc := 544) (r := 0) (k := 77) (n' := 191) g cl_Mo ⟨⟨rfl, by decide, by decide⟩, by decide +kernel⟩ (by decide) (Or.inl kn_212) (Or.inr ⟨rfl, hnm, rfl, kn_212⟩) e0 rfl rfl (Or.inl ⟨(by decide +kernel), rfl, (fvR rfl rfl e7)⟩) d_Mo_init_544 ?_
  refine nn_aload_n (pc := 547) g.1 d_Mo_init_547 rfl (lv_at hl 0 rfl) ?_
  refine nn_new (pc := 548) (r := 10) (i := 0) (m := (m.1 + 744, m.2 + 816075)) g.gn (cl_Va (i := 0) (Or.inl ⟨by decide, rfl⟩)) (by unfold dvC; decide +kernel) ⟨rfl, by decide, by decide⟩ (by decide +kernel) (hm.le (by dsimp only; omega) (by have z : nfF 10 = 3 := rfl; dsimp only; omega)) kn_143 kn_144 kn_145 d_Mo_init_548 fun q548 a10 hk e10 hm => ?_
  have e0 : q548.1 0 0 = a0 := (hk 0 0 ⟨⟨rfl, by decide, by decide⟩, by decide +kernel⟩).trans e0
  have e41 : q548.1 41 0 = a41 := (hk 41 0 ⟨⟨rfl, by decide, by decide⟩, by decide +kernel⟩).trans e41
  have e42 : q548.1 42 0 = a42 := (hk 42 0 ⟨⟨rfl, by decide, by decide⟩, by decide +kernel⟩).trans e42
  have e43 : q548.1 43 0 = a43 := (hk 43 0 ⟨⟨rfl, by decide, by decide⟩, by decide +kernel⟩).trans e43
  have e44 : q548.1 44 0 = a44 := (hk 44 0 ⟨⟨rfl, by decide, by decide⟩, by decide +kernel⟩).trans e44
  have e45 : q548.1 45 0 = a45 := (hk 45 0 ⟨⟨rfl, by decide, by decide⟩, by decide +kernel⟩).trans e45
  have e46 : q548.1 46 0 = a46 := (hk 46 0 ⟨⟨rfl, by decide, by decide⟩, by decide +kernel⟩).trans e46
  have e47 : q548.1 47 0 = a47 := (hk 47 0 ⟨⟨rfl, by decide, by decide⟩, by decide +kernel⟩).trans e47
  have e48 : q548.1 48 0 = a48 := (hk 48 0 ⟨⟨rfl, by decide, by decide⟩, by decide +kernel⟩).trans e48
  have e49 : q548.1 49 0 = a49 := (hk 49 0 ⟨⟨rfl, by decide, by decide⟩, by decide +kernel⟩).trans e49
  have e50 : q548.1 50 0 = a50 := (hk 50 0 ⟨⟨rfl, by decide, by decide⟩, by decide +kernel⟩).trans e50
  have e51 : q548.1 51 0 = a51 := (hk 51 0 ⟨⟨rfl, by decide, by decide⟩, by decide +kernel⟩).trans e51
  have e52 : q548.1 52 0 = a52 := (hk 52 0 ⟨⟨rfl, by decide, by decide⟩, by decide +kernel⟩).trans e52
  have e53 : q548.1 53 0 = a53 := (hk 53 0 ⟨⟨rfl, by decide, by decide⟩, by decide +kernel⟩).trans e53
  have e54 : q548.1 54 0 = a54 := (hk 54 0 ⟨⟨rfl, by decide, by decide⟩, by decide +kernel⟩).trans e54
  have e55 : q548.1 55 0 = a55 := (hk 55 0 ⟨⟨rfl, by decide, by decide⟩, by decide +kernel⟩).trans e55
  have e56 : q548.1 56 0 = a56 := (hk 56 0 ⟨⟨rfl, by decide, by decide⟩, by decide +kernel⟩).trans e56
  have e1 : q548.1 1 0 = a1 := (hk 1 0 ⟨⟨rfl, by decide, by decide⟩, by decide +kernel⟩).trans e1
  have e57 : q548.1 57 0 = a57 := (hk 57 0 ⟨⟨rfl, by decide, by decide⟩, by decide +kernel⟩).trans e57
  have e58 : q548.1 58 0 = a58 := (hk 58 0 ⟨⟨rfl, by decide, by decide⟩, by decide +kernel⟩).trans e58
  have e59 : q548.1 59 0 = a59 := (hk 59 0 ⟨⟨rfl, by decide, by decide⟩, by decide +kernel⟩).trans e59
  have e60 : q548.1 60 0 = a60 := (hk 60 0 ⟨⟨rfl, by decide, by decide⟩, by decide +kernel⟩).trans e60
  have e61 : q548.1 61 0 = a61 := (hk 61 0 ⟨⟨rfl, by decide, by decide⟩, by decide +kernel⟩).trans e61
  have e62 : q548.1 62 0 = a62 := (hk 62 0 ⟨⟨rfl, by decide, by decide⟩, by decide +kernel⟩).trans e62
  have e63 : q548.1 63 0 = a63 := (hk 63 0 ⟨⟨rfl, by decide, by decide⟩, by decide +kernel⟩).trans e63
  have e64 : q548.1 64 0 = a64 := (hk 64 0 ⟨⟨rfl, by decide, by decide⟩, by decide +kernel⟩).trans e64
  have e65 : q548.1 65 0 = a65 := (hk 65 0 ⟨⟨rfl, by decide, by decide⟩, by decide +kernel⟩).trans e65
  have e66 : q548.1 66 0 = a66 := (hk 66 0 ⟨⟨rfl, by decide, by decide⟩, by decide +kernel⟩).trans e66
  have e67 : q548.1 67 0 = a67 := (hk 67 0 ⟨⟨rfl, by decide, by decide⟩, by decide +kernel⟩).trans e67
  have e68 : q548.1 68 0 = a68 := (hk 68 0 ⟨⟨rfl, by decide, by decide⟩, by decide +kernel⟩).trans e68
  have e4 : q548.1 4 0 = a4 := (hk 4 0 ⟨⟨rfl, by decide, by decide⟩, by decide +kernel⟩).trans e4
  have e75 : q548.1 75 0 = a75 := (hk 75 0 ⟨⟨rfl, by decide, by decide⟩, by decide +kernel⟩).trans e75
  have e16 : q548.1 16 0 = a16 := (hk 16 0 ⟨⟨rfl, by decide, by decide⟩, by decide +kernel⟩).trans e16
  have e76 : q548.1 76 0 = a76 := (hk 76 0 ⟨⟨rfl, by decide, by decide⟩, by decide +kernel⟩).trans e76
  have e7 : q548.1 7 0 = a7 := (hk 7 0 ⟨⟨rfl, by decide, by decide⟩, by decide +kernel⟩).trans e7
  have hkp := hkp.tr hk (by decide)
  refine nn_dup (pc := 551) g.1 d_Mo_init_551 rfl ?_
  refine nn_sipush (pc := 552) g.1 (v := 400) d_Mo_init_552 (by decide) ?_
  refine nn_call (pc := 555) (rest := [.ref a10, .ref a0]) (m := (m.1 + 742, m.2 + 815275)) (As := [.int 400]) g.gn ci_Va_init (Or.inl kn_152) (cn_Va_10 (hm.le (by dsimp only; omega) (by dsimp only; omega)) e10) (hm.le (by dsimp only; omega) (by dsimp only; omega)) ⟨by decide, by decide⟩ rfl hl.1 (Nat.le_of_ble_eq_true rfl) d_Mo_init_555 rfl fun q555 hk hm => ?_
  have e0 : q555.1 0 0 = a0 := (hk 0 0 ⟨⟨rfl, by decide, by decide⟩, by decide +kernel⟩).trans e0
  have e41 : q555.1 41 0 = a41 := (hk 41 0 ⟨⟨rfl, by decide, by decide⟩, by decide +kernel⟩).trans e41
  have e42 : q555.1 42 0 = a42 := (hk 42 0 ⟨⟨rfl, by decide, by decide⟩, by decide +kernel⟩).trans e42
  have e43 : q555.1 43 0 = a43 := (hk 43 0 ⟨⟨rfl, by decide, by decide⟩, by decide +kernel⟩).trans e43
  have e44 : q555.1 44 0 = a44 := (hk 44 0 ⟨⟨rfl, by decide, by decide⟩, by decide +kernel⟩).trans e44
  have e45 : q555.1 45 0 = a45 := (hk 45 0 ⟨⟨rfl, by decide, by decide⟩, by decide +kernel⟩).trans e45
  have e46 : q555.1 46 0 = a46 := (hk 46 0 ⟨⟨rfl, by decide, by decide⟩, by decide +kernel⟩).trans e46
  have e47 : q555.1 47 0 = a47 := (hk 47 0 ⟨⟨rfl, by decide, by decide⟩, by decide +kernel⟩).trans e47
  have e48 : q555.1 48 0 = a48 := (hk 48 0 ⟨⟨rfl, by decide, by decide⟩, by decide +kernel⟩).trans e48
  have e49 : q555.1 49 0 = a49 := (hk 49 0 ⟨⟨rfl, by decide, by decide⟩, by decide +kernel⟩).trans e49
  have e50 : q555.1 50 0 = a50 := (hk 50 0 ⟨⟨rfl, by decide, by decide⟩, by decide +kernel⟩).trans e50
  have e51 : q555.1 51 0 = a51 := (hk 51 0 ⟨⟨rfl, by decide, by decide⟩, by decide +kernel⟩).trans e51
  have e52 : q555.1 52 0 = a52 := (hk 52 0 ⟨⟨rfl, by decide, by decide⟩, by decide +kernel⟩).trans e52
  have e53 : q555.1 53 0 = a53 := (hk 53 0 ⟨⟨rfl, by decide, by decide⟩, by decide +kernel⟩).trans e53
  have e54 : q555.1 54 0 = a54 := (hk 54 0 ⟨⟨rfl, by decide, by decide⟩, by decide +kernel⟩).trans e54
  have e55 : q555.1 55 0 = a55 := (hk 55 0 ⟨⟨rfl, by decide, by decide⟩, by decide +kernel⟩).trans e55
  have e56 : q555.1 56 0 = a56 := (hk 56 0 ⟨⟨rfl, by decide, by decide⟩, by decide +kernel⟩).trans e56
  have e1 : q555.1 1 0 = a1 := (hk 1 0 ⟨⟨rfl, by decide, by decide⟩, by decide +kernel⟩).trans e1
  have e57 : q555.1 57 0 = a57 := (hk 57 0 ⟨⟨rfl, by decide, by decide⟩, by decide +kernel⟩).trans e57
  have e58 : q555.1 58 0 = a58 := (hk 58 0 ⟨⟨rfl, by decide, by decide⟩, by decide +kernel⟩).trans e58
  have e59 : q555.1 59 0 = a59 := (hk 59 0 ⟨⟨rfl, by decide, by decide⟩, by decide +kernel⟩).trans e59
  have e60 : q555.1 60 0 = a60 := (hk 60 0 ⟨⟨rfl, by decide, by decide⟩, by decide +kernel⟩).trans e60
  have e61 : q555.1 61 0 = a61 := (hk 61 0 ⟨⟨rfl, by decide, by decide⟩, by decide +kernel⟩).trans e61
  have e62 : q555.1 62 0 = a62 := (hk 62 0 ⟨⟨rfl, by decide, by decide⟩, by decide +kernel⟩).trans e62
  have e63 : q555.1 63 0 = a63 := (hk 63 0 ⟨⟨rfl, by decide, by decide⟩, by decide +kernel⟩).trans e63
  have e64 : q555.1 64 0 = a64 := (hk 64 0 ⟨⟨rfl, by decide, by decide⟩, by decide +kernel⟩).trans e64
  have e65 : q555.1 65 0 = a65 := (hk 65 0 ⟨⟨rfl, by decide, by decide⟩, by decide +kernel⟩).trans e65
  have e66 : q555.1 66 0 = a66 := (hk 66 0 ⟨⟨rfl, by decide, by decide⟩, by decide +kernel⟩).trans e66
  have e67 : q555.1 67 0 = a67 := (hk 67 0 ⟨⟨rfl, by decide, by decide⟩, by decide +kernel⟩).trans e67
  have e68 : q555.1 68 0 = a68 := (hk 68 0 ⟨⟨rfl, by decide, by decide⟩, by decide +kernel⟩).trans e68
  have e4 : q555.1 4 0 = a4 := (hk 4 0 ⟨⟨rfl, by decide, by decide⟩, by decide +kernel⟩).trans e4
  have e75 : q555.1 75 0 = a75 := (hk 75 0 ⟨⟨rfl, by decide, by decide⟩, by decide +kernel⟩).trans e75
  have e16 : q555.1 16 0 = a16 := (hk 16 0 ⟨⟨rfl, by decide, by decide⟩, by decide +kernel⟩).trans e16
  have e76 : q555.1 76 0 = a76 := (hk 76 0 ⟨⟨rfl, by decide, by decide⟩, by decide +kernel⟩).trans e76
  have e7 : q555.1 7 0 = a7 := (hk 7 0 ⟨⟨rfl, by decide, by decide⟩, by decide +kernel⟩).trans e7
  have e10 : q555.1 10 0 = a10 := (hk 10 0 ⟨⟨rfl, by decide, by decide⟩, by decide +kernel⟩).trans e10
  have hkp := hkp.tr hk (by decide)
  refine nn_put (pc := 558) (r := 0) (k := 78) (n' := 197) g cl_Mo ⟨⟨rfl, by decide, by decide⟩, by decide +kernel⟩ (by decide) (Or.inl kn_213) (Or.inr ⟨rfl, hnm, rfl, kn_213⟩) e0 rfl rfl (Or.inl ⟨(by decide +kernel), rfl, (fvR rfl rfl e10)⟩) d_Mo_init_558 ?_
  refine nn_aload_n (pc := 561) g.1 d_Mo_init_561 rfl (lv_at hl 0 rfl) ?_
  refine nn_new (pc := 562) (r := 13) (i := 0) (m := (m.1 + 741, m.2 + 815272)) g.gn (cl_Va (i := 0) (Or.inl ⟨by decide, rfl⟩)) (by unfold dvC; decide +kernel) ⟨rfl, by decide, by decide⟩ (by decide +kernel) (hm.le (by dsimp only; omega) (by have z : nfF 13 = 3 := rfl; dsimp only; omega)) kn_143 kn_144 kn_145 d_Mo_init_562 fun q562 a13 hk e13 hm => ?_
  have e0 : q562.1 0 0 = a0 := (hk 0 0 ⟨⟨rfl, by decide, by decide⟩, by decide +kernel⟩).trans e0
  have e41 : q562.1 41 0 = a41 := (hk 41 0 ⟨⟨rfl, by decide, by decide⟩, by decide +kernel⟩).trans e41
  have e42 : q562.1 42 0 = a42 := (hk 42 0 ⟨⟨rfl, by decide, by decide⟩, by decide +kernel⟩).trans e42
  have e43 : q562.1 43 0 = a43 := (hk 43 0 ⟨⟨rfl, by decide, by decide⟩, by decide +kernel⟩).trans e43
  have e44 : q562.1 44 0 = a44 := (hk 44 0 ⟨⟨rfl, by decide, by decide⟩, by decide +kernel⟩).trans e44
  have e45 : q562.1 45 0 = a45 := (hk 45 0 ⟨⟨rfl, by decide, by decide⟩, by decide +kernel⟩).trans e45
  have e46 : q562.1 46 0 = a46 := (hk 46 0 ⟨⟨rfl, by decide, by decide⟩, by decide +kernel⟩).trans e46
  have e47 : q562.1 47 0 = a47 := (hk 47 0 ⟨⟨rfl, by decide, by decide⟩, by decide +kernel⟩).trans e47
  have e48 : q562.1 48 0 = a48 := (hk 48 0 ⟨⟨rfl, by decide, by decide⟩, by decide +kernel⟩).trans e48
  have e49 : q562.1 49 0 = a49 := (hk 49 0 ⟨⟨rfl, by decide, by decide⟩, by decide +kernel⟩).trans e49
  have e50 : q562.1 50 0 = a50 := (hk 50 0 ⟨⟨rfl, by decide, by decide⟩, by decide +kernel⟩).trans e50
  have e51 : q562.1 51 0 = a51 := (hk 51 0 ⟨⟨rfl, by decide, by decide⟩, by decide +kernel⟩).trans e51
  have e52 : q562.1 52 0 = a52 := (hk 52 0 ⟨⟨rfl, by decide, by decide⟩, by decide +kernel⟩).trans e52
  have e53 : q562.1 53 0 = a53 := (hk 53 0 ⟨⟨rfl, by decide, by decide⟩, by decide +kernel⟩).trans e53
  have e54 : q562.1 54 0 = a54 := (hk 54 0 ⟨⟨rfl, by decide, by decide⟩, by decide +kernel⟩).trans e54
  have e55 : q562.1 55 0 = a55 := (hk 55 0 ⟨⟨rfl, by decide, by decide⟩, by decide +kernel⟩).trans e55
  have e56 : q562.1 56 0 = a56 := (hk 56 0 ⟨⟨rfl, by decide, by decide⟩, by decide +kernel⟩).trans e56
  have e1 : q562.1 1 0 = a1 := (hk 1 0 ⟨⟨rfl, by decide, by decide⟩, by decide +kernel⟩).trans e1
  have e57 : q562.1 57 0 = a57 := (hk 57 0 ⟨⟨rfl, by decide, by decide⟩, by decide +kernel⟩).trans e57
  have e58 : q562.1 58 0 = a58 := (hk 58 0 ⟨⟨rfl, by decide, by decide⟩, by decide +kernel⟩).trans e58
  have e59 : q562.1 59 0 = a59 := (hk 59 0 ⟨⟨rfl, by decide, by decide⟩, by decide +kernel⟩).trans e59
  have e60 : q562.1 60 0 = a60 := (hk 60 0 ⟨⟨rfl, by decide, by decide⟩, by decide +kernel⟩).trans e60
  have e61 : q562.1 61 0 = a61 := (hk 61 0 ⟨⟨rfl, by decide, by decide⟩, by decide +kernel⟩).trans e61
  have e62 : q562.1 62 0 = a62 := (hk 62 0 ⟨⟨rfl, by decide, by decide⟩, by decide +kernel⟩).trans e62
  have e63 : q562.1 63 0 = a63 := (hk 63 0 ⟨⟨rfl, by decide, by decide⟩, by decide +kernel⟩).trans e63
  have e64 : q562.1 64 0 = a64 := (hk 64 0 ⟨⟨rfl, by decide, by decide⟩, by decide +kernel⟩).trans e64
  have e65 : q562.1 65 0 = a65 := (hk 65 0 ⟨⟨rfl, by decide, by decide⟩, by decide +kernel⟩).trans e65
  have e66 : q562.1 66 0 = a66 := (hk 66 0 ⟨⟨rfl, by decide, by decide⟩, by decide +kernel⟩).trans e66
  have e67 : q562.1 67 0 = a67 := (hk 67 0 ⟨⟨rfl, by decide, by decide⟩, by decide +kernel⟩).trans e67
  have e68 : q562.1 68 0 = a68 := (hk 68 0 ⟨⟨rfl, by decide, by decide⟩, by decide +kernel⟩).trans e68
  have e4 : q562.1 4 0 = a4 := (hk 4 0 ⟨⟨rfl, by decide, by decide⟩, by decide +kernel⟩).trans e4
  have e75 : q562.1 75 0 = a75 := (hk 75 0 ⟨⟨rfl, by decide, by decide⟩, by decide +kernel⟩).trans e75
  have e16 : q562.1 16 0 = a16 := (hk 16 0 ⟨⟨rfl, by decide, by decide⟩, by decide +kernel⟩).trans e16
  have e76 : q562.1 76 0 = a76 := (hk 76 0 ⟨⟨rfl, by decide, by decide⟩, by decide +kernel⟩).trans e76
  have e7 : q562.1 7 0 = a7 := (hk 7 0 ⟨⟨rfl, by decide, by decide⟩, by decide +kernel⟩).trans e7
  have e10 : q562.1 10 0 = a10 := (hk 10 0 ⟨⟨rfl, by decide, by decide⟩, by decide +kernel⟩).trans e10
  have hkp := hkp.tr hk (by decide)
  refine nn_dup (pc := 565) g.1 d_Mo_init_565 rfl ?_
  refine nn_sipush (pc := 566) g.1 (v := 400) d_Mo_init_566 (by decide) ?_
  refine nn_call (pc := 569) (rest := [.ref a13, .ref a0]) (m := (m.1 + 739, m.2 + 814472)) (As := [.int 400]) g.gn ci_Va_init (Or.inl kn_152) (cn_Va_13 (hm.le (by dsimp only; omega) (by dsimp only; omega)) e13) (hm.le (by dsimp only; omega) (by dsimp only; omega)) ⟨by decide, by decide⟩ rfl hl.1 (Nat.le_of_ble_eq_true rfl) d_Mo_init_569 rfl fun q569 hk hm => ?_
  have e0 : q569.1 0 0 = a0 := (hk 0 0 ⟨⟨rfl, by decide, by decide⟩, by decide +kernel⟩).trans e0
  have e41 : q569.1 41 0 = a41 := (hk 41 0 ⟨⟨rfl, by decide, by decide⟩, by decide +kernel⟩).trans e41
  have e42 : q569.1 42 0 = a42 := (hk 42 0 ⟨⟨rfl, by decide, by decide⟩, by decide +kernel⟩).trans e42
  have e43 : q569.1 43 0 = a43 := (hk 43 0 ⟨⟨rfl, by decide, by decide⟩, by decide +kernel⟩).trans e43
  have e44 : q569.1 44 0 = a44 := (hk 44 0 ⟨⟨rfl, by decide, by decide⟩, by decide +kernel⟩).trans e44
  have e45 : q569.1 45 0 = a45 := (hk 45 0 ⟨⟨rfl, by decide, by decide⟩, by decide +kernel⟩).trans e45
  have e46 : q569.1 46 0 = a46 := (hk 46 0 ⟨⟨rfl, by decide, by decide⟩, by decide +kernel⟩).trans e46
  have e47 : q569.1 47 0 = a47 := (hk 47 0 ⟨⟨rfl, by decide, by decide⟩, by decide +kernel⟩).trans e47
  have e48 : q569.1 48 0 = a48 := (hk 48 0 ⟨⟨rfl, by decide, by decide⟩, by decide +kernel⟩).trans e48
  have e49 : q569.1 49 0 = a49 := (hk 49 0 ⟨⟨rfl, by decide, by decide⟩, by decide +kernel⟩).trans e49
  have e50 : q569.1 50 0 = a50 := (hk 50 0 ⟨⟨rfl, by decide, by decide⟩, by decide +kernel⟩).trans e50
  have e51 : q569.1 51 0 = a51 := (hk 51 0 ⟨⟨rfl, by decide, by decide⟩, by decide +kernel⟩).trans e51
  have e52 : q569.1 52 0 = a52 := (hk 52 0 ⟨⟨rfl, by decide, by decide⟩, by decide +kernel⟩).trans e52
  have e53 : q569.1 53 0 = a53 := (hk 53 0 ⟨⟨rfl, by decide, by decide⟩, by decide +kernel⟩).trans e53
  have e54 : q569.1 54 0 = a54 := (hk 54 0 ⟨⟨rfl, by decide, by decide⟩, by decide +kernel⟩).trans e54
  have e55 : q569.1 55 0 = a55 := (hk 55 0 ⟨⟨rfl, by decide, by decide⟩, by decide +kernel⟩).trans e55
  have e56 : q569.1 56 0 = a56 := (hk 56 0 ⟨⟨rfl, by decide, by decide⟩, by decide +kernel⟩).trans e56
  have e1 : q569.1 1 0 = a1 := (hk 1 0 ⟨⟨rfl, by decide, by decide⟩, by decide +kernel⟩).trans e1
  have e57 : q569.1 57 0 = a57 := (hk 57 0 ⟨⟨rfl, by decide, by decide⟩, by decide +kernel⟩).trans e57
  have e58 : q569.1 58 0 = a58 := (hk 58 0 ⟨⟨rfl, by decide, by decide⟩, by decide +kernel⟩).trans e58
  have e59 : q569.1 59 0 = a59 := (hk 59 0 ⟨⟨rfl, by decide, by decide⟩, by decide +kernel⟩).trans e59
  have e60 : q569.1 60 0 = a60 := (hk 60 0 ⟨⟨rfl, by decide, by decide⟩, by decide +kernel⟩).trans e60
  have e61 : q569.1 61 0 = a61 := (hk 61 0 ⟨⟨rfl, by decide, by decide⟩, by decide +kernel⟩).trans e61
  have e62 : q569.1 62 0 = a62 := (hk 62 0 ⟨⟨rfl, by decide, by decide⟩, by decide +kernel⟩).trans e62
  have e63 : q569.1 63 0 = a63 := (hk 63 0 ⟨⟨rfl, by decide, by decide⟩, by decide +kernel⟩).trans e63
  have e64 : q569.1 64 0 = a64 := (hk 64 0 ⟨⟨rfl, by decide, by decide⟩, by decide +kernel⟩).trans e64
  have e65 : q569.1 65 0 = a65 := (hk 65 0 ⟨⟨rfl, by decide, by decide⟩, by decide +kernel⟩).trans e65
  have e66 : q569.1 66 0 = a66 := (hk 66 0 ⟨⟨rfl, by decide, by decide⟩, by decide +kernel⟩).trans e66
  have e67 : q569.1 67 0 = a67 := (hk 67 0 ⟨⟨rfl, by decide, by decide⟩, by decide +kernel⟩).trans e67
  have e68 : q569.1 68 0 = a68 := (hk 68 0 ⟨⟨rfl, by decide, by decide⟩, by decide +kernel⟩).trans e68
  have e4 : q569.1 4 0 = a4 := (hk 4 0 ⟨⟨rfl, by decide, by decide⟩, by decide +kernel⟩).trans e4
  have e75 : q569.1 75 0 = a75 := (hk 75 0 ⟨⟨rfl, by decide, by decide⟩, by decide +kernel⟩).trans e75
  have e16 : q569.1 16 0 = a16 := (hk 16 0 ⟨⟨rfl, by decide, by decide⟩, by decide +kernel⟩).trans e16
  have e76 : q569.1 76 0 = a76 := (hk 76 0 ⟨⟨rfl, by decide, by decide⟩, by decide +kernel⟩).trans e76
  have e7 : q569.1 7 0 = a7 := (hk 7 0 ⟨⟨rfl, by decide, by decide⟩, by decide +kernel⟩).trans e7
  have e10 : q569.1 10 0 = a10 := (hk 10 0 ⟨⟨rfl, by decide, by decide⟩, by decide +kernel⟩).trans e10
  have e13 : q569.1 13 0 = a13 := (hk 13 0 ⟨⟨rfl, by decide, by decide⟩, by decide +kernel⟩).trans e13
  have hkp := hkp.tr hk (by decide)
  refine nn_put (pc := 572) (r := 0) (k := 79) (n' := 203) g cl_Mo ⟨⟨rfl, by decide, by decide⟩, by decide +kernel⟩ (by decide) (Or.inl kn_214) (Or.inr ⟨rfl, hnm, rfl, kn_214⟩) e0 rfl rfl (Or.inl ⟨(by decide +kernel), rfl, (fvR rfl rfl e13)⟩) d_Mo_init_572 ?_
  refine nn_aload_n (pc := 575) g.1 d_Mo_init_575 rfl (lv_at hl 0 rfl) ?_
  refine nn_iconst (pc := 576) g.1 (v := 0) d_Mo_init_576 (by decide) ?_
  refine nn_put (pc := 577) (r := 0) (k := 80) (n' := 203) g cl_Mo ⟨⟨rfl, by decide, by decide⟩, by decide +kernel⟩ (by decide) (Or.inl kn_215) (Or.inl rfl) e0 rfl rfl (Or.inr ⟨rfl, fN_dv (Or.inr ⟨by decide +kernel, (by decide), (fvI rfl rfl)⟩)⟩) d_Mo_init_577 ?_
  refine nn_aload_n (pc := 580) g.1 d_Mo_init_580 rfl (lv_at hl 0 rfl) ?_
  refine nn_lconst (pc := 581) g.1 (v := 0) d_Mo_init_581 (by decide) ?_
  refine nn_put (pc := 582) (r := 0) (k := 81) (n' := 203) g cl_Mo ⟨⟨rfl, by decide, by decide⟩, by decide +kernel⟩ (by decide) (Or.inl kn_216) (Or.inl rfl) e0 rfl rfl (Or.inr ⟨rfl, fN_dv (Or.inr ⟨by decide +kernel, (by decide), rfl⟩)⟩) d_Mo_init_582 ?_
  refine nn_aload_n (pc := 585) g.1 d_Mo_init_585 rfl (lv_at hl 0 rfl) ?_
  refine nn_bipush (pc := 586) g.1 (v := 64) d_Mo_init_586 (by decide) ?_
  refine nn_arr (pc := 588) (r := 77) (i := 0) (N := 64) (at0 := .int) (m := (m.1 + 738, m.2 + 814408)) g.gn rfl (by decide) ⟨rfl, by decide, by decide⟩ (by decide +kernel) (by decide) rfl (by decide) (by decide) (hm.le (by dsimp only; omega) (by dsimp only; omega)) kn_9 d_Mo_init_588 fun q588 a77 hk e77 hm => ?_
  have e0 : q588.1 0 0 = a0 := (hk 0 0 ⟨⟨rfl, by decide, by decide⟩, by decide +kernel⟩).trans e0
  have e41 : q588.1 41 0 = a41 := (hk 41 0 ⟨⟨rfl, by decide, by decide⟩, by decide +kernel⟩).trans e41
  have e42 : q588.1 42 0 = a42 := (hk 42 0 ⟨⟨rfl, by decide, by decide⟩, by decide +kernel⟩).trans e42
  have e43 : q588.1 43 0 = a43 := (hk 43 0 ⟨⟨rfl, by decide, by decide⟩, by decide +kernel⟩).trans e43
  have e44 : q588.1 44 0 = a44 := (hk 44 0 ⟨⟨rfl, by decide, by decide⟩, by decide +kernel⟩).trans e44
  have e45 : q588.1 45 0 = a45 := (hk 45 0 ⟨⟨rfl, by decide, by decide⟩, by decide +kernel⟩).trans e45
  have e46 : q588.1 46 0 = a46 := (hk 46 0 ⟨⟨rfl, by decide, by decide⟩, by decide +kernel⟩).trans e46
  have e47 : q588.1 47 0 = a47 := (hk 47 0 ⟨⟨rfl, by decide, by decide⟩, by decide +kernel⟩).trans e47
  have e48 : q588.1 48 0 = a48 := (hk 48 0 ⟨⟨rfl, by decide, by decide⟩, by decide +kernel⟩).trans e48
  have e49 : q588.1 49 0 = a49 := (hk 49 0 ⟨⟨rfl, by decide, by decide⟩, by decide +kernel⟩).trans e49
  have e50 : q588.1 50 0 = a50 := (hk 50 0 ⟨⟨rfl, by decide, by decide⟩, by decide +kernel⟩).trans e50
  have e51 : q588.1 51 0 = a51 := (hk 51 0 ⟨⟨rfl, by decide, by decide⟩, by decide +kernel⟩).trans e51
  have e52 : q588.1 52 0 = a52 := (hk 52 0 ⟨⟨rfl, by decide, by decide⟩, by decide +kernel⟩).trans e52
  have e53 : q588.1 53 0 = a53 := (hk 53 0 ⟨⟨rfl, by decide, by decide⟩, by decide +kernel⟩).trans e53
  have e54 : q588.1 54 0 = a54 := (hk 54 0 ⟨⟨rfl, by decide, by decide⟩, by decide +kernel⟩).trans e54
  have e55 : q588.1 55 0 = a55 := (hk 55 0 ⟨⟨rfl, by decide, by decide⟩, by decide +kernel⟩).trans e55
  have e56 : q588.1 56 0 = a56 := (hk 56 0 ⟨⟨rfl, by decide, by decide⟩, by decide +kernel⟩).trans e56
  have e1 : q588.1 1 0 = a1 := (hk 1 0 ⟨⟨rfl, by decide, by decide⟩, by decide +kernel⟩).trans e1
  have e57 : q588.1 57 0 = a57 := (hk 57 0 ⟨⟨rfl, by decide, by decide⟩, by decide +kernel⟩).trans e57
  have e58 : q588.1 58 0 = a58 := (hk 58 0 ⟨⟨rfl, by decide, by decide⟩, by decide +kernel⟩).trans e58
  have e59 : q588.1 59 0 = a59 := (hk 59 0 ⟨⟨rfl, by decide, by decide⟩, by decide +kernel⟩).trans e59
  have e60 : q588.1 60 0 = a60 := (hk 60 0 ⟨⟨rfl, by decide, by decide⟩, by decide +kernel⟩).trans e60
  have e61 : q588.1 61 0 = a61 := (hk 61 0 ⟨⟨rfl, by decide, by decide⟩, by decide +kernel⟩).trans e61
  have e62 : q588.1 62 0 = a62 := (hk 62 0 ⟨⟨rfl, by decide, by decide⟩, by decide +kernel⟩).trans e62
  have e63 : q588.1 63 0 = a63 := (hk 63 0 ⟨⟨rfl, by decide, by decide⟩, by decide +kernel⟩).trans e63
  have e64 : q588.1 64 0 = a64 := (hk 64 0 ⟨⟨rfl, by decide, by decide⟩, by decide +kernel⟩).trans e64
  have e65 : q588.1 65 0 = a65 := (hk 65 0 ⟨⟨rfl, by decide, by decide⟩, by decide +kernel⟩).trans e65
  have e66 : q588.1 66 0 = a66 := (hk 66 0 ⟨⟨rfl, by decide, by decide⟩, by decide +kernel⟩).trans e66
  have e67 : q588.1 67 0 = a67 := (hk 67 0 ⟨⟨rfl, by decide, by decide⟩, by decide +kernel⟩).trans e67
  have e68 : q588.1 68 0 = a68 := (hk 68 0 ⟨⟨rfl, by decide, by decide⟩, by decide +kernel⟩).trans e68
  have e4 : q588.1 4 0 = a4 := (hk 4 0 ⟨⟨rfl, by decide, by decide⟩, by decide +kernel⟩).trans e4
  have e75 : q588.1 75 0 = a75 := (hk 75 0 ⟨⟨rfl, by decide, by decide⟩, by decide +kernel⟩).trans e75
  have e16 : q588.1 16 0 = a16 := (hk 16 0 ⟨⟨rfl, by decide, by decide⟩, by decide +kernel⟩).trans e16
  have e76 : q588.1 76 0 = a76 := (hk 76 0 ⟨⟨rfl, by decide, by decide⟩, by decide +kernel⟩).trans e76
  have e7 : q588.1 7 0 = a7 := (hk 7 0 ⟨⟨rfl, by decide, by decide⟩, by decide +kernel⟩).trans e7
  have e10 : q588.1 10 0 = a10 := (hk 10 0 ⟨⟨rfl, by decide, by decide⟩, by decide +kernel⟩).trans e10
  have e13 : q588.1 13 0 = a13 := (hk 13 0 ⟨⟨rfl, by decide, by decide⟩, by decide +kernel⟩).trans e13
  have hkp := hkp.tr hk (by decide)
  refine nn_put (pc := 590) (r := 0) (k := 82) (n' := 205) g cl_Mo ⟨⟨rfl, by decide, by decide⟩, by decide +kernel⟩ (by decide) (Or.inl kn_217) (Or.inr ⟨rfl, hnm, rfl, kn_217⟩) e0 rfl rfl (Or.inl ⟨(by decide +kernel), rfl, (fvR rfl rfl e77)⟩) d_Mo_init_590 ?_
  refine nn_aload_n (pc := 593) g.1 d_Mo_init_593 rfl (lv_at hl 0 rfl) ?_
  refine nn_bipush (pc := 594) g.1 (v := 24) d_Mo_init_594 (by decide) ?_
  refine nn_anew (pc := 596) (r := 78) (i := 0) (N := 24) (m := (m.1 + 737, m.2 + 814384)) g.gn (by decide) ⟨rfl, by decide, by decide⟩ (by decide +kernel) (by decide) rfl (by decide) (by decide) (fun j hj => hz_78 j hj) (hm.le (by dsimp only; omega) (by dsimp only; omega)) kn_218 kxn_7 d_Mo_init_596 fun q596 a78 hk e78 hm => ?_
  have e0 : q596.1 0 0 = a0 := (hk 0 0 ⟨⟨rfl, by decide, by decide⟩, by decide +kernel⟩).trans e0
  have e41 : q596.1 41 0 = a41 := (hk 41 0 ⟨⟨rfl, by decide, by decide⟩, by decide +kernel⟩).trans e41
  have e42 : q596.1 42 0 = a42 := (hk 42 0 ⟨⟨rfl, by decide, by decide⟩, by decide +kernel⟩).trans e42
  have e43 : q596.1 43 0 = a43 := (hk 43 0 ⟨⟨rfl, by decide, by decide⟩, by decide +kernel⟩).trans e43
  have e44 : q596.1 44 0 = a44 := (hk 44 0 ⟨⟨rfl, by decide, by decide⟩, by decide +kernel⟩).trans e44
  have e45 : q596.1 45 0 = a45 := (hk 45 0 ⟨⟨rfl, by decide, by decide⟩, by decide +kernel⟩).trans e45
  have e46 : q596.1 46 0 = a46 := (hk 46 0 ⟨⟨rfl, by decide, by decide⟩, by decide +kernel⟩).trans e46
  have e47 : q596.1 47 0 = a47 := (hk 47 0 ⟨⟨rfl, by decide, by decide⟩, by decide +kernel⟩).trans e47
  have e48 : q596.1 48 0 = a48 := (hk 48 0 ⟨⟨rfl, by decide, by decide⟩, by decide +kernel⟩).trans e48
  have e49 : q596.1 49 0 = a49 := (hk 49 0 ⟨⟨rfl, by decide, by decide⟩, by decide +kernel⟩).trans e49
  have e50 : q596.1 50 0 = a50 := (hk 50 0 ⟨⟨rfl, by decide, by decide⟩, by decide +kernel⟩).trans e50
  have e51 : q596.1 51 0 = a51 := (hk 51 0 ⟨⟨rfl, by decide, by decide⟩, by decide +kernel⟩).trans e51
  have e52 : q596.1 52 0 = a52 := (hk 52 0 ⟨⟨rfl, by decide, by decide⟩, by decide +kernel⟩).trans e52
  have e53 : q596.1 53 0 = a53 := (hk 53 0 ⟨⟨rfl, by decide, by decide⟩, by decide +kernel⟩).trans e53
  have e54 : q596.1 54 0 = a54 := (hk 54 0 ⟨⟨rfl, by decide, by decide⟩, by decide +kernel⟩).trans e54
  have e55 : q596.1 55 0 = a55 := (hk 55 0 ⟨⟨rfl, by decide, by decide⟩, by decide +kernel⟩).trans e55
  have e56 : q596.1 56 0 = a56 := (hk 56 0 ⟨⟨rfl, by decide, by decide⟩, by decide +kernel⟩).trans e56
  have e1 : q596.1 1 0 = a1 := (hk 1 0 ⟨⟨rfl, by decide, by decide⟩, by decide +kernel⟩).trans e1
  have e57 : q596.1 57 0 = a57 := (hk 57 0 ⟨⟨rfl, by decide, by decide⟩, by decide +kernel⟩).trans e57
  have e58 : q596.1 58 0 = a58 := (hk 58 0 ⟨⟨rfl, by decide, by decide⟩, by decide +kernel⟩).trans e58
  have e59 : q596.1 59 0 = a59 := (hk 59 0 ⟨⟨rfl, by decide, by decide⟩, by decide +kernel⟩).trans e59
  have e60 : q596.1 60 0 = a60 := (hk 60 0 ⟨⟨rfl, by decide, by decide⟩, by decide +kernel⟩).trans e60
  have e61 : q596.1 61 0 = a61 := (hk 61 0 ⟨⟨rfl, by decide, by decide⟩, by decide +kernel⟩).trans e61
  have e62 : q596.1 62 0 = a62 := (hk 62 0 ⟨⟨rfl, by decide, by decide⟩, by decide +kernel⟩).trans e62
  have e63 : q596.1 63 0 = a63 := (hk 63 0 ⟨⟨rfl, by decide, by decide⟩, by decide +kernel⟩).trans e63
  have e64 : q596.1 64 0 = a64 := (hk 64 0 ⟨⟨rfl, by decide, by decide⟩, by decide +kernel⟩).trans e64
  have e65 : q596.1 65 0 = a65 := (hk 65 0 ⟨⟨rfl, by decide, by decide⟩, by decide +kernel⟩).trans e65
  have e66 : q596.1 66 0 = a66 := (hk 66 0 ⟨⟨rfl, by decide, by decide⟩, by decide +kernel⟩).trans e66
  have e67 : q596.1 67 0 = a67 := (hk 67 0 ⟨⟨rfl, by decide, by decide⟩, by decide +kernel⟩).trans e67
  have e68 : q596.1 68 0 = a68 := (hk 68 0 ⟨⟨rfl, by decide, by decide⟩, by decide +kernel⟩).trans e68
  have e4 : q596.1 4 0 = a4 := (hk 4 0 ⟨⟨rfl, by decide, by decide⟩, by decide +kernel⟩).trans e4
  have e75 : q596.1 75 0 = a75 := (hk 75 0 ⟨⟨rfl, by decide, by decide⟩, by decide +kernel⟩).trans e75
  have e16 : q596.1 16 0 = a16 := (hk 16 0 ⟨⟨rfl, by decide, by decide⟩, by decide +kernel⟩).trans e16
  have e76 : q596.1 76 0 = a76 := (hk 76 0 ⟨⟨rfl, by decide, by decide⟩, by decide +kernel⟩).trans e76
  have e7 : q596.1 7 0 = a7 := (hk 7 0 ⟨⟨rfl, by decide, by decide⟩, by decide +kernel⟩).trans e7
  have e10 : q596.1 10 0 = a10 := (hk 10 0 ⟨⟨rfl, by decide, by decide⟩, by decide +kernel⟩).trans e10
  have e13 : q596.1 13 0 = a13 := (hk 13 0 ⟨⟨rfl, by decide, by decide⟩, by decide +kernel⟩).trans e13
  have e77 : q596.1 77 0 = a77 := (hk 77 0 ⟨⟨rfl, by decide, by decide⟩, by decide +kernel⟩).trans e77
  have hkp := hkp.tr hk (by decide)
  refine nn_dup (pc := 599) g.1 d_Mo_init_599 rfl ?_
  refine nn_iconst (pc := 600) g.1 (v := 0) d_Mo_init_600 (by decide) ?_
  refine nn_ldcwS (pc := 601) (t := 0) g.gn (by decide) rfl rfl d_Mo_init_601 ?_
  refine nn_aast (pc := 604) (r := 78) (f := 178000) (fi := 0) g.gn ⟨⟨rfl, by decide, by decide⟩, by decide +kernel⟩ e78 (by decide) (fun H locs _ hS => any_S g.gn (by decide) H locs hS) (by decide) (by decide) (by decide) (Or.inl ⟨rfl, rfl, rfl, rfl, by decide, by decide⟩) (by decide +kernel) d_Mo_init_604 ?_
  refine nn_dup (pc := 605) g.1 d_Mo_init_605 rfl ?_
  refine nn_iconst (pc := 606) g.1 (v := 1) d_Mo_init_606 (by decide) ?_
  refine nn_ldcwS (pc := 607) (t := 1) g.gn (by decide) rfl rfl d_Mo_init_607 ?_
  refine nn_aast (pc := 610) (r := 78) (f := 178001) (fi := 0) g.gn ⟨⟨rfl, by decide, by decide⟩, by decide +kernel⟩ e78 (by decide) (fun H locs _ hS => any_S g.gn (by decide) H locs hS) (by decide) (by decide) (by decide) (Or.inl ⟨rfl, rfl, rfl, rfl, by decide, by decide⟩) (by decide +kernel) d_Mo_init_610 ?_
  refine nn_dup (pc := 611) g.1 d_Mo_init_611 rfl ?_
  refine nn_iconst (pc := 612) g.1 (v := 2) d_Mo_init_612 (by decide) ?_
  refine nn_ldcwS (pc := 613) (t := 2) g.gn (by decide) rfl rfl d_Mo_init_613 ?_
  refine nn_aast (pc := 616) (r := 78) (f := 178002) (fi := 0) g.gn ⟨⟨rfl, by decide, by decide⟩, by decide +kernel⟩ e78 (by decide) (fun H locs _ hS => any_S g.gn (by decide) H locs hS) (by decide) (by decide) (by decide) (Or.inl ⟨rfl, rfl, rfl, rfl, by decide, by decide⟩) (by decide +kernel) d_Mo_init_616 ?_
  refine nn_dup (pc := 617) g.1 d_Mo_init_617 rfl ?_
  refine nn_iconst (pc := 618) g.1 (v := 3) d_Mo_init_618 (by decide) ?_
  refine nn_ldcwS (pc := 619) (t := 3) g.gn (by decide) rfl rfl d_Mo_init_619 ?_
  refine nn_aast (pc := 622) (r := 78) (f := 178003) (fi := 0) g.gn ⟨⟨rfl, by decide, by decide⟩, by decide +kernel⟩ e78 (by decide) (fun H locs _ hS => any_S g.gn (by decide) H locs hS) (by decide) (by decide) (by decide) (Or.inl ⟨rfl, rfl, rfl, rfl, by decide, by decide⟩) (by decide +kernel) d_Mo_init_622 ?_
  refine nn_dup (pc := 623) g.1 d_Mo_init_623 rfl ?_
  refine nn_iconst (pc := 624) g.1 (v := 4) d_Mo_init_624 (by decide) ?_
  refine nn_ldcwS (pc := 625) (t := 4) g.gn (by decide) rfl rfl d_Mo_init_625 ?_
  refine nn_aast (pc := 628) (r := 78) (f := 178004) (fi := 0) g.gn ⟨⟨rfl, by decide, by decide⟩, by decide +kernel⟩ e78 (by decide) (fun H locs _ hS => any_S g.gn (by decide) H locs hS) (by decide) (by decide) (by decide) (Or.inl ⟨rfl, rfl, rfl, rfl, by decide, by decide⟩) (by decide +kernel) d_Mo_init_628 ?_
  refine nn_dup (pc := 629) g.1 d_Mo_init_629 rfl ?_
  refine nn_iconst (pc := 630) g.1 (v := 5) d_Mo_init_630 (by decide) ?_
  refine nn_ldcwS (pc := 631) (t := 5) g.gn (by decide) rfl rfl d_Mo_init_631 ?_
  refine nn_aast (pc := 634) (r := 78) (f := 178005) (fi := 0) g.gn ⟨⟨rfl, by decide, by decide⟩, by decide +kernel⟩ e78 (by decide) (fun H locs _ hS => any_S g.gn (by decide) H locs hS) (by decide) (by decide) (by decide) (Or.inl ⟨rfl, rfl, rfl, rfl, by decide, by decide⟩) (by decide +kernel) d_Mo_init_634 ?_
  refine nn_dup (pc := 635) g.1 d_Mo_init_635 rfl ?_
  refine nn_bipush (pc := 636) g.1 (v := 6) d_Mo_init_636 (by decide) ?_
  refine nn_ldcwS (pc := 638) (t := 6) g.gn (by decide) rfl rfl d_Mo_init_638 ?_
  refine nn_aast (pc := 641) (r := 78) (f := 178006) (fi := 0) g.gn ⟨⟨rfl, by decide, by decide⟩, by decide +kernel⟩ e78 (by decide) (fun H locs _ hS => any_S g.gn (by decide) H locs hS) (by decide) (by decide) (by decide) (Or.inl ⟨rfl, rfl, rfl, rfl, by decide, by decide⟩) (by decide +kernel) d_Mo_init_641 ?_
  refine nn_dup (pc := 642) g.1 d_Mo_init_642 rfl ?_
  refine nn_bipush (pc := 643) g.1 (v := 7) d_Mo_init_643 (by decide) ?_
  refine nn_ldcwS (pc := 645) (t := 7) g.gn (by decide) rfl rfl d_Mo_init_645 ?_
  refine nn_aast (pc := 648) (r := 78) (f := 178007) (fi := 0) g.gn ⟨⟨rfl, by decide, by decide⟩, by decide +kernel⟩ e78 (by decide) (fun H locs _ hS => any_S g.gn (by decide) H locs hS) (by decide) (by decide) (by decide) (Or.inl ⟨rfl, rfl, rfl, rfl, by decide, by decide⟩) (by decide +kernel) d_Mo_init_648 ?_
  refine nn_dup (pc := 649) g.1 d_Mo_init_649 rfl ?_
  refine nn_bipush (pc := 650) g.1 (v := 8) d_Mo_init_650 (by decide) ?_
  refine nn_ldcwS (pc := 652) (t := 8) g.gn (by decide) rfl rfl d_Mo_init_652 ?_
  refine nn_aast (pc := 655) (r := 78) (f := 178008) (fi := 0) g.gn ⟨⟨rfl, by decide, by decide⟩, by decide +kernel⟩ e78 (by decide) (fun H locs _ hS => any_S g.gn (by decide) H locs hS) (by decide) (by decide) (by decide) (Or.inl ⟨rfl, rfl, rfl, rfl, by decide, by decide⟩) (by decide +kernel) d_Mo_init_655 ?_
  refine nn_dup (pc := 656) g.1 d_Mo_init_656 rfl ?_
  refine nn_bipush (pc := 657) g.1 (v := 9) d_Mo_init_657 (by decide) ?_
  refine nn_ldcwS (pc := 659) (t := 9) g.gn (by decide) rfl rfl d_Mo_init_659 ?_
  refine nn_aast (pc := 662) (r := 78) (f := 178009) (fi := 0) g.gn ⟨⟨rfl, by decide, by decide⟩, by decide +kernel⟩ e78 (by decide) (fun H locs _ hS => any_S g.gn (by decide) H locs hS) (by decide) (by decide) (by decide) (Or.inl ⟨rfl, rfl, rfl, rfl, by decide, by decide⟩) (by decide +kernel) d_Mo_init_662 ?_
  refine nn_dup (pc := 663) g.1 d_Mo_init_663 rfl ?_
  refine nn_bipush (pc := 664) g.1 (v := 10) d_Mo_init_664 (by decide) ?_
  refine nn_ldcwS (pc := 666) (t := 10) g.gn (by decide) rfl rfl d_Mo_init_666 ?_
  refine nn_aast (pc := 669) (r := 78) (f := 178010) (fi := 0) g.gn ⟨⟨rfl, by decide, by decide⟩, by decide +kernel⟩ e78 (by decide) (fun H locs _ hS => any_S g.gn (by decide) H locs hS) (by decide) (by decide) (by decide) (Or.inl ⟨rfl, rfl, rfl, rfl, by decide, by decide⟩) (by decide +kernel) d_Mo_init_669 ?_
  refine nn_dup (pc := 670) g.1 d_Mo_init_670 rfl ?_
  refine nn_bipush (pc := 671) g.1 (v := 11) d_Mo_init_671 (by decide) ?_
  refine nn_ldcwS (pc := 673) (t := 11) g.gn (by decide) rfl rfl d_Mo_init_673 ?_
  refine nn_aast (pc := 676) (r := 78) (f := 178011) (fi := 0) g.gn ⟨⟨rfl, by decide, by decide⟩, by decide +kernel⟩ e78 (by decide) (fun H locs _ hS => any_S g.gn (by decide) H locs hS) (by decide) (by decide) (by decide) (Or.inl ⟨rfl, rfl, rfl, rfl, by decide, by decide⟩) (by decide +kernel) d_Mo_init_676 ?_
  refine nn_dup (pc := 677) g.1 d_Mo_init_677 rfl ?_
  refine nn_bipush (pc := 678) g.1 (v := 12) d_Mo_init_678 (by decide) ?_
  refine nn_ldcwS (pc := 680) (t := 12) g.gn (by decide) rfl rfl d_Mo_init_680 ?_
  refine nn_aast (pc := 683) (r := 78) (f := 178012) (fi := 0) g.gn ⟨⟨rfl, by decide, by decide⟩, by decide +kernel⟩ e78 (by decide) (fun H locs _ hS => any_S g.gn (by decide) H locs hS) (by decide) (by decide) (by decide) (Or.inl ⟨rfl, rfl, rfl, rfl, by decide, by decide⟩) (by decide +kernel) d_Mo_init_683 ?_
  refine nn_dup (pc := 684) g.1 d_Mo_init_684 rfl ?_
  refine nn_bipush (pc := 685) g.1 (v := 13) d_Mo_init_685 (by decide) ?_
  refine nn_ldcwS (pc := 687) (t := 13) g.gn (by decide) rfl rfl d_Mo_init_687 ?_
  refine nn_aast (pc := 690) (r := 78) (f := 178013) (fi := 0) g.gn ⟨⟨rfl, by decide, by decide⟩, by decide +kernel⟩ e78 (by decide) (fun H locs _ hS => any_S g.gn (by decide) H locs hS) (by decide) (by decide) (by decide) (Or.inl ⟨rfl, rfl, rfl, rfl, by decide, by decide⟩) (by decide +kernel) d_Mo_init_690 ?_
  refine nn_dup (pc := 691) g.1 d_Mo_init_691 rfl ?_
  refine nn_bipush (pc := 692) g.1 (v := 14) d_Mo_init_692 (by decide) ?_
  refine nn_ldcwS (pc := 694) (t := 14) g.gn (by decide) rfl rfl d_Mo_init_694 ?_
  refine nn_aast (pc := 697) (r := 78) (f := 178014) (fi := 0) g.gn ⟨⟨rfl, by decide, by decide⟩, by decide +kernel⟩ e78 (by decide) (fun H locs _ hS => any_S g.gn (by decide) H locs hS) (by decide) (by decide) (by decide) (Or.inl ⟨rfl, rfl, rfl, rfl, by decide, by decide⟩) (by decide +kernel) d_Mo_init_697 ?_
  refine nn_dup (pc := 698) g.1 d_Mo_init_698 rfl ?_
  refine nn_bipush (pc := 699) g.1 (v := 15) d_Mo_init_699 (by decide) ?_
  refine nn_ldcwS (pc := 701) (t := 15) g.gn (by decide) rfl rfl d_Mo_init_701 ?_
  refine nn_aast (pc := 704) (r := 78) (f := 178015) (fi := 0) g.gn ⟨⟨rfl, by decide, by decide⟩, by decide +kernel⟩ e78 (by decide) (fun H locs _ hS => any_S g.gn (by decide) H locs hS) (by decide) (by decide) (by decide) (Or.inl ⟨rfl, rfl, rfl, rfl, by decide, by decide⟩) (by decide +kernel) d_Mo_init_704 ?_
  refine nn_dup (pc := 705) g.1 d_Mo_init_705 rfl ?_
  refine nn_bipush (pc := 706) g.1 (v := 16) d_Mo_init_706 (by decide) ?_
  refine nn_ldcwS (pc := 708) (t := 16) g.gn (by decide) rfl rfl d_Mo_init_708 ?_
  refine nn_aast (pc := 711) (r := 78) (f := 178016) (fi := 0) g.gn ⟨⟨rfl, by decide, by decide⟩, by decide +kernel⟩ e78 (by decide) (fun H locs _ hS => any_S g.gn (by decide) H locs hS) (by decide) (by decide) (by decide) (Or.inl ⟨rfl, rfl, rfl, rfl, by decide, by decide⟩) (by decide +kernel) d_Mo_init_711 ?_
  refine nn_dup (pc := 712) g.1 d_Mo_init_712 rfl ?_
  refine nn_bipush (pc := 713) g.1 (v := 17) d_Mo_init_713 (by decide) ?_
  refine nn_ldcwS (pc := 715) (t := 17) g.gn (by decide) rfl rfl d_Mo_init_715 ?_
  refine nn_aast (pc := 718) (r := 78) (f := 178017) (fi := 0) g.gn ⟨⟨rfl, by decide, by decide⟩, by decide +kernel⟩ e78 (by decide) (fun H locs _ hS => any_S g.gn (by decide) H locs hS) (by decide) (by decide) (by decide) (Or.inl ⟨rfl, rfl, rfl, rfl, by decide, by decide⟩) (by decide +kernel) d_Mo_init_718 ?_
  refine nn_dup (pc := 719) g.1 d_Mo_init_719 rfl ?_
  refine nn_bipush (pc := 720) g.1 (v := 18) d_Mo_init_720 (by decide) ?_
  refine nn_ldcwS (pc := 722) (t := 18) g.gn (by decide) rfl rfl d_Mo_init_722 ?_
  refine nn_aast (pc := 725) (r := 78) (f := 178018) (fi := 0) g.gn ⟨⟨rfl, by decide, by decide⟩, by decide +kernel⟩ e78 (by decide) (fun H locs _ hS => any_S g.gn (by decide) H locs hS) (by decide) (by decide) (by decide) (Or.inl ⟨rfl, rfl, rfl, rfl, by decide, by decide⟩) (by decide +kernel) d_Mo_init_725 ?_
  refine nn_dup (pc := 726) g.1 d_Mo_init_726 rfl ?_
  refine nn_bipush (pc := 727) g.1 (v := 19) d_Mo_init_727 (by decide) ?_
  refine nn_ldcwS (pc := 729) (t := 19) g.gn (by decide) rfl rfl d_Mo_init_729 ?_
  refine nn_aast (pc := 732) (r := 78) (f := 178019) (fi := 0) g.gn ⟨⟨rfl, by decide, by decide⟩, by decide +kernel⟩ e78 (by decide) (fun H locs _ hS => any_S g.gn (by decide) H locs hS) (by decide) (by decide) (by decide) (Or.inl ⟨rfl, rfl, rfl, rfl, by decide, by decide⟩) (by decide +kernel) d_Mo_init_732 ?_
  refine nn_dup (pc := 733) g.1 d_Mo_init_733 rfl ?_
  refine nn_bipush (pc := 734) g.1 (v := 20) d_Mo_init_734 (by decide) ?_
  refine nn_ldcwS (pc := 736) (t := 20) g.gn (by decide) rfl rfl d_Mo_init_736 ?_
  refine nn_aast (pc := 739) (r := 78) (f := 178020) (fi := 0) g.gn ⟨⟨rfl, by decide, by decide⟩, by decide +kernel⟩ e78 (by decide) (fun H locs _ hS => any_S g.gn (by decide) H locs hS) (by decide) (by decide) (by decide) (Or.inl ⟨rfl, rfl, rfl, rfl, by decide, by decide⟩) (by decide +kernel) d_Mo_init_739 ?_
  refine nn_dup (pc := 740) g.1 d_Mo_init_740 rfl ?_
  refine nn_bipush (pc := 741) g.1 (v := 21) d_Mo_init_741 (by decide) ?_
  refine nn_ldcwS (pc := 743) (t := 21) g.gn (by decide) rfl rfl d_Mo_init_743 ?_
  refine nn_aast (pc := 746) (r := 78) (f := 178021) (fi := 0) g.gn ⟨⟨rfl, by decide, by decide⟩, by decide +kernel⟩ e78 (by decide) (fun H locs _ hS => any_S g.gn (by decide) H locs hS) (by decide) (by decide) (by decide) (Or.inl ⟨rfl, rfl, rfl, rfl, by decide, by decide⟩) (by decide +kernel) d_Mo_init_746 ?_
  refine nn_dup (pc := 747) g.1 d_Mo_init_747 rfl ?_
  refine nn_bipush (pc := 748) g.1 (v := 22) d_Mo_init_748 (by decide) ?_
  refine nn_ldcwS (pc := 750) (t := 22) g.gn (by decide) rfl rfl d_Mo_init_750 ?_
  refine nn_aast (pc := 753) (r := 78) (f := 178022) (fi := 0) g.gn ⟨⟨rfl, by decide, by decide⟩, by decide +kernel⟩ e78 (by decide) (fun H locs _ hS => any_S g.gn (by decide) H locs hS) (by decide) (by decide) (by decide) (Or.inl ⟨rfl, rfl, rfl, rfl, by decide, by decide⟩) (by decide +kernel) d_Mo_init_753 ?_
  refine nn_dup (pc := 754) g.1 d_Mo_init_754 rfl ?_
  refine nn_bipush (pc := 755) g.1 (v := 23) d_Mo_init_755 (by decide) ?_
  refine nn_ldcwS (pc := 757) (t := 23) g.gn (by decide) rfl rfl d_Mo_init_757 ?_
  refine nn_aast (pc := 760) (r := 78) (f := 178023) (fi := 0) g.gn ⟨⟨rfl, by decide, by decide⟩, by decide +kernel⟩ e78 (by decide) (fun H locs _ hS => any_S g.gn (by decide) H locs hS) (by decide) (by decide) (by decide) (Or.inl ⟨rfl, rfl, rfl, rfl, by decide, by decide⟩) (by decide +kernel) d_Mo_init_760 ?_
  refine nn_put (pc := 761) (r := 0) (k := 83) (n' := 231) g cl_Mo ⟨⟨rfl, by decide, by decide⟩, by decide +kernel⟩ (by decide) (Or.inl kn_219) (Or.inr ⟨rfl, hnm, rfl, kn_219⟩) e0 rfl rfl (Or.inl ⟨(by decide +kernel), rfl, (fvR rfl rfl e78)⟩) d_Mo_init_761 ?_
  refine nn_aload_n (pc := 764) g.1 d_Mo_init_764 rfl (lv_at hl 0 rfl) ?_
  refine nn_bipush (pc := 765) g.1 (v := 22) d_Mo_init_765 (by decide) ?_
  refine nn_anew (pc := 767) (r := 79) (i := 0) (N := 22) (m := (m.1 + 736, m.2 + 814362)) g.gn (by decide) ⟨rfl, by decide, by decide⟩ (by decide +kernel) (by decide) rfl (by decide) (by decide) (fun j hj => hz_79 j hj) (hm.le (by dsimp only; omega) (by dsimp only; omega)) kn_218 kxn_7 d_Mo_init_767 fun q767 a79 hk e79 hm => ?_
  have e0 : q767.1 0 0 = a0 := (hk 0 0 ⟨⟨rfl, by decide, by decide⟩, by decide +kernel⟩).trans e0
  have e41 : q767.1 41 0 = a41 := (hk 41 0 ⟨⟨rfl, by decide, by decide⟩, by decide +kernel⟩).trans e41
  have e42 : q767.1 42 0 = a42 := (hk 42 0 ⟨⟨rfl, by decide, by decide⟩, by decide +kernel⟩).trans e42
  have e43 : q767.1 43 0 = a43 := (hk 43 0 ⟨⟨rfl, by decide, by decide⟩, by decide +kernel⟩).trans e43
  have e44 : q767.1 44 0 = a44 := (hk 44 0 ⟨⟨rfl, by decide, by decide⟩, by decide +kernel⟩).trans e44
  have e45 : q767.1 45 0 = a45 := (hk 45 0 ⟨⟨rfl, by decide, by decide⟩, by decide +kernel⟩).trans e45
  have e46 : q767.1 46 0 = a46 := (hk 46 0 ⟨⟨rfl, by decide, by decide⟩, by decide +kernel⟩).trans e46
  have e47 : q767.1 47 0 = a47 := (hk 47 0 ⟨⟨rfl, by decide, by decide⟩, by decide +kernel⟩).trans e47
  have e48 : q767.1 48 0 = a48 := (hk 48 0 ⟨⟨rfl, by decide, by decide⟩, by decide +kernel⟩).trans e48
  have e49 : q767.1 49 0 = a49 := (hk 49 0 ⟨⟨rfl, by decide, by decide⟩, by decide +kernel⟩).trans e49
  have e50 : q767.1 50 0 = a50 := (hk 50 0 ⟨⟨rfl, by decide, by decide⟩, by decide +kernel⟩).trans e50
  have e51 : q767.1 51 0 = a51 := (hk 51 0 ⟨⟨rfl, by decide, by decide⟩, by decide +kernel⟩).trans e51
  have e52 : q767.1 52 0 = a52 := (hk 52 0 ⟨⟨rfl, by decide, by decide⟩, by decide +kernel⟩).trans e52
  have e53 : q767.1 53 0 = a53 := (hk 53 0 ⟨⟨rfl, by decide, by decide⟩, by decide +kernel⟩).trans e53
  have e54 : q767.1 54 0 = a54 := (hk 54 0 ⟨⟨rfl, by decide, by decide⟩, by decide +kernel⟩).trans e54
  have e55 : q767.1 55 0 = a55 := (hk 55 0 ⟨⟨rfl, by decide, by decide⟩, by decide +kernel⟩).trans e55
  have e56 : q767.1 56 0 = a56 := (hk 56 0 ⟨⟨rfl, by decide, by decide⟩, by decide +kernel⟩).trans e56
  have e1 : q767.1 1 0 = a1 := (hk 1 0 ⟨⟨rfl, by decide, by decide⟩, by decide +kernel⟩).trans e1
  have e57 : q767.1 57 0 = a57 := (hk 57 0 ⟨⟨rfl, by decide, by decide⟩, by decide +kernel⟩).trans e57
  have e58 : q767.1 58 0 = a58 := (hk 58 0 ⟨⟨rfl, by decide, by decide⟩, by decide +kernel⟩).trans e58
  have e59 : q767.1 59 0 = a59 := (hk 59 0 ⟨⟨rfl, by decide, by decide⟩, by decide +kernel⟩).trans e59
  have e60 : q767.1 60 0 = a60 := (hk 60 0 ⟨⟨rfl, by decide, by decide⟩, by decide +kernel⟩).trans e60
  have e61 : q767.1 61 0 = a61 := (hk 61 0 ⟨⟨rfl, by decide, by decide⟩, by decide +kernel⟩).trans e61
  have e62 : q767.1 62 0 = a62 := (hk 62 0 ⟨⟨rfl, by decide, by decide⟩, by decide +kernel⟩).trans e62
  have e63 : q767.1 63 0 = a63 := (hk 63 0 ⟨⟨rfl, by decide, by decide⟩, by decide +kernel⟩).trans e63
  have e64 : q767.1 64 0 = a64 := (hk 64 0 ⟨⟨rfl, by decide, by decide⟩, by decide +kernel⟩).trans e64
  have e65 : q767.1 65 0 = a65 := (hk 65 0 ⟨⟨rfl, by decide, by decide⟩, by decide +kernel⟩).trans e65
  have e66 : q767.1 66 0 = a66 := (hk 66 0 ⟨⟨rfl, by decide, by decide⟩, by decide +kernel⟩).trans e66
  have e67 : q767.1 67 0 = a67 := (hk 67 0 ⟨⟨rfl, by decide, by decide⟩, by decide +kernel⟩).trans e67
  have e68 : q767.1 68 0 = a68 := (hk 68 0 ⟨⟨rfl, by decide, by decide⟩, by decide +kernel⟩).trans e68
  have e4 : q767.1 4 0 = a4 := (hk 4 0 ⟨⟨rfl, by decide, by decide⟩, by decide +kernel⟩).trans e4
  have e75 : q767.1 75 0 = a75 := (hk 75 0 ⟨⟨rfl, by decide, by decide⟩, by decide +kernel⟩).trans e75
  have e16 : q767.1 16 0 = a16 := (hk 16 0 ⟨⟨rfl, by decide, by decide⟩, by decide +kernel⟩).trans e16
  have e76 : q767.1 76 0 = a76 := (hk 76 0 ⟨⟨rfl, by decide, by decide⟩, by decide +kernel⟩).trans e76
  have e7 : q767.1 7 0 = a7 := (hk 7 0 ⟨⟨rfl, by decide, by decide⟩, by decide +kernel⟩).trans e7
  have e10 : q767.1 10 0 = a10 := (hk 10 0 ⟨⟨rfl, by decide, by decide⟩, by decide +kernel⟩).trans e10
  have e13 : q767.1 13 0 = a13 := (hk 13 0 ⟨⟨rfl, by decide, by decide⟩, by decide +kernel⟩).trans e13
  have e77 : q767.1 77 0 = a77 := (hk 77 0 ⟨⟨rfl, by decide, by decide⟩, by decide +kernel⟩).trans e77
  have e78 : q767.1 78 0 = a78 := (hk 78 0 ⟨⟨rfl, by decide, by decide⟩, by decide +kernel⟩).trans e78
  have hkp := hkp.tr hk (by decide)
  refine nn_dup (pc := 770) g.1 d_Mo_init_770 rfl ?_
  refine nn_iconst (pc := 771) g.1 (v := 0) d_Mo_init_771 (by decide) ?_
  refine nn_ldcwS (pc := 772) (t := 24) g.gn (by decide) rfl rfl d_Mo_init_772 ?_
  refine nn_aast (pc := 775) (r := 79) (f := 179000) (fi := 0) g.gn ⟨⟨rfl, by decide, by decide⟩, by decide +kernel⟩ e79 (by decide) (fun H locs _ hS => any_S g.gn (by decide) H locs hS) (by decide) (by decide) (by decide) (Or.inl ⟨rfl, rfl, rfl, rfl, by decide, by decide⟩) (by decide +kernel) d_Mo_init_775 ?_
  refine nn_dup (pc := 776) g.1 d_Mo_init_776 rfl ?_
  refine nn_iconst (pc := 777) g.1 (v := 1) d_Mo_init_777 (by decide) ?_
  refine nn_ldcwS (pc := 778) (t := 25) g.gn (by decide) rfl rfl d_Mo_init_778 ?_
  refine nn_aast (pc := 781) (r := 79) (f := 179001) (fi := 0) g.gn ⟨⟨rfl, by decide, by decide⟩, by decide +kernel⟩ e79 (by decide) (fun H locs _ hS => any_S g.gn (by decide) H locs hS) (by decide) (by decide) (by decide) (Or.inl ⟨rfl, rfl, rfl, rfl, by decide, by decide⟩) (by decide +kernel) d_Mo_init_781 ?_
  refine nn_dup (pc := 782) g.1 d_Mo_init_782 rfl ?_
  refine nn_iconst (pc := 783) g.1 (v := 2) d_Mo_init_783 (by decide) ?_
  refine nn_ldcwS (pc := 784) (t := 26) g.gn (by decide) rfl rfl d_Mo_init_784 ?_
  refine nn_aast (pc := 787) (r := 79) (f := 179002) (fi := 0) g.gn ⟨⟨rfl, by decide, by decide⟩, by decide +kernel⟩ e79 (by decide) (fun H locs _ hS => any_S g.gn (by decide) H locs hS) (by decide) (by decide) (by decide) (Or.inl ⟨rfl, rfl, rfl, rfl, by decide, by decide⟩) (by decide +kernel) d_Mo_init_787 ?_
  refine nn_dup (pc := 788) g.1 d_Mo_init_788 rfl ?_
  refine nn_iconst (pc := 789) g.1 (v := 3) d_Mo_init_789 (by decide) ?_
  refine nn_ldcwS (pc := 790) (t := 27) g.gn (by decide) rfl rfl d_Mo_init_790 ?_
  refine nn_aast (pc := 793) (r := 79) (f := 179003) (fi := 0) g.gn ⟨⟨rfl, by decide, by decide⟩, by decide +kernel⟩ e79 (by decide) (fun H locs _ hS => any_S g.gn (by decide) H locs hS) (by decide) (by decide) (by decide) (Or.inl ⟨rfl, rfl, rfl, rfl, by decide, by decide⟩) (by decide +kernel) d_Mo_init_793 ?_
  refine nn_dup (pc := 794) g.1 d_Mo_init_794 rfl ?_
  refine nn_iconst (pc := 795) g.1 (v := 4) d_Mo_init_795 (by decide) ?_
  refine nn_ldcwS (pc := 796) (t := 28) g.gn (by decide) rfl rfl d_Mo_init_796 ?_
  refine nn_aast (pc := 799) (r := 79) (f := 179004) (fi := 0) g.gn ⟨⟨rfl, by decide, by decide⟩, by decide +kernel⟩ e79 (by decide) (fun H locs _ hS => any_S g.gn (by decide) H locs hS) (by decide) (by decide) (by decide) (Or.inl ⟨rfl, rfl, rfl, rfl, by decide, by decide⟩) (by decide +kernel) d_Mo_init_799 ?_
  refine nn_dup (pc := 800) g.1 d_Mo_init_800 rfl ?_
  refine nn_iconst (pc := 801) g.1 (v := 5) d_Mo_init_801 (by decide) ?_
  refine nn_ldcwS (pc := 802) (t := 29) g.gn (by decide) rfl rfl d_Mo_init_802 ?_
  refine nn_aast (pc := 805) (r := 79) (f := 179005) (fi := 0) g.gn ⟨⟨rfl, by decide, by decide⟩, by decide +kernel⟩ e79 (by decide) (fun H locs _ hS => any_S g.gn (by decide) H locs hS) (by decide) (by decide) (by decide) (Or.inl ⟨rfl, rfl, rfl, rfl, by decide, by decide⟩) (by decide +kernel) d_Mo_init_805 ?_
  refine nn_dup (pc := 806) g.1 d_Mo_init_806 rfl ?_
  refine nn_bipush (pc := 807) g.1 (v := 6) d_Mo_init_807 (by decide) ?_
  refine nn_ldcwS (pc := 809) (t := 30) g.gn (by decide) rfl rfl d_Mo_init_809 ?_
  refine nn_aast (pc := 812) (r := 79) (f := 179006) (fi := 0) g.gn ⟨⟨rfl, by decide, by decide⟩, by decide +kernel⟩ e79 (by decide) (fun H locs _ hS => any_S g.gn (by decide) H locs hS) (by decide) (by decide) (by decide) (Or.inl ⟨rfl, rfl, rfl, rfl, by decide, by decide⟩) (by decide +kernel) d_Mo_init_812 ?_
  refine nn_dup (pc := 813) g.1 d_Mo_init_813 rfl ?_
  refine nn_bipush (pc := 814) g.1 (v := 7) d_Mo_init_814 (by decide) ?_
  refine nn_ldcwS (pc := 816) (t := 31) g.gn (by decide) rfl rfl d_Mo_init_816 ?_
  refine nn_aast (pc := 819) (r := 79) (f := 179007) (fi := 0) g.gn ⟨⟨rfl, by decide, by decide⟩, by decide +kernel⟩ e79 (by decide) (fun H locs _ hS => any_S g.gn (by decide) H locs hS) (by decide) (by decide) (by decide) (Or.inl ⟨rfl, rfl, rfl, rfl, by decide, by decide⟩) (by decide +kernel) d_Mo_init_819 ?_
  refine nn_dup (pc := 820) g.1 d_Mo_init_820 rfl ?_
  refine nn_bipush (pc := 821) g.1 (v := 8) d_Mo_init_821 (by decide) ?_
  refine nn_ldcwS (pc := 823) (t := 32) g.gn (by decide) rfl rfl d_Mo_init_823 ?_
  refine nn_aast (pc := 826) (r := 79) (f := 179008) (fi := 0) g.gn ⟨⟨rfl, by decide, by decide⟩, by decide +kernel⟩ e79 (by decide) (fun H locs _ hS => any_S g.gn (by decide) H locs hS) (by decide) (by decide) (by decide) (Or.inl ⟨rfl, rfl, rfl, rfl, by decide, by decide⟩) (by decide +kernel) d_Mo_init_826 ?_
  refine nn_dup (pc := 827) g.1 d_Mo_init_827 rfl ?_
  refine nn_bipush (pc := 828) g.1 (v := 9) d_Mo_init_828 (by decide) ?_
  refine nn_ldcwS (pc := 830) (t := 33) g.gn (by decide) rfl rfl d_Mo_init_830 ?_
  refine nn_aast (pc := 833) (r := 79) (f := 179009) (fi := 0) g.gn ⟨⟨rfl, by decide, by decide⟩, by decide +kernel⟩ e79 (by decide) (fun H locs _ hS => any_S g.gn (by decide) H locs hS) (by decide) (by decide) (by decide) (Or.inl ⟨rfl, rfl, rfl, rfl, by decide, by decide⟩) (by decide +kernel) d_Mo_init_833 ?_
  refine nn_dup (pc := 834) g.1 d_Mo_init_834 rfl ?_
  refine nn_bipush (pc := 835) g.1 (v := 10) d_Mo_init_835 (by decide) ?_
  refine nn_ldcwS (pc := 837) (t := 34) g.gn (by decide) rfl rfl d_Mo_init_837 ?_
  refine nn_aast (pc := 840) (r := 79) (f := 179010) (fi := 0) g.gn ⟨⟨rfl, by decide, by decide⟩, by decide +kernel⟩ e79 (by decide) (fun H locs _ hS => any_S g.gn (by decide) H locs hS) (by decide) (by decide) (by decide) (Or.inl ⟨rfl, rfl, rfl, rfl, by decide, by decide⟩) (by decide +kernel) d_Mo_init_840 ?_
  refine nn_dup (pc := 841) g.1 d_Mo_init_841 rfl ?_
  refine nn_bipush (pc := 842) g.1 (v := 11) d_Mo_init_842 (by decide) ?_
  refine nn_ldcwS (pc := 844) (t := 35) g.gn (by decide) rfl rfl d_Mo_init_844 ?_
  refine nn_aast (pc := 847) (r := 79) (f := 179011) (fi := 0) g.gn ⟨⟨rfl, by decide, by decide⟩, by decide +kernel⟩ e79 (by decide) (fun H locs _ hS => any_S g.gn (by decide) H locs hS) (by decide) (by decide) (by decide) (Or.inl ⟨rfl, rfl, rfl, rfl, by decide, by decide⟩) (by decide +kernel) d_Mo_init_847 ?_
  refine nn_dup (pc := 848) g.1 d_Mo_init_848 rfl ?_
  refine nn_bipush (pc := 849) g.1 (v := 12) d_Mo_init_849 (by decide) ?_
  refine nn_ldcwS (pc := 851) (t := 36) g.gn (by decide) rfl rfl d_Mo_init_851 ?_
  refine nn_aast (pc := 854) (r := 79) (f := 179012) (fi := 0) g.gn ⟨⟨rfl, by decide, by decide⟩, by decide +kernel⟩ e79 (by decide) (fun H locs _ hS => any_S g.gn (by decide) H locs hS) (by decide) (by decide) (by decide) (Or.inl ⟨rfl, rfl, rfl, rfl, by decide, by decide⟩) (by decide +kernel) d_Mo_init_854 ?_
  refine nn_dup (pc := 855) g.1 d_Mo_init_855 rfl ?_
  refine nn_bipush (pc := 856) g.1 (v := 13) d_Mo_init_856 (by decide) ?_
  refine nn_ldcwS (pc := 858) (t := 37) g.gn (by decide) rfl rfl d_Mo_init_858 ?_
  refine nn_aast (pc := 861) (r := 79) (f := 179013) (fi := 0) g.gn ⟨⟨rfl, by decide, by decide⟩, by decide +kernel⟩ e79 (by decide) (fun H locs _ hS => any_S g.gn (by decide) H locs hS) (by decide) (by decide) (by decide) (Or.inl ⟨rfl, rfl, rfl, rfl, by decide, by decide⟩) (by decide +kernel) d_Mo_init_861 ?_
  refine nn_dup (pc := 862) g.1 d_Mo_init_862 rfl ?_
  refine nn_bipush (pc := 863) g.1 (v := 14) d_Mo_init_863 (by decide) ?_
  refine nn_ldcwS (pc := 865) (t := 38) g.gn (by decide) rfl rfl d_Mo_init_865 ?_
  refine nn_aast (pc := 868) (r := 79) (f := 179014) (fi := 0) g.gn ⟨⟨rfl, by decide, by decide⟩, by decide +kernel⟩ e79 (by decide) (fun H locs _ hS => any_S g.gn (by decide) H locs hS) (by decide) (by decide) (by decide) (Or.inl ⟨rfl, rfl, rfl, rfl, by decide, by decide⟩) (by decide +kernel) d_Mo_init_868 ?_
  refine nn_dup (pc := 869) g.1 d_Mo_init_869 rfl ?_
  refine nn_bipush (pc := 870) g.1 (v := 15) d_Mo_init_870 (by decide) ?_
  refine nn_ldcwS (pc := 872) (t := 39) g.gn (by decide) rfl rfl d_Mo_init_872 ?_
  refine nn_aast (pc := 875) (r := 79) (f := 179015) (fi := 0) g.gn ⟨⟨rfl, by decide, by decide⟩, by decide +kernel⟩ e79 (by decide) (fun H locs _ hS => any_S g.gn (by decide) H locs hS) (by decide) (by decide) (by decide) (Or.inl ⟨rfl, rfl, rfl, rfl, by decide, by decide⟩) (by decide +kernel) d_Mo_init_875 ?_
  refine nn_dup (pc := 876) g.1 d_Mo_init_876 rfl ?_
  refine nn_bipush (pc := 877) g.1 (v := 16) d_Mo_init_877 (by decide) ?_
  refine nn_ldcwS (pc := 879) (t := 40) g.gn (by decide) rfl rfl d_Mo_init_879 ?_
  refine nn_aast (pc := 882) (r := 79) (f := 179016) (fi := 0) g.gn ⟨⟨rfl, by decide, by decide⟩, by decide +kernel⟩ e79 (by decide) (fun H locs _ hS => any_S g.gn (by decide) H locs hS) (by decide) (by decide) (by decide) (Or.inl ⟨rfl, rfl, rfl, rfl, by decide, by decide⟩) (by decide +kernel) d_Mo_init_882 ?_
  refine nn_dup (pc := 883) g.1 d_Mo_init_883 rfl ?_
  refine nn_bipush (pc := 884) g.1 (v := 17) d_Mo_init_884 (by decide) ?_
  refine nn_ldcwS (pc := 886) (t := 41) g.gn (by decide) rfl rfl d_Mo_init_886 ?_
  refine nn_aast (pc := 889) (r := 79) (f := 179017) (fi := 0) g.gn ⟨⟨rfl, by decide, by decide⟩, by decide +kernel⟩ e79 (by decide) (fun H locs _ hS => any_S g.gn (by decide) H locs hS) (by decide) (by decide) (by decide) (Or.inl ⟨rfl, rfl, rfl, rfl, by decide, by decide⟩) (by decide +kernel) d_Mo_init_889 ?_
  refine nn_dup (pc := 890) g.1 d_Mo_init_890 rfl ?_
  refine nn_bipush (pc := 891) g.1 (v := 18) d_Mo_init_891 (by decide) ?_
  refine nn_ldcwS (pc := 893) (t := 42) g.gn (by decide) rfl rfl d_Mo_init_893 ?_
  refine nn_aast (pc := 896) (r := 79) (f := 179018) (fi := 0) g.gn ⟨⟨rfl, by decide, by decide⟩, by decide +kernel⟩ e79 (by decide) (fun H locs _ hS => any_S g.gn (by decide) H locs hS) (by decide) (by decide) (by decide) (Or.inl ⟨rfl, rfl, rfl, rfl, by decide, by decide⟩) (by decide +kernel) d_Mo_init_896 ?_
  refine nn_dup (pc := 897) g.1 d_Mo_init_897 rfl ?_
  refine nn_bipush (pc := 898) g.1 (v := 19) d_Mo_init_898 (by decide) ?_
  refine nn_ldcwS (pc := 900) (t := 43) g.gn (by decide) rfl rfl d_Mo_init_900 ?_
  refine nn_aast (pc := 903) (r := 79) (f := 179019) (fi := 0) g.gn ⟨⟨rfl, by decide, by decide⟩, by decide +kernel⟩ e79 (by decide) (fun H locs _ hS => any_S g.gn (by decide) H locs hS) (by decide) (by decide) (by decide) (Or.inl ⟨rfl, rfl, rfl, rfl, by decide, by decide⟩) (by decide +kernel) d_Mo_init_903 ?_
  refine nn_dup (pc := 904) g.1 d_Mo_init_904 rfl ?_
  refine nn_bipush (pc := 905) g.1 (v := 20) d_Mo_init_905 (by decide) ?_
  refine nn_ldcwS (pc := 907) (t := 44) g.gn (by decide) rfl rfl d_Mo_init_907 ?_
  refine nn_aast (pc := 910) (r := 79) (f := 179020) (fi := 0) g.gn ⟨⟨rfl, by decide, by decide⟩, by decide +kernel⟩ e79 (by decide) (fun H locs _ hS => any_S g.gn (by decide) H locs hS) (by decide) (by decide) (by decide) (Or.inl ⟨rfl, rfl, rfl, rfl, by decide, by decide⟩) (by decide +kernel) d_Mo_init_910 ?_
  refine nn_dup (pc := 911) g.1 d_Mo_init_911 rfl ?_
  refine nn_bipush (pc := 912) g.1 (v := 21) d_Mo_init_912 (by decide) ?_
  refine nn_ldcwS (pc := 914) (t := 45) g.gn (by decide) rfl rfl d_Mo_init_914 ?_
  refine nn_aast (pc := 917) (r := 79) (f := 179021) (fi := 0) g.gn ⟨⟨rfl, by decide, by decide⟩, by decide +kernel⟩ e79 (by decide) (fun H locs _ hS => any_S g.gn (by decide) H locs hS) (by decide) (by decide) (by decide) (Or.inl ⟨rfl, rfl, rfl, rfl, by decide, by decide⟩) (by decide +kernel) d_Mo_init_917 ?_
  refine nn_put (pc := 918) (r := 0) (k := 84) (n' := 255) g cl_Mo ⟨⟨rfl, by decide, by decide⟩, by decide +kernel⟩ (by decide) (Or.inl kn_220) (Or.inr ⟨rfl, hnm, rfl, kn_220⟩) e0 rfl rfl (Or.inl ⟨(by decide +kernel), rfl, (fvR rfl rfl e79)⟩) d_Mo_init_918 ?_
  refine nn_aload_n (pc := 921) g.1 d_Mo_init_921 rfl (lv_at hl 0 rfl) ?_
  refine nn_bipush (pc := 922) g.1 (v := 7) d_Mo_init_922 (by decide) ?_
  refine nn_anew (pc := 924) (r := 80) (i := 0) (N := 7) (m := (m.1 + 735, m.2 + 814355)) g.gn (by decide) ⟨rfl, by decide, by decide⟩ (by decide +kernel) (by decide) rfl (by decide) (by decide) (fun j hj => hz_80 j hj) (hm.le (by dsimp only; omega) (by dsimp only; omega)) kn_218 kxn_7 d_Mo_init_924 fun q924 a80 hk e80 hm => ?_
  have e0 : q924.1 0 0 = a0 := (hk 0 0 ⟨⟨rfl, by decide, by decide⟩, by decide +kernel⟩).trans e0
  have e41 : q924.1 41 0 = a41 := (hk 41 0 ⟨⟨rfl, by decide, by decide⟩, by decide +kernel⟩).trans e41
  have e42 : q924.1 42 0 = a42 := (hk 42 0 ⟨⟨rfl, by decide, by decide⟩, by decide +kernel⟩).trans e42
  have e43 : q924.1 43 0 = a43 := (hk 43 0 ⟨⟨rfl, by decide, by decide⟩, by decide +kernel⟩).trans e43
  have e44 : q924.1 44 0 = a44 := (hk 44 0 ⟨⟨rfl, by decide, by decide⟩, by decide +kernel⟩).trans e44
  have e45 : q924.1 45 0 = a45 := (hk 45 0 ⟨⟨rfl, by decide, by decide⟩, by decide +kernel⟩).trans e45
  have e46 : q924.1 46 0 = a46 := (hk 46 0 ⟨⟨rfl, by decide, by decide⟩, by decide +kernel⟩).trans e46
  have e47 : q924.1 47 0 = a47 := (hk 47 0 ⟨⟨rfl, by decide, by decide⟩, by decide +kernel⟩).trans e47
  have e48 : q924.1 48 0 = a48 := (hk 48 0 ⟨⟨rfl, by decide, by decide⟩, by decide +kernel⟩).trans e48
  have e49 : q924.1 49 0 = a49 := (hk 49 0 ⟨⟨rfl, by decide, by decide⟩, by decide +kernel⟩).trans e49
  have e50 : q924.1 50 0 = a50 := (hk 50 0 ⟨⟨rfl, by decide, by decide⟩, by decide +kernel⟩).trans e50
  have e51 : q924.1 51 0 = a51 := (hk 51 0 ⟨⟨rfl, by decide, by decide⟩, by decide +kernel⟩).trans e51
  have e52 : q924.1 52 0 = a52 := (hk 52 0 ⟨⟨rfl, by decide, by decide⟩, by decide +kernel⟩).trans e52
  have e53 : q924.1 53 0 = a53 := (hk 53 0 ⟨⟨rfl, by decide, by decide⟩, by decide +kernel⟩).trans e53
  have e54 : q924.1 54 0 = a54 := (hk 54 0 ⟨⟨rfl, by decide, by decide⟩, by decide +kernel⟩).trans e54
  have e55 : q924.1 55 0 = a55 := (hk 55 0 ⟨⟨rfl, by decide, by decide⟩, by decide +kernel⟩).trans e55
  have e56 : q924.1 56 0 = a56 := (hk 56 0 ⟨⟨rfl, by decide, by decide⟩, by decide +kernel⟩).trans e56
  have e1 : q924.1 1 0 = a1 := (hk 1 0 ⟨⟨rfl, by decide, by decide⟩, by decide +kernel⟩).trans e1
  have e57 : q924.1 57 0 = a57 := (hk 57 0 ⟨⟨rfl, by decide, by decide⟩, by decide +kernel⟩).trans e57
  have e58 : q924.1 58 0 = a58 := (hk 58 0 ⟨⟨rfl, by decide, by decide⟩, by decide +kernel⟩).trans e58
  have e59 : q924.1 59 0 = a59 := (hk 59 0 ⟨⟨rfl, by decide, by decide⟩, by decide +kernel⟩).trans e59
  have e60 : q924.1 60 0 = a60 := (hk 60 0 ⟨⟨rfl, by decide, by decide⟩, by decide +kernel⟩).trans e60
  have e61 : q924.1 61 0 = a61 := (hk 61 0 ⟨⟨rfl, by decide, by decide⟩, by decide +kernel⟩).trans e61
  have e62 : q924.1 62 0 = a62 := (hk 62 0 ⟨⟨rfl, by decide, by decide⟩, by decide +kernel⟩).trans e62
  have e63 : q924.1 63 0 = a63 := (hk 63 0 ⟨⟨rfl, by decide, by decide⟩, by decide +kernel⟩).trans e63
  have e64 : q924.1 64 0 = a64 := (hk 64 0 ⟨⟨rfl, by decide, by decide⟩, by decide +kernel⟩).trans e64
  have e65 : q924.1 65 0 = a65 := (hk 65 0 ⟨⟨rfl, by decide, by decide⟩, by decide +kernel⟩).trans e65
  have e66 : q924.1 66 0 = a66 := (hk 66 0 ⟨⟨rfl, by decide, by decide⟩, by decide +kernel⟩).trans e66
  have e67 : q924.1 67 0 = a67 := (hk 67 0 ⟨⟨rfl, by decide, by decide⟩, by decide +kernel⟩).trans e67
  have e68 : q924.1 68 0 = a68 := (hk 68 0 ⟨⟨rfl, by decide, by decide⟩, by decide +kernel⟩).trans e68
  have e4 : q924.1 4 0 = a4 := (hk 4 0 ⟨⟨rfl, by decide, by decide⟩, by decide +kernel⟩).trans e4
  have e75 : q924.1 75 0 = a75 := (hk 75 0 ⟨⟨rfl, by decide, by decide⟩, by decide +kernel⟩).trans e75
  have e16 : q924.1 16 0 = a16 := (hk 16 0 ⟨⟨rfl, by decide, by decide⟩, by decide +kernel⟩).trans e16
  have e76 : q924.1 76 0 = a76 := (hk 76 0 ⟨⟨rfl, by decide, by decide⟩, by decide +kernel⟩).trans e76
  have e7 : q924.1 7 0 = a7 := (hk 7 0 ⟨⟨rfl, by decide, by decide⟩, by decide +kernel⟩).trans e7
  have e10 : q924.1 10 0 = a10 := (hk 10 0 ⟨⟨rfl, by decide, by decide⟩, by decide +kernel⟩).trans e10
  have e13 : q924.1 13 0 = a13 := (hk 13 0 ⟨⟨rfl, by decide, by decide⟩, by decide +kernel⟩).trans e13
  have e77 : q924.1 77 0 = a77 := (hk 77 0 ⟨⟨rfl, by decide, by decide⟩, by decide +kernel⟩).trans e77
  have e78 : q924.1 78 0 = a78 := (hk 78 0 ⟨⟨rfl, by decide, by decide⟩, by decide +kernel⟩).trans e78
  have e79 : q924.1 79 0 = a79 := (hk 79 0 ⟨⟨rfl, by decide, by decide⟩, by decide +kernel⟩).trans e79
  have hkp := hkp.tr hk (by decide)
  refine nn_dup (pc := 927) g.1 d_Mo_init_927 rfl ?_
  refine nn_iconst (pc := 928) g.1 (v := 0) d_Mo_init_928 (by decide) ?_
  refine nn_ldcwS (pc := 929) (t := 46) g.gn (by decide) rfl rfl d_Mo_init_929 ?_
  refine nn_aast (pc := 932) (r := 80) (f := 180000) (fi := 0) g.gn ⟨⟨rfl, by decide, by decide⟩, by decide +kernel⟩ e80 (by decide) (fun H locs _ hS => any_S g.gn (by decide) H locs hS) (by decide) (by decide) (by decide) (Or.inl ⟨rfl, rfl, rfl, rfl, by decide, by decide⟩) (by decide +kernel) d_Mo_init_932 ?_
  refine nn_dup (pc := 933) g.1 d_Mo_init_933 rfl ?_
  refine nn_iconst (pc := 934) g.1 (v := 1) d_Mo_init_934 (by decide) ?_
  refine nn_ldcwS (pc := 935) (t := 47) g.gn (by decide) rfl rfl d_Mo_init_935 ?_
  refine nn_aast (pc := 938) (r := 80) (f := 180001) (fi := 0) g.gn ⟨⟨rfl, by decide, by decide⟩, by decide +kernel⟩ e80 (by decide) (fun H locs _ hS => any_S g.gn (by decide) H locs hS) (by decide) (by decide) (by decide) (Or.inl ⟨rfl, rfl, rfl, rfl, by decide, by decide⟩) (by decide +kernel) d_Mo_init_938 ?_
  refine nn_dup (pc := 939) g.1 d_Mo_init_939 rfl ?_
  refine nn_iconst (pc := 940) g.1 (v := 2) d_Mo_init_940 (by decide) ?_
  refine nn_ldcwS (pc := 941) (t := 48) g.gn (by decide) rfl rfl d_Mo_init_941 ?_
  refine nn_aast (pc := 944) (r := 80) (f := 180002) (fi := 0) g.gn ⟨⟨rfl, by decide, by decide⟩, by decide +kernel⟩ e80 (by decide) (fun H locs _ hS => any_S g.gn (by decide) H locs hS) (by decide) (by decide) (by decide) (Or.inl ⟨rfl, rfl, rfl, rfl, by decide, by decide⟩) (by decide +kernel) d_Mo_init_944 ?_
  refine nn_dup (pc := 945) g.1 d_Mo_init_945 rfl ?_
  refine nn_iconst (pc := 946) g.1 (v := 3) d_Mo_init_946 (by decide) ?_
  refine nn_ldcwS (pc := 947) (t := 49) g.gn (by decide) rfl rfl d_Mo_init_947 ?_
  refine nn_aast (pc := 950) (r := 80) (f := 180003) (fi := 0) g.gn ⟨⟨rfl, by decide, by decide⟩, by decide +kernel⟩ e80 (by decide) (fun H locs _ hS => any_S g.gn (by decide) H locs hS) (by decide) (by decide) (by decide) (Or.inl ⟨rfl, rfl, rfl, rfl, by decide, by decide⟩) (by decide +kernel) d_Mo_init_950 ?_
  refine nn_dup (pc := 951) g.1 d_Mo_init_951 rfl ?_
  refine nn_iconst (pc := 952) g.1 (v := 4) d_Mo_init_952 (by decide) ?_
  refine nn_ldcwS (pc := 953) (t := 50) g.gn (by decide) rfl rfl d_Mo_init_953 ?_
  refine nn_aast (pc := 956) (r := 80) (f := 180004) (fi := 0) g.gn ⟨⟨rfl, by decide, by decide⟩, by decide +kernel⟩ e80 (by decide) (fun H locs _ hS => any_S g.gn (by decide) H locs hS) (by decide) (by decide) (by decide) (Or.inl ⟨rfl, rfl, rfl, rfl, by decide, by decide⟩) (by decide +kernel) d_Mo_init_956 ?_
  refine nn_dup (pc := 957) g.1 d_Mo_init_957 rfl ?_
  refine nn_iconst (pc := 958) g.1 (v := 5) d_Mo_init_958 (by decide) ?_
  refine nn_ldcwS (pc := 959) (t := 51) g.gn (by decide) rfl rfl d_Mo_init_959 ?_
  refine nn_aast (pc := 962) (r := 80) (f := 180005) (fi := 0) g.gn ⟨⟨rfl, by decide, by decide⟩, by decide +kernel⟩ e80 (by decide) (fun H locs _ hS => any_S g.gn (by decide) H locs hS) (by decide) (by decide) (by decide) (Or.inl ⟨rfl, rfl, rfl, rfl, by decide, by decide⟩) (by decide +kernel) d_Mo_init_962 ?_
  refine nn_dup (pc := 963) g.1 d_Mo_init_963 rfl ?_
  refine nn_bipush (pc := 964) g.1 (v := 6) d_Mo_init_964 (by decide) ?_
  refine nn_ldcwS (pc := 966) (t := 52) g.gn (by decide) rfl rfl d_Mo_init_966 ?_
  refine nn_aast (pc := 969) (r := 80) (f := 180006) (fi := 0) g.gn ⟨⟨rfl, by decide, by decide⟩, by decide +kernel⟩ e80 (by decide) (fun H locs _ hS => any_S g.gn (by decide) H locs hS) (by decide) (by decide) (by decide) (Or.inl ⟨rfl, rfl, rfl, rfl, by decide, by decide⟩) (by decide +kernel) d_Mo_init_969 ?_
  refine nn_put (pc := 970) (r := 0) (k := 85) (n' := 264) g cl_Mo ⟨⟨rfl, by decide, by decide⟩, by decide +kernel⟩ (by decide) (Or.inl kn_221) (Or.inr ⟨rfl, hnm, rfl, kn_221⟩) e0 rfl rfl (Or.inl ⟨(by decide +kernel), rfl, (fvR rfl rfl e80)⟩) d_Mo_init_970 ?_
  refine nn_aload_n (pc := 973) g.1 d_Mo_init_973 rfl (lv_at hl 0 rfl) ?_
  refine nn_iconst (pc := 974) g.1 (v := 4) d_Mo_init_974 (by decide) ?_
  refine nn_anew (pc := 975) (r := 81) (i := 0) (N := 4) (m := (m.1 + 734, m.2 + 814351)) g.gn (by decide) ⟨rfl, by decide, by decide⟩ (by decide +kernel) (by decide) rfl (by decide) (by decide) (fun j hj => hz_81 j hj) (hm.le (by dsimp only; omega) (by dsimp only; omega)) kn_218 kxn_7 d_Mo_init_975 fun q975 a81 hk e81 hm => ?_
  have e0 : q975.1 0 0 = a0 := (hk 0 0 ⟨⟨rfl, by decide, by decide⟩, by decide +kernel⟩).trans e0
  have e41 : q975.1 41 0 = a41 := (hk 41 0 ⟨⟨rfl, by decide, by decide⟩, by decide +kernel⟩).trans e41
  have e42 : q975.1 42 0 = a42 := (hk 42 0 ⟨⟨rfl, by decide, by decide⟩, by decide +kernel⟩).trans e42
  have e43 : q975.1 43 0 = a43 := (hk 43 0 ⟨⟨rfl, by decide, by decide⟩, by decide +kernel⟩).trans e43
  have e44 : q975.1 44 0 = a44 := (hk 44 0 ⟨⟨rfl, by decide, by decide⟩, by decide +kernel⟩).trans e44
  have e45 : q975.1 45 0 = a45 := (hk 45 0 ⟨⟨rfl, by decide, by decide⟩, by decide +kernel⟩).trans e45
  have e46 : q975.1 46 0 = a46 := (hk 46 0 ⟨⟨rfl, by decide, by decide⟩, by decide +kernel⟩).trans e46
  have e47 : q975.1 47 0 = a47 := (hk 47 0 ⟨⟨rfl, by decide, by decide⟩, by decide +kernel⟩).trans e47
  have e48 : q975.1 48 0 = a48 := (hk 48 0 ⟨⟨rfl, by decide, by decide⟩, by decide +kernel⟩).trans e48
  have e49 : q975.1 49 0 = a49 := (hk 49 0 ⟨⟨rfl, by decide, by decide⟩, by decide +kernel⟩).trans e49
  have e50 : q975.1 50 0 = a50 := (hk 50 0 ⟨⟨rfl, by decide, by decide⟩, by decide +kernel⟩).trans e50
  have e51 : q975.1 51 0 = a51 := (hk 51 0 ⟨⟨rfl, by decide, by decide⟩, by decide +kernel⟩).trans e51
  have e52 : q975.1 52 0 = a52 := (hk 52 0 ⟨⟨rfl, by decide, by decide⟩, by decide +kernel⟩).trans e52
  have e53 : q975.1 53 0 = a53 := (hk 53 0 ⟨⟨rfl, by decide, by decide⟩, by decide +kernel⟩).trans e53
  have e54 : q975.1 54 0 = a54 := (hk 54 0 ⟨⟨rfl, by decide, by decide⟩, by decide +kernel⟩).trans e54
  have e55 : q975.1 55 0 = a55 := (hk 55 0 ⟨⟨rfl, by decide, by decide⟩, by decide +kernel⟩).trans e55
  have e56 : q975.1 56 0 = a56 := (hk 56 0 ⟨⟨rfl, by decide, by decide⟩, by decide +kernel⟩).trans e56
  have e1 : q975.1 1 0 = a1 := (hk 1 0 ⟨⟨rfl, by decide, by decide⟩, by decide +kernel⟩).trans e1
  have e57 : q975.1 57 0 = a57 := (hk 57 0 ⟨⟨rfl, by decide, by decide⟩, by decide +kernel⟩).trans e57
  have e58 : q975.1 58 0 = a58 := (hk 58 0 ⟨⟨rfl, by decide, by decide⟩, by decide +kernel⟩).trans e58
  have e59 : q975.1 59 0 = a59 := (hk 59 0 ⟨⟨rfl, by decide, by decide⟩, by decide +kernel⟩).trans e59
  have e60 : q975.1 60 0 = a60 := (hk 60 0 ⟨⟨rfl, by decide, by decide⟩, by decide +kernel⟩).trans e60
  have e61 : q975.1 61 0 = a61 := (hk 61 0 ⟨⟨rfl, by decide, by decide⟩, by decide +kernel⟩).trans e61
  have e62 : q975.1 62 0 = a62 := (hk 62 0 ⟨⟨rfl, by decide, by decide⟩, by decide +kernel⟩).trans e62
  have e63 : q975.1 63 0 = a63 := (hk 63 0 ⟨⟨rfl, by decide, by decide⟩, by decide +kernel⟩).trans e63
  have e64 : q975.1 64 0 = a64 := (hk 64 0 ⟨⟨rfl, by decide, by decide⟩, by decide +kernel⟩).trans e64
  have e65 : q975.1 65 0 = a65 := (hk 65 0 ⟨⟨rfl, by decide, by decide⟩, by decide +kernel⟩).trans e65
  have e66 : q975.1 66 0 = a66 := (hk 66 0 ⟨⟨rfl, by decide, by decide⟩, by decide +kernel⟩).trans e66
  have e67 : q975.1 67 0 = a67 := (hk 67 0 ⟨⟨rfl, by decide, by decide⟩, by decide +kernel⟩).trans e67
  have e68 : q975.1 68 0 = a68 := (hk 68 0 ⟨⟨rfl, by decide, by decide⟩, by decide +kernel⟩).trans e68
  have e4 : q975.1 4 0 = a4 := (hk 4 0 ⟨⟨rfl, by decide, by decide⟩, by decide +kernel⟩).trans e4
  have e75 : q975.1 75 0 = a75 := (hk 75 0 ⟨⟨rfl, by decide, by decide⟩, by decide +kernel⟩).trans e75
  have e16 : q975.1 16 0 = a16 := (hk 16 0 ⟨⟨rfl, by decide, by decide⟩, by decide +kernel⟩).trans e16
  have e76 : q975.1 76 0 = a76 := (hk 76 0 ⟨⟨rfl, by decide, by decide⟩, by decide +kernel⟩).trans e76
  have e7 : q975.1 7 0 = a7 := (hk 7 0 ⟨⟨rfl, by decide, by decide⟩, by decide +kernel⟩).trans e7
  have e10 : q975.1 10 0 = a10 := (hk 10 0 ⟨⟨rfl, by decide, by decide⟩, by decide +kernel⟩).trans e10
  have e13 : q975.1 13 0 = a13 := (hk 13 0 ⟨⟨rfl, by decide, by decide⟩, by decide +kernel⟩).trans e13
  have e77 : q975.1 77 0 = a77 := (hk 77 0 ⟨⟨rfl, by decide, by decide⟩, by decide +kernel⟩).trans e77
  have e78 : q975.1 78 0 = a78 := (hk 78 0 ⟨⟨rfl, by decide, by decide⟩, by decide +kernel⟩).trans e78
  have e79 : q975.1 79 0 = a79 := (hk 79 0 ⟨⟨rfl, by decide, by decide⟩, by decide +kernel⟩).trans e79
  have e80 : q975.1 80 0 = a80 := (hk 80 0 ⟨⟨rfl, by decide, by decide⟩, by decide +kernel⟩).trans e80
  have hkp := hkp.tr hk (by decide)
  refine nn_dup (pc := 978) g.1 d_Mo_init_978 rfl ?_
  refine nn_iconst (pc := 979) g.1 (v := 0) d_Mo_init_979 (by decide) ?_
  refine nn_ldcwS (pc := 980) (t := 53) g.gn (by decide) rfl rfl d_Mo_init_980 ?_
  refine nn_aast (pc := 983) (r := 81) (f := 181000) (fi := 0) g.gn ⟨⟨rfl, by decide, by decide⟩, by decide +kernel⟩ e81 (by decide) (fun H locs _ hS => any_S g.gn (by decide) H locs hS) (by decide) (by decide) (by decide) (Or.inl ⟨rfl, rfl, rfl, rfl, by decide, by decide⟩) (by decide +kernel) d_Mo_init_983 ?_
  refine nn_dup (pc := 984) g.1 d_Mo_init_984 rfl ?_
  refine nn_iconst (pc := 985) g.1 (v := 1) d_Mo_init_985 (by decide) ?_
  refine nn_ldcwS (pc := 986) (t := 54) g.gn (by decide) rfl rfl d_Mo_init_986 ?_
  refine nn_aast (pc := 989) (r := 81) (f := 181001) (fi := 0) g.gn ⟨⟨rfl, by decide, by decide⟩, by decide +kernel⟩ e81 (by decide) (fun H locs _ hS => any_S g.gn (by decide) H locs hS) (by decide) (by decide) (by decide) (Or.inl ⟨rfl, rfl, rfl, rfl, by decide, by decide⟩) (by decide +kernel) d_Mo_init_989 ?_
  refine nn_dup (pc := 990) g.1 d_Mo_init_990 rfl ?_
  refine nn_iconst (pc := 991) g.1 (v := 2) d_Mo_init_991 (by decide) ?_
  refine nn_ldcwS (pc := 992) (t := 55) g.gn (by decide) rfl rfl d_Mo_init_992 ?_
  refine nn_aast (pc := 995) (r := 81) (f := 181002) (fi := 0) g.gn ⟨⟨rfl, by decide, by decide⟩, by decide +kernel⟩ e81 (by decide) (fun H locs _ hS => any_S g.gn (by decide) H locs hS) (by decide) (by decide) (by decide) (Or.inl ⟨rfl, rfl, rfl, rfl, by decide, by decide⟩) (by decide +kernel) d_Mo_init_995 ?_
  refine nn_dup (pc := 996) g.1 d_Mo_init_996 rfl ?_
  refine nn_iconst (pc := 997) g.1 (v := 3) d_Mo_init_997 (by decide) ?_
  refine nn_ldcwS (pc := 998) (t := 56) g.gn (by decide) rfl rfl d_Mo_init_998 ?_
  refine nn_aast (pc := 1001) (r := 81) (f := 181003) (fi := 0) g.gn ⟨⟨rfl, by decide, by decide⟩, by decide +kernel⟩ e81 (by decide) (fun H locs _ hS => any_S g.gn (by decide) H locs hS) (by decide) (by decide) (by decide) (Or.inl ⟨rfl, rfl, rfl, rfl, by decide, by decide⟩) (by decide +kernel) d_Mo_init_1001 ?_
  refine nn_put (pc := 1002) (r := 0) (k := 86) (n' := 270) g cl_Mo ⟨⟨rfl, by decide, by decide⟩, by decide +kernel⟩ (by decide) (Or.inl kn_222) (Or.inr ⟨rfl, hnm, rfl, kn_222⟩) e0 rfl rfl (Or.inl ⟨(by decide +kernel), rfl, (fvR rfl rfl e81)⟩) d_Mo_init_1002 ?_
  refine nn_aload_n (pc := 1005) g.1 d_Mo_init_1005 rfl (lv_at hl 0 rfl) ?_
  refine nn_bipush (pc := 1006) g.1 (v := 22) d_Mo_init_1006 (by decide) ?_
  refine nn_arr (pc := 1008) (r := 82) (i := 0) (N := 22) (at0 := .int) (m := (m.1 + 733, m.2 + 814329)) g.gn rfl (by decide) ⟨rfl, by decide, by decide⟩ (by decide +kernel) (by decide) rfl (by decide) (by decide) (hm.le (by dsimp only; omega) (by dsimp only; omega)) kn_9 d_Mo_init_1008 fun q1008 a82 hk e82 hm => ?_
  have e0 : q1008.1 0 0 = a0 := (hk 0 0 ⟨⟨rfl, by decide, by decide⟩, by decide +kernel⟩).trans e0
  have e41 : q1008.1 41 0 = a41 := (hk 41 0 ⟨⟨rfl, by decide, by decide⟩, by decide +kernel⟩).trans e41
  have e42 : q1008.1 42 0 = a42 := (hk 42 0 ⟨⟨rfl, by decide, by decide⟩, by decide +kernel⟩).trans e42
  have e43 : q1008.1 43 0 = a43 := (hk 43 0 ⟨⟨rfl, by decide, by decide⟩, by decide +kernel⟩).trans e43
  have e44 : q1008.1 44 0 = a44 := (hk 44 0 ⟨⟨rfl, by decide, by decide⟩, by decide +kernel⟩).trans e44
  have e45 : q1008.1 45 0 = a45 := (hk 45 0 ⟨⟨rfl, by decide, by decide⟩, by decide +kernel⟩).trans e45
  have e46 : q1008.1 46 0 = a46 := (hk 46 0 ⟨⟨rfl, by decide, by decide⟩, by decide +kernel⟩).trans e46
  have e47 : q1008.1 47 0 = a47 := (hk 47 0 ⟨⟨rfl, by decide, by decide⟩, by decide +kernel⟩).trans e47
  have e48 : q1008.1 48 0 = a48 := (hk 48 0 ⟨⟨rfl, by decide, by decide⟩, by decide +kernel⟩).trans e48
  have e49 : q1008.1 49 0 = a49 := (hk 49 0 ⟨⟨rfl, by decide, by decide⟩, by decide +kernel⟩).trans e49
  have e50 : q1008.1 50 0 = a50 := (hk 50 0 ⟨⟨rfl, by decide, by decide⟩, by decide +kernel⟩).trans e50
  have e51 : q1008.1 51 0 = a51 := (hk 51 0 ⟨⟨rfl, by decide, by decide⟩, by decide +kernel⟩).trans e51
  have e52 : q1008.1 52 0 = a52 := (hk 52 0 ⟨⟨rfl, by decide, by decide⟩, by decide +kernel⟩).trans e52
  have e53 : q1008.1 53 0 = a53 := (hk 53 0 ⟨⟨rfl, by decide, by decide⟩, by decide +kernel⟩).trans e53
  have e54 : q1008.1 54 0 = a54 := (hk 54 0 ⟨⟨rfl, by decide, by decide⟩, by decide +kernel⟩).trans e54
  have e55 : q1008.1 55 0 = a55 := (hk 55 0 ⟨⟨rfl, by decide, by decide⟩, by decide +kernel⟩).trans e55
  have e56 : q1008.1 56 0 = a56 := (hk 56 0 ⟨⟨rfl, by decide, by decide⟩, by decide +kernel⟩).trans e56
  have e1 : q1008.1 1 0 = a1 := (hk 1 0 ⟨⟨rfl, by decide, by decide⟩, by decide +kernel⟩).trans e1
  have e57 : q1008.1 57 0 = a57 := (hk 57 0 ⟨⟨rfl, by decide, by decide⟩, by decide +kernel⟩).trans e57
  have e58 : q1008.1 58 0 = a58 := (hk 58 0 ⟨⟨rfl, by decide, by decide⟩, by decide +kernel⟩).trans e58
  have e59 : q1008.1 59 0 = a59 := (hk 59 0 ⟨⟨rfl, by decide, by decide⟩, by decide +kernel⟩).trans e59
  have e60 : q1008.1 60 0 = a60 := (hk 60 0 ⟨⟨rfl, by decide, by decide⟩, by decide +kernel⟩).trans e60
  have e61 : q1008.1 61 0 = a61 := (hk 61 0 ⟨⟨rfl, by decide, by decide⟩, by decide +kernel⟩).trans e61
  have e62 : q1008.1 62 0 = a62 := (hk 62 0 ⟨⟨rfl, by decide, by decide⟩, by decide +kernel⟩).trans e62
  have e63 : q1008.1 63 0 = a63 := (hk 63 0 ⟨⟨rfl, by decide, by decide⟩, by decide +kernel⟩).trans e63
  have e64 : q1008.1 64 0 = a64 := (hk 64 0 ⟨⟨rfl, by decide, by decide⟩, by decide +kernel⟩).trans e64
  have e65 : q1008.1 65 0 = a65 := (hk 65 0 ⟨⟨rfl, by decide, by decide⟩, by decide +kernel⟩).trans e65
  have e66 : q1008.1 66 0 = a66 := (hk 66 0 ⟨⟨rfl, by decide, by decide⟩, by decide +kernel⟩).trans e66
  have e67 : q1008.1 67 0 = a67 := (hk 67 0 ⟨⟨rfl, by decide, by decide⟩, by decide +kernel⟩).trans e67
  have e68 : q1008.1 68 0 = a68 := (hk 68 0 ⟨⟨rfl, by decide, by decide⟩, by decide +kernel⟩).trans e68
  have e4 : q1008.1 4 0 = a4 := (hk 4 0 ⟨⟨rfl, by decide, by decide⟩, by decide +kernel⟩).trans e4
  have e75 : q1008.1 75 0 = a75 := (hk 75 0 ⟨⟨rfl, by decide, by decide⟩, by decide +kernel⟩).trans e75
  have e16 : q1008.1 16 0 = a16 := (hk 16 0 ⟨⟨rfl, by decide, by decide⟩, by decide +kernel⟩).trans e16
  have e76 : q1008.1 76 0 = a76 := (hk 76 0 ⟨⟨rfl, by decide, by decide⟩, by decide +kernel⟩).trans e76
  have e7 : q1008.1 7 0 = a7 := (hk 7 0 ⟨⟨rfl, by decide, by decide⟩, by decide +kernel⟩).trans e7
  have e10 : q1008.1 10 0 = a10 := (hk 10 0 ⟨⟨rfl, by decide, by decide⟩, by decide +kernel⟩).trans e10
  have e13 : q1008.1 13 0 = a13 := (hk 13 0 ⟨⟨rfl, by decide, by decide⟩, by decide +kernel⟩).trans e13
  have e77 : q1008.1 77 0 = a77 := (hk 77 0 ⟨⟨rfl, by decide, by decide⟩, by decide +kernel⟩).trans e77
  have e78 : q1008.1 78 0 = a78 := (hk 78 0 ⟨⟨rfl, by decide, by decide⟩, by decide +kernel⟩).trans e78
  have e79 : q1008.1 79 0 = a79 := (hk 79 0 ⟨⟨rfl, by decide, by decide⟩, by decide +kernel⟩).trans e79
  have e80 : q1008.1 80 0 = a80 := (hk 80 0 ⟨⟨rfl, by decide, by decide⟩, by decide +kernel⟩).trans e80
  have e81 : q1008.1 81 0 = a81 := (hk 81 0 ⟨⟨rfl, by decide, by decide⟩, by decide +kernel⟩).trans e81
  have hkp := hkp.tr hk (by decide)
  refine nn_put (pc := 1010) (r := 0) (k := 87) (n' := 272) g cl_Mo ⟨⟨rfl, by decide, by decide⟩, by decide +kernel⟩ (by decide) (Or.inl kn_223) (Or.inr ⟨rfl, hnm, rfl, kn_223⟩) e0 rfl rfl (Or.inl ⟨(by decide +kernel), rfl, (fvR rfl rfl e82)⟩) d_Mo_init_1010 ?_
  refine nn_aload_n (pc := 1013) g.1 d_Mo_init_1013 rfl (lv_at hl 0 rfl) ?_
  refine nn_bipush (pc := 1014) g.1 (v := 7) d_Mo_init_1014 (by decide) ?_
  refine nn_arr (pc := 1016) (r := 83) (i := 0) (N := 7) (at0 := .int) (m := (m.1 + 732, m.2 + 814322)) g.gn rfl (by decide) ⟨rfl, by decide, by decide⟩ (by decide +kernel) (by decide) rfl (by decide) (by decide) (hm.le (by dsimp only; omega) (by dsimp only; omega)) kn_9 d_Mo_init_1016 fun q1016 a83 hk e83 hm => ?_
  have e0 : q1016.1 0 0 = a0 := (hk 0 0 ⟨⟨rfl, by decide, by decide⟩, by decide +kernel⟩).trans e0
  have e41 : q1016.1 41 0 = a41 := (hk 41 0 ⟨⟨rfl, by decide, by decide⟩, by decide +kernel⟩).trans e41
  have e42 : q1016.1 42 0 = a42 := (hk 42 0 ⟨⟨rfl, by decide, by decide⟩, by decide +kernel⟩).trans e42
  have e43 : q1016.1 43 0 = a43 := (hk 43 0 ⟨⟨rfl, by decide, by decide⟩, by decide +kernel⟩).trans e43
  have e44 : q1016.1 44 0 = a44 := (hk 44 0 ⟨⟨rfl, by decide, by decide⟩, by decide +kernel⟩).trans e44
  have e45 : q1016.1 45 0 = a45 := (hk 45 0 ⟨⟨rfl, by decide, by decide⟩, by decide +kernel⟩).trans e45
  have e46 : q1016.1 46 0 = a46 := (hk 46 0 ⟨⟨rfl, by decide, by decide⟩, by decide +kernel⟩).trans e46
  have e47 : q1016.1 47 0 = a47 := (hk 47 0 ⟨⟨rfl, by decide, by decide⟩, by decide +kernel⟩).trans e47
  have e48 : q1016.1 48 0 = a48 := (hk 48 0 ⟨⟨rfl, by decide, by decide⟩, by decide +kernel⟩).trans e48
  have e49 : q1016.1 49 0 = a49 := (hk 49 0 ⟨⟨rfl, by decide, by decide⟩, by decide +kernel⟩).trans e49
  have e50 : q1016.1 50 0 = a50 := (hk 50 0 ⟨⟨rfl, by decide, by decide⟩, by decide +kernel⟩).trans e50
  have e51 : q1016.1 51 0 = a51 := (hk 51 0 ⟨⟨rfl, by decide, by decide⟩, by decide +kernel⟩).trans e51
  have e52 : q1016.1 52 0 = a52 := (hk 52 0 ⟨⟨rfl, by decide, by decide⟩, by decide +kernel⟩).trans e52
  have e53 : q1016.1 53 0 = a53 := (hk 53 0 ⟨⟨rfl, by decide, by decide⟩, by decide +kernel⟩).trans e53
  have e54 : q1016.1 54 0 = a54 := (hk 54 0 ⟨⟨rfl, by decide, by decide⟩, by decide +kernel⟩).trans e54
  have e55 : q1016.1 55 0 = a55 := (hk 55 0 ⟨⟨rfl, by decide, by decide⟩, by decide +kernel⟩).trans e55
  have e56 : q1016.1 56 0 = a56 := (hk 56 0 ⟨⟨rfl, by decide, by decide⟩, by decide +kernel⟩).trans e56
  have e1 : q1016.1 1 0 = a1 := (hk 1 0 ⟨⟨rfl, by decide, by decide⟩, by decide +kernel⟩).trans e1
  have e57 : q1016.1 57 0 = a57 := (hk 57 0 ⟨⟨rfl, by decide, by decide⟩, by decide +kernel⟩).trans e57
  have e58 : q1016.1 58 0 = a58 := (hk 58 0 ⟨⟨rfl, by decide, by decide⟩, by decide +kernel⟩).trans e58
  have e59 : q1016.1 59 0 = a59 := (hk 59 0 ⟨⟨rfl, by decide, by decide⟩, by decide +kernel⟩).trans e59
  have e60 : q1016.1 60 0 = a60 := (hk 60 0 ⟨⟨rfl, by decide, by decide⟩, by decide +kernel⟩).trans e60
  have e61 : q1016.1 61 0 = a61 := (hk 61 0 ⟨⟨rfl, by decide, by decide⟩, by decide +kernel⟩).trans e61
  have e62 : q1016.1 62 0 = a62 := (hk 62 0 ⟨⟨rfl, by decide, by decide⟩, by decide +kernel⟩).trans e62
  have e63 : q1016.1 63 0 = a63 := (hk 63 0 ⟨⟨rfl, by decide, by decide⟩, by decide +kernel⟩).trans e63
  have e64 : q1016.1 64 0 = a64 := (hk 64 0 ⟨⟨rfl, by decide, by decide⟩, by decide +kernel⟩).trans e64
  have e65 : q1016.1 65 0 = a65 := (hk 65 0 ⟨⟨rfl, by decide, by decide⟩, by decide +kernel⟩).trans e65
  have e66 : q1016.1 66 0 = a66 := (hk 66 0 ⟨⟨rfl, by decide, by decide⟩, by decide +kernel⟩).trans e66
  have e67 : q1016.1 67 0 = a67 := (hk 67 0 ⟨⟨rfl, by decide, by decide⟩, by decide +kernel⟩).trans e67
  have e68 : q1016.1 68 0 = a68 := (hk 68 0 ⟨⟨rfl, by decide, by decide⟩, by decide +kernel⟩).trans e68
  have e4 : q1016.1 4 0 = a4 := (hk 4 0 ⟨⟨rfl, by decide, by decide⟩, by decide +kernel⟩).trans e4
  have e75 : q1016.1 75 0 = a75 := (hk 75 0 ⟨⟨rfl, by decide, by decide⟩, by decide +kernel⟩).trans e75
  have e16 : q1016.1 16 0 = a16 := (hk 16 0 ⟨⟨rfl, by decide, by decide⟩, by decide +kernel⟩).trans e16
  have e76 : q1016.1 76 0 = a76 := (hk 76 0 ⟨⟨rfl, by decide, by decide⟩, by decide +kernel⟩).trans e76
  have e7 : q1016.1 7 0 = a7 := (hk 7 0 ⟨⟨rfl, by decide, by decide⟩, by decide +kernel⟩).trans e7
  have e10 : q1016.1 10 0 = a10 := (hk 10 0 ⟨⟨rfl, by decide, by decide⟩, by decide +kernel⟩).trans e10
  have e13 : q1016.1 13 0 = a13 := (hk 13 0 ⟨⟨rfl, by decide, by decide⟩, by decide +kernel⟩).trans e13
  have e77 : q1016.1 77 0 = a77 := (hk 77 0 ⟨⟨rfl, by decide, by decide⟩, by decide +kernel⟩).trans e77
  have e78 : q1016.1 78 0 = a78 := (hk 78 0 ⟨⟨rfl, by decide, by decide⟩, by decide +kernel⟩).trans e78
  have e79 : q1016.1 79 0 = a79 := (hk 79 0 ⟨⟨rfl, by decide, by decide⟩, by decide +kernel⟩).trans e79
  have e80 : q1016.1 80 0 = a80 := (hk 80 0 ⟨⟨rfl, by decide, by decide⟩, by decide +kernel⟩).trans e80
  have e81 : q1016.1 81 0 = a81 := (hk 81 0 ⟨⟨rfl, by decide, by decide⟩, by decide +kernel⟩).trans e81
  have e82 : q1016.1 82 0 = a82 := (hk 82 0 ⟨⟨rfl, by decide, by decide⟩, by decide +kernel⟩).trans e82
  have hkp := hkp.tr hk (by decide)
  refine nn_put (pc := 1018) (r := 0) (k := 88) (n' := 274) g cl_Mo ⟨⟨rfl, by decide, by decide⟩, by decide +kernel⟩ (by decide) (Or.inl kn_224) (Or.inr ⟨rfl, hnm, rfl, kn_224⟩) e0 rfl rfl (Or.inl ⟨(by decide +kernel), rfl, (fvR rfl rfl e83)⟩) d_Mo_init_1018 ?_
  refine nn_aload_n (pc := 1021) g.1 d_Mo_init_1021 rfl (lv_at hl 0 rfl) ?_
  refine nn_iconst (pc := 1022) g.1 (v := 4) d_Mo_init_1022 (by decide) ?_
  refine nn_arr (pc := 1023) (r := 84) (i := 0) (N := 4) (at0 := .int) (m := (m.1 + 731, m.2 + 814318)) g.gn rfl (by decide) ⟨rfl, by decide, by decide⟩ (by decide +kernel) (by decide) rfl (by decide) (by decide) (hm.le (by dsimp only; omega) (by dsimp only; omega)) kn_9 d_Mo_init_1023 fun q1023 a84 hk e84 hm => ?_
  have e0 : q1023.1 0 0 = a0 := (hk 0 0 ⟨⟨rfl, by decide, by decide⟩, by decide +kernel⟩).trans e0
  have e41 : q1023.1 41 0 = a41 := (hk 41 0 ⟨⟨rfl, by decide, by decide⟩, by decide +kernel⟩).trans e41
  have e42 : q1023.1 42 0 = a42 := (hk 42 0 ⟨⟨rfl, by decide, by decide⟩, by decide +kernel⟩).trans e42
  have e43 : q1023.1 43 0 = a43 := (hk 43 0 ⟨⟨rfl, by decide, by decide⟩, by decide +kernel⟩).trans e43
  have e44 : q1023.1 44 0 = a44 := (hk 44 0 ⟨⟨rfl, by decide, by decide⟩, by decide +kernel⟩).trans e44
  have e45 : q1023.1 45 0 = a45 := (hk 45 0 ⟨⟨rfl, by decide, by decide⟩, by decide +kernel⟩).trans e45
  have e46 : q1023.1 46 0 = a46 := (hk 46 0 ⟨⟨rfl, by decide, by decide⟩, by decide +kernel⟩).trans e46
  have e47 : q1023.1 47 0 = a47 := (hk 47 0 ⟨⟨rfl, by decide, by decide⟩, by decide +kernel⟩).trans e47
  have e48 : q1023.1 48 0 = a48 := (hk 48 0 ⟨⟨rfl, by decide, by decide⟩, by decide +kernel⟩).trans e48
  have e49 : q1023.1 49 0 = a49 := (hk 49 0 ⟨⟨rfl, by decide, by decide⟩, by decide +kernel⟩).trans e49
  have e50 : q1023.1 50 0 = a50 := (hk 50 0 ⟨⟨rfl, by decide, by decide⟩, by decide +kernel⟩).trans e50
  have e51 : q1023.1 51 0 = a51 := (hk 51 0 ⟨⟨rfl, by decide, by decide⟩, by decide +kernel⟩).trans e51
  have e52 : q1023.1 52 0 = a52 := (hk 52 0 ⟨⟨rfl, by decide, by decide⟩, by decide +kernel⟩).trans e52
  have e53 : q1023.1 53 0 = a53 := (hk 53 0 ⟨⟨rfl, by decide, by decide⟩, by decide +kernel⟩).trans e53
  have e54 : q1023.1 54 0 = a54 := (hk 54 0 ⟨⟨rfl, by decide, by decide⟩, by decide +kernel⟩).trans e54
  have e55 : q1023.1 55 0 = a55 := (hk 55 0 ⟨⟨rfl, by decide, by decide⟩, by decide +kernel⟩).trans e55
  have e56 : q1023.1 56 0 = a56 := (hk 56 0 ⟨⟨rfl, by decide, by decide⟩, by decide +kernel⟩).trans e56
  have e1 : q1023.1 1 0 = a1 := (hk 1 0 ⟨⟨rfl, by decide, by decide⟩, by decide +kernel⟩).trans e1
  have e57 : q1023.1 57 0 = a57 := (hk 57 0 ⟨⟨rfl, by decide, by decide⟩, by decide +kernel⟩).trans e57
  have e58 : q1023.1 58 0 = a58 := (hk 58 0 ⟨⟨rfl, by decide, by decide⟩, by decide +kernel⟩).trans e58
  have e59 : q1023.1 59 0 = a59 := (hk 59 0 ⟨⟨rfl, by decide, by decide⟩, by decide +kernel⟩).trans e59
  have e60 : q1023.1 60 0 = a60 := (hk 60 0 ⟨⟨rfl, by decide, by decide⟩, by decide +kernel⟩).trans e60
  have e61 : q1023.1 61 0 = a61 := (hk 61 0 ⟨⟨rfl, by decide, by decide⟩, by decide +kernel⟩).trans e61
  have e62 : q1023.1 62 0 = a62 := (hk 62 0 ⟨⟨rfl, by decide, by decide⟩, by decide +kernel⟩).trans e62
  have e63 : q1023.1 63 0 = a63 := (hk 63 0 ⟨⟨rfl, by decide, by decide⟩, by decide +kernel⟩).trans e63
  have e64 : q1023.1 64 0 = a64 := (hk 64 0 ⟨⟨rfl, by decide, by decide⟩, by decide +kernel⟩).trans e64
  have e65 : q1023.1 65 0 = a65 := (hk 65 0 ⟨⟨rfl, by decide, by decide⟩, by decide +kernel⟩).trans e65
  have e66 : q1023.1 66 0 = a66 := (hk 66 0 ⟨⟨rfl, by decide, by decide⟩, by decide +kernel⟩).trans e66
  have e67 : q1023.1 67 0 = a67 := (hk 67 0 ⟨⟨rfl, by decide, by decide⟩, by decide +kernel⟩).trans e67
  have e68 : q1023.1 68 0 = a68 := (hk 68 0 ⟨⟨rfl, by decide, by decide⟩, by decide +kernel⟩).trans e68
  have e4 : q1023.1 4 0 = a4 := (hk 4 0 ⟨⟨rfl, by decide, by decide⟩, by decide +kernel⟩).trans e4
  have e75 : q1023.1 75 0 = a75 := (hk 75 0 ⟨⟨rfl, by decide, by decide⟩, by decide +kernel⟩).trans e75
  have e16 : q1023.1 16 0 = a16 := (hk 16 0 ⟨⟨rfl, by decide, by decide⟩, by decide +kernel⟩).trans e16
  have e76 : q1023.1 76 0 = a76 := (hk 76 0 ⟨⟨rfl, by decide, by decide⟩, by decide +kernel⟩).trans e76
  have e7 : q1023.1 7 0 = a7 := (hk 7 0 ⟨⟨rfl, by decide, by decide⟩, by decide +kernel⟩).trans e7
  have e10 : q1023.1 10 0 = a10 := (hk 10 0 ⟨⟨rfl, by decide, by decide⟩, by decide +kernel⟩).trans e10
  have e13 : q1023.1 13 0 = a13 := (hk 13 0 ⟨⟨rfl, by decide, by decide⟩, by decide +kernel⟩).trans e13
  have e77 : q1023.1 77 0 = a77 := (hk 77 0 ⟨⟨rfl, by decide, by decide⟩, by decide +kernel⟩).trans e77
  have e78 : q1023.1 78 0 = a78 := (hk 78 0 ⟨⟨rfl, by decide, by decide⟩, by decide +kernel⟩).trans e78
  have e79 : q1023.1 79 0 = a79 := (hk 79 0 ⟨⟨rfl, by decide, by decide⟩, by decide +kernel⟩).trans e79
  have e80 : q1023.1 80 0 = a80 := (hk 80 0 ⟨⟨rfl, by decide, by decide⟩, by decide +kernel⟩).trans e80
  have e81 : q1023.1 81 0 = a81 := (hk 81 0 ⟨⟨rfl, by decide, by decide⟩, by decide +kernel⟩).trans e81
  have e82 : q1023.1 82 0 = a82 := (hk 82 0 ⟨⟨rfl, by decide, by decide⟩, by decide +kernel⟩).trans e82
  have e83 : q1023.1 83 0 = a83 := (hk 83 0 ⟨⟨rfl, by decide, by decide⟩, by decide +kernel⟩).trans e83
  have hkp := hkp.tr hk (by decide)
  refine nn_put (pc := 1025) (r := 0) (k := 89) (n' := 276) g cl_Mo ⟨⟨rfl, by decide, by decide⟩, by decide +kernel⟩ (by decide) (Or.inl kn_225) (Or.inr ⟨rfl, hnm, rfl, kn_225⟩) e0 rfl rfl (Or.inl ⟨(by decide +kernel), rfl, (fvR rfl rfl e84)⟩) d_Mo_init_1025 ?_
  refine nn_aload_n (pc := 1028) g.1 d_Mo_init_1028 rfl (lv_at hl 0 rfl) ?_
  refine nn_bipush (pc := 1029) g.1 (v := 24) d_Mo_init_1029 (by decide) ?_
  refine nn_arr (pc := 1031) (r := 85) (i := 0) (N := 24) (at0 := .int) (m := (m.1 + 730, m.2 + 814294)) g.gn rfl (by decide) ⟨rfl, by decide, by decide⟩ (by decide +kernel) (by decide) rfl (by decide) (by decide) (hm.le (by dsimp only; omega) (by dsimp only; omega)) kn_9 d_Mo_init_1031 fun q1031 a85 hk e85 hm => ?_
  have e0 : q1031.1 0 0 = a0 := (hk 0 0 ⟨⟨rfl, by decide, by decide⟩, by decide +kernel⟩).trans e0
  have e41 : q1031.1 41 0 = a41 := (hk 41 0 ⟨⟨rfl, by decide, by decide⟩, by decide +kernel⟩).trans e41
  have e42 : q1031.1 42 0 = a42 := (hk 42 0 ⟨⟨rfl, by decide, by decide⟩, by decide +kernel⟩).trans e42
  have e43 : q1031.1 43 0 = a43 := (hk 43 0 ⟨⟨rfl, by decide, by decide⟩, by decide +kernel⟩).trans e43
  have e44 : q1031.1 44 0 = a44 := (hk 44 0 ⟨⟨rfl, by decide, by decide⟩, by decide +kernel⟩).trans e44
  have e45 : q1031.1 45 0 = a45 := (hk 45 0 ⟨⟨rfl, by decide, by decide⟩, by decide +kernel⟩).trans e45
  have e46 : q1031.1 46 0 = a46 := (hk 46 0 ⟨⟨rfl, by decide, by decide⟩, by decide +kernel⟩).trans e46
  have e47 : q1031.1 47 0 = a47 := (hk 47 0 ⟨⟨rfl, by decide, by decide⟩, by decide +kernel⟩).trans e47
  have e48 : q1031.1 48 0 = a48 := (hk 48 0 ⟨⟨rfl, by decide, by decide⟩, by decide +kernel⟩).trans e48
  have e49 : q1031.1 49 0 = a49 := (hk 49 0 ⟨⟨rfl, by decide, by decide⟩, by decide +kernel⟩).trans e49
  have e50 : q1031.1 50 0 = a50 := (hk 50 0 ⟨⟨rfl, by decide, by decide⟩, by decide +kernel⟩).trans e50
  have e51 : q1031.1 51 0 = a51 := (hk 51 0 ⟨⟨rfl, by decide, by decide⟩, by decide +kernel⟩).trans e51
  have e52 : q1031.1 52 0 = a52 := (hk 52 0 ⟨⟨rfl, by decide, by decide⟩, by decide +kernel⟩).trans e52
  have e53 : q1031.1 53 0 = a53 := (hk 53 0 ⟨⟨rfl, by decide, by decide⟩, by decide +kernel⟩).trans e53
  have e54 : q1031.1 54 0 = a54 := (hk 54 0 ⟨⟨rfl, by decide, by decide⟩, by decide +kernel⟩).trans e54
  have e55 : q1031.1 55 0 = a55 := (hk 55 0 ⟨⟨rfl, by decide, by decide⟩, by decide +kernel⟩).trans e55
  have e56 : q1031.1 56 0 = a56 := (hk 56 0 ⟨⟨rfl, by decide, by decide⟩, by decide +kernel⟩).trans e56
  have e1 : q1031.1 1 0 = a1 := (hk 1 0 ⟨⟨rfl, by decide, by decide⟩, by decide +kernel⟩).trans e1
  have e57 : q1031.1 57 0 = a57 := (hk 57 0 ⟨⟨rfl, by decide, by decide⟩, by decide +kernel⟩).trans e57
  have e58 : q1031.1 58 0 = a58 := (hk 58 0 ⟨⟨rfl, by decide, by decide⟩, by decide +kernel⟩).trans e58
  have e59 : q1031.1 59 0 = a59 := (hk 59 0 ⟨⟨rfl, by decide, by decide⟩, by decide +kernel⟩).trans e59
  have e60 : q1031.1 60 0 = a60 := (hk 60 0 ⟨⟨rfl, by decide, by decide⟩, by decide +kernel⟩).trans e60
  have e61 : q1031.1 61 0 = a61 := (hk 61 0 ⟨⟨rfl, by decide, by decide⟩, by decide +kernel⟩).trans e61
  have e62 : q1031.1 62 0 = a62 := (hk 62 0 ⟨⟨rfl, by decide, by decide⟩, by decide +kernel⟩).trans e62
  have e63 : q1031.1 63 0 = a63 := (hk 63 0 ⟨⟨rfl, by decide, by decide⟩, by decide +kernel⟩).trans e63
  have e64 : q1031.1 64 0 = a64 := (hk 64 0 ⟨⟨rfl, by decide, by decide⟩, by decide +kernel⟩).trans e64
  have e65 : q1031.1 65 0 = a65 := (hk 65 0 ⟨⟨rfl, by decide, by decide⟩, by decide +kernel⟩).trans e65
  have e66 : q1031.1 66 0 = a66 := (hk 66 0 ⟨⟨rfl, by decide, by decide⟩, by decide +kernel⟩).trans e66
  have e67 : q1031.1 67 0 = a67 := (hk 67 0 ⟨⟨rfl, by decide, by decide⟩, by decide +kernel⟩).trans e67
  have e68 : q1031.1 68 0 = a68 := (hk 68 0 ⟨⟨rfl, by decide, by decide⟩, by decide +kernel⟩).trans e68
  have e4 : q1031.1 4 0 = a4 := (hk 4 0 ⟨⟨rfl, by decide, by decide⟩, by decide +kernel⟩).trans e4
  have e75 : q1031.1 75 0 = a75 := (hk 75 0 ⟨⟨rfl, by decide, by decide⟩, by decide +kernel⟩).trans e75
  have e16 : q1031.1 16 0 = a16 := (hk 16 0 ⟨⟨rfl, by decide, by decide⟩, by decide +kernel⟩).trans e16
  have e76 : q1031.1 76 0 = a76 := (hk 76 0 ⟨⟨rfl, by decide, by decide⟩, by decide +kernel⟩).trans e76
  have e7 : q1031.1 7 0 = a7 := (hk 7 0 ⟨⟨rfl, by decide, by decide⟩, by decide +kernel⟩).trans e7
  have e10 : q1031.1 10 0 = a10 := (hk 10 0 ⟨⟨rfl, by decide, by decide⟩, by decide +kernel⟩).trans e10
  have e13 : q1031.1 13 0 = a13 := (hk 13 0 ⟨⟨rfl, by decide, by decide⟩, by decide +kernel⟩).trans e13
  have e77 : q1031.1 77 0 = a77 := (hk 77 0 ⟨⟨rfl, by decide, by decide⟩, by decide +kernel⟩).trans e77
  have e78 : q1031.1 78 0 = a78 := (hk 78 0 ⟨⟨rfl, by decide, by decide⟩, by decide +kernel⟩).trans e78
  have e79 : q1031.1 79 0 = a79 := (hk 79 0 ⟨⟨rfl, by decide, by decide⟩, by decide +kernel⟩).trans e79
  have e80 : q1031.1 80 0 = a80 := (hk 80 0 ⟨⟨rfl, by decide, by decide⟩, by decide +kernel⟩).trans e80
  have e81 : q1031.1 81 0 = a81 := (hk 81 0 ⟨⟨rfl, by decide, by decide⟩, by decide +kernel⟩).trans e81
  have e82 : q1031.1 82 0 = a82 := (hk 82 0 ⟨⟨rfl, by decide, by decide⟩, by decide +kernel⟩).trans e82
  have e83 : q1031.1 83 0 = a83 := (hk 83 0 ⟨⟨rfl, by decide, by decide⟩, by decide +kernel⟩).trans e83
  have e84 : q1031.1 84 0 = a84 := (hk 84 0 ⟨⟨rfl, by decide, by decide⟩, by decide +kernel⟩).trans e84
  have hkp := hkp.tr hk (by decide)
  refine nn_put (pc := 1033) (r := 0) (k := 90) (n' := 278) g cl_Mo ⟨⟨rfl, by decide, by decide⟩, by decide +kernel⟩ (by decide) (Or.inl kn_226) (Or.inr ⟨rfl, hnm, rfl, kn_226⟩) e0 rfl rfl (Or.inl ⟨(by decide +kernel), rfl, (fvR rfl rfl e85)⟩) d_Mo_init_1033 ?_
  refine nn_aload_n (pc := 1036) g.1 d_Mo_init_1036 rfl (lv_at hl 0 rfl) ?_
  refine nn_bipush (pc := 1037) g.1 (v := 64) d_Mo_init_1037 (by decide) ?_
  refine nn_arr (pc := 1039) (r := 86) (i := 0) (N := 64) (at0 := .byte) (m := (m.1 + 729, m.2 + 814230)) g.gn rfl (by decide) ⟨rfl, by decide, by decide⟩ (by decide +kernel) (by decide) rfl (by decide) (by decide) (hm.le (by dsimp only; omega) (by dsimp only; omega)) kn_12 d_Mo_init_1039 fun q1039 a86 hk e86 hm => ?_
  have e0 : q1039.1 0 0 = a0 := (hk 0 0 ⟨⟨rfl, by decide, by decide⟩, by decide +kernel⟩).trans e0
  have e41 : q1039.1 41 0 = a41 := (hk 41 0 ⟨⟨rfl, by decide, by decide⟩, by decide +kernel⟩).trans e41
  have e42 : q1039.1 42 0 = a42 := (hk 42 0 ⟨⟨rfl, by decide, by decide⟩, by decide +kernel⟩).trans e42
  have e43 : q1039.1 43 0 = a43 := (hk 43 0 ⟨⟨rfl, by decide, by decide⟩, by decide +kernel⟩).trans e43
  have e44 : q1039.1 44 0 = a44 := (hk 44 0 ⟨⟨rfl, by decide, by decide⟩, by decide +kernel⟩).trans e44
  have e45 : q1039.1 45 0 = a45 := (hk 45 0 ⟨⟨rfl, by decide, by decide⟩, by decide +kernel⟩).trans e45
  have e46 : q1039.1 46 0 = a46 := (hk 46 0 ⟨⟨rfl, by decide, by decide⟩, by decide +kernel⟩).trans e46
  have e47 : q1039.1 47 0 = a47 := (hk 47 0 ⟨⟨rfl, by decide, by decide⟩, by decide +kernel⟩).trans e47
  have e48 : q1039.1 48 0 = a48 := (hk 48 0 ⟨⟨rfl, by decide, by decide⟩, by decide +kernel⟩).trans e48
  have e49 : q1039.1 49 0 = a49 := (hk 49 0 ⟨⟨rfl, by decide, by decide⟩, by decide +kernel⟩).trans e49
  have e50 : q1039.1 50 0 = a50 := (hk 50 0 ⟨⟨rfl, by decide, by decide⟩, by decide +kernel⟩).trans e50
  have e51 : q1039.1 51 0 = a51 := (hk 51 0 ⟨⟨rfl, by decide, by decide⟩, by decide +kernel⟩).trans e51
  have e52 : q1039.1 52 0 = a52 := (hk 52 0 ⟨⟨rfl, by decide, by decide⟩, by decide +kernel⟩).trans e52
  have e53 : q1039.1 53 0 = a53 := (hk 53 0 ⟨⟨rfl, by decide, by decide⟩, by decide +kernel⟩).trans e53
  have e54 : q1039.1 54 0 = a54 := (hk 54 0 ⟨⟨rfl, by decide, by decide⟩, by decide +kernel⟩).trans e54
  have e55 : q1039.1 55 0 = a55 := (hk 55 0 ⟨⟨rfl, by decide, by decide⟩, by decide +kernel⟩).trans e55
  have e56 : q1039.1 56 0 = a56 := (hk 56 0 ⟨⟨rfl, by decide, by decide⟩, by decide +kernel⟩).trans e56
  have e1 : q1039.1 1 0 = a1 := (hk 1 0 ⟨⟨rfl, by decide, by decide⟩, by decide +kernel⟩).trans e1
  have e57 : q1039.1 57 0 = a57 := (hk 57 0 ⟨⟨rfl, by decide, by decide⟩, by decide +kernel⟩).trans e57
  have e58 : q1039.1 58 0 = a58 := (hk 58 0 ⟨⟨rfl, by decide, by decide⟩, by decide +kernel⟩).trans e58
  have e59 : q1039.1 59 0 = a59 := (hk 59 0 ⟨⟨rfl, by decide, by decide⟩, by decide +kernel⟩).trans e59
  have e60 : q1039.1 60 0 = a60 := (hk 60 0 ⟨⟨rfl, by decide, by decide⟩, by decide +kernel⟩).trans e60
  have e61 : q1039.1 61 0 = a61 := (hk 61 0 ⟨⟨rfl, by decide, by decide⟩, by decide +kernel⟩).trans e61
  have e62 : q1039.1 62 0 = a62 := (hk 62 0 ⟨⟨rfl, by decide, by decide⟩, by decide +kernel⟩).trans e62
  have e63 : q1039.1 63 0 = a63 := (hk 63 0 ⟨⟨rfl, by decide, by decide⟩, by decide +kernel⟩).trans e63
  have e64 : q1039.1 64 0 = a64 := (hk 64 0 ⟨⟨rfl, by decide, by decide⟩, by decide +kernel⟩).trans e64
  have e65 : q1039.1 65 0 = a65 := (hk 65 0 ⟨⟨rfl, by decide, by decide⟩, by decide +kernel⟩).trans e65
  have e66 : q1039.1 66 0 = a66 := (hk 66 0 ⟨⟨rfl, by decide, by decide⟩, by decide +kernel⟩).trans e66
  have e67 : q1039.1 67 0 = a67 := (hk 67 0 ⟨⟨rfl, by decide, by decide⟩, by decide +kernel⟩).trans e67
  have e68 : q1039.1 68 0 = a68 := (hk 68 0 ⟨⟨rfl, by decide, by decide⟩, by decide +kernel⟩).trans e68
  have e4 : q1039.1 4 0 = a4 := (hk 4 0 ⟨⟨rfl, by decide, by decide⟩, by decide +kernel⟩).trans e4
  have e75 : q1039.1 75 0 = a75 := (hk 75 0 ⟨⟨rfl, by decide, by decide⟩, by decide +kernel⟩).trans e75
  have e16 : q1039.1 16 0 = a16 := (hk 16 0 ⟨⟨rfl, by decide, by decide⟩, by decide +kernel⟩).trans e16
  have e76 : q1039.1 76 0 = a76 := (hk 76 0 ⟨⟨rfl, by decide, by decide⟩, by decide +kernel⟩).trans e76
  have e7 : q1039.1 7 0 = a7 := (hk 7 0 ⟨⟨rfl, by decide, by decide⟩, by decide +kernel⟩).trans e7
  have e10 : q1039.1 10 0 = a10 := (hk 10 0 ⟨⟨rfl, by decide, by decide⟩, by decide +kernel⟩).trans e10
  have e13 : q1039.1 13 0 = a13 := (hk 13 0 ⟨⟨rfl, by decide, by decide⟩, by decide +kernel⟩).trans e13
  have e77 : q1039.1 77 0 = a77 := (hk 77 0 ⟨⟨rfl, by decide, by decide⟩, by decide +kernel⟩).trans e77
  have e78 : q1039.1 78 0 = a78 := (hk 78 0 ⟨⟨rfl, by decide, by decide⟩, by decide +kernel⟩).trans e78
  have e79 : q1039.1 79 0 = a79 := (hk 79 0 ⟨⟨rfl, by decide, by decide⟩, by decide +kernel⟩).trans e79
  have e80 : q1039.1 80 0 = a80 := (hk 80 0 ⟨⟨rfl, by decide, by decide⟩, by decide +kernel⟩).trans e80
  have e81 : q1039.1 81 0 = a81 := (hk 81 0 ⟨⟨rfl, by decide, by decide⟩, by decide +kernel⟩).trans e81
  have e82 : q1039.1 82 0 = a82 := (hk 82 0 ⟨⟨rfl, by decide, by decide⟩, by decide +kernel⟩).trans e82
  have e83 : q1039.1 83 0 = a83 := (hk 83 0 ⟨⟨rfl, by decide, by decide⟩, by decide +kernel⟩).trans e83
  have e84 : q1039.1 84 0 = a84 := (hk 84 0 ⟨⟨rfl, by decide, by decide⟩, by decide +kernel⟩).trans e84
  have e85 : q1039.1 85 0 = a85 := (hk 85 0 ⟨⟨rfl, by decide, by decide⟩, by decide +kernel⟩).trans e85
  have hkp := hkp.tr hk (by decide)
  refine nn_put (pc := 1041) (r := 0) (k := 91) (n' := 280) g cl_Mo ⟨⟨rfl, by decide, by decide⟩, by decide +kernel⟩ (by decide) (Or.inl kn_227) (Or.inr ⟨rfl, hnm, rfl, kn_227⟩) e0 rfl rfl (Or.inl ⟨(by decide +kernel), rfl, (fvR rfl rfl e86)⟩) d_Mo_init_1041 ?_
  refine nn_aload_n (pc := 1044) g.1 d_Mo_init_1044 rfl (lv_at hl 0 rfl) ?_
  refine nn_iconst (pc := 1045) g.1 (v := 0) d_Mo_init_1045 (by decide) ?_
  refine nn_put (pc := 1046) (r := 0) (k := 92) (n' := 280) g cl_Mo ⟨⟨rfl, by decide, by decide⟩, by decide +kernel⟩ (by decide) (Or.inl kn_228) (Or.inl rfl) e0 rfl rfl (Or.inr ⟨rfl, fN_dv (Or.inr ⟨by decide +kernel, (by decide), (fvI rfl rfl)⟩)⟩) d_Mo_init_1046 ?_
  refine nn_aload_n (pc := 1049) g.1 d_Mo_init_1049 rfl (lv_at hl 0 rfl) ?_
  refine nn_ldcw (pc := 1050) g.gn (v := 266800) kn_229 d_Mo_init_1050 ?_
  refine nn_arr (pc := 1053) (r := 87) (i := 0) (N := 266800) (at0 := .byte) (m := (m.1 + 728, m.2 + 547430)) g.gn rfl (by decide) ⟨rfl, by decide, by decide⟩ (by decide +kernel) (by decide) rfl (by decide) (by decide) (hm.le (by dsimp only; omega) (by dsimp only; omega)) kn_12 d_Mo_init_1053 fun q1053 a87 hk e87 hm => ?_
  have e0 : q1053.1 0 0 = a0 := (hk 0 0 ⟨⟨rfl, by decide, by decide⟩, by decide +kernel⟩).trans e0
  have e41 : q1053.1 41 0 = a41 := (hk 41 0 ⟨⟨rfl, by decide, by decide⟩, by decide +kernel⟩).trans e41
  have e42 : q1053.1 42 0 = a42 := (hk 42 0 ⟨⟨rfl, by decide, by decide⟩, by decide +kernel⟩).trans e42
  have e43 : q1053.1 43 0 = a43 := (hk 43 0 ⟨⟨rfl, by decide, by decide⟩, by decide +kernel⟩).trans e43
  have e44 : q1053.1 44 0 = a44 := (hk 44 0 ⟨⟨rfl, by decide, by decide⟩, by decide +kernel⟩).trans e44
  have e45 : q1053.1 45 0 = a45 := (hk 45 0 ⟨⟨rfl, by decide, by decide⟩, by decide +kernel⟩).trans e45
  have e46 : q1053.1 46 0 = a46 := (hk 46 0 ⟨⟨rfl, by decide, by decide⟩, by decide +kernel⟩).trans e46
  have e47 : q1053.1 47 0 = a47 := (hk 47 0 ⟨⟨rfl, by decide, by decide⟩, by decide +kernel⟩).trans e47
  have e48 : q1053.1 48 0 = a48 := (hk 48 0 ⟨⟨rfl, by decide, by decide⟩, by decide +kernel⟩).trans e48
  have e49 : q1053.1 49 0 = a49 := (hk 49 0 ⟨⟨rfl, by decide, by decide⟩, by decide +kernel⟩).trans e49
  have e50 : q1053.1 50 0 = a50 := (hk 50 0 ⟨⟨rfl, by decide, by decide⟩, by decide +kernel⟩).trans e50
  have e51 : q1053.1 51 0 = a51 := (hk 51 0 ⟨⟨rfl, by decide, by decide⟩, by decide +kernel⟩).trans e51
  have e52 : q1053.1 52 0 = a52 := (hk 52 0 ⟨⟨rfl, by decide, by decide⟩, by decide +kernel⟩).trans e52
  have e53 : q1053.1 53 0 = a53 := (hk 53 0 ⟨⟨rfl, by decide, by decide⟩, by decide +kernel⟩).trans e53
  have e54 : q1053.1 54 0 = a54 := (hk 54 0 ⟨⟨rfl, by decide, by decide⟩, by decide +kernel⟩).trans e54
  have e55 : q1053.1 55 0 = a55 := (hk 55 0 ⟨⟨rfl, by decide, by decide⟩, by decide +kernel⟩).trans e55
  have e56 : q1053.1 56 0 = a56 := (hk 56 0 ⟨⟨rfl, by decide, by decide⟩, by decide +kernel⟩).trans e56
  have e1 : q1053.1 1 0 = a1 := (hk 1 0 ⟨⟨rfl, by decide, by decide⟩, by decide +kernel⟩).trans e1
  have e57 : q1053.1 57 0 = a57 := (hk 57 0 ⟨⟨rfl, by decide, by decide⟩, by decide +kernel⟩).trans e57
  have e58 : q1053.1 58 0 = a58 := (hk 58 0 ⟨⟨rfl, by decide, by decide⟩, by decide +kernel⟩).trans e58
  have e59 : q1053.1 59 0 = a59 := (hk 59 0 ⟨⟨rfl, by decide, by decide⟩, by decide +kernel⟩).trans e59
  have e60 : q1053.1 60 0 = a60 := (hk 60 0 ⟨⟨rfl, by decide, by decide⟩, by decide +kernel⟩).trans e60
  have e61 : q1053.1 61 0 = a61 := (hk 61 0 ⟨⟨rfl, by decide, by decide⟩, by decide +kernel⟩).trans e61
  have e62 : q1053.1 62 0 = a62 := (hk 62 0 ⟨⟨rfl, by decide, by decide⟩, by decide +kernel⟩).trans e62
  have e63 : q1053.1 63 0 = a63 := (hk 63 0 ⟨⟨rfl, by decide, by decide⟩, by decide +kernel⟩).trans e63
  have e64 : q1053.1 64 0 = a64 := (hk 64 0 ⟨⟨rfl, by decide, by decide⟩, by decide +kernel⟩).trans e64
  have e65 : q1053.1 65 0 = a65 := (hk 65 0 ⟨⟨rfl, by decide, by decide⟩, by decide +kernel⟩).trans e65
  have e66 : q1053.1 66 0 = a66 := (hk 66 0 ⟨⟨rfl, by decide, by decide⟩, by decide +kernel⟩).trans e66
  have e67 : q1053.1 67 0 = a67 := (hk 67 0 ⟨⟨rfl, by decide, by decide⟩, by decide +kernel⟩).trans e67
  have e68 : q1053.1 68 0 = a68 := (hk 68 0 ⟨⟨rfl, by decide, by decide⟩, by decide +kernel⟩).trans e68
  have e4 : q1053.1 4 0 = a4 := (hk 4 0 ⟨⟨rfl, by decide, by decide⟩, by decide +kernel⟩).trans e4
  have e75 : q1053.1 75 0 = a75 := (hk 75 0 ⟨⟨rfl, by decide, by decide⟩, by decide +kernel⟩).trans e75
  have e16 : q1053.1 16 0 = a16 := (hk 16 0 ⟨⟨rfl, by decide, by decide⟩, by decide +kernel⟩).trans e16
  have e76 : q1053.1 76 0 = a76 := (hk 76 0 ⟨⟨rfl, by decide, by decide⟩, by decide +kernel⟩).trans e76
  have e7 : q1053.1 7 0 = a7 := (hk 7 0 ⟨⟨rfl, by decide, by decide⟩, by decide +kernel⟩).trans e7
  have e10 : q1053.1 10 0 = a10 := (hk 10 0 ⟨⟨rfl, by decide, by decide⟩, by decide +kernel⟩).trans e10
  have e13 : q1053.1 13 0 = a13 := (hk 13 0 ⟨⟨rfl, by decide, by decide⟩, by decide +kernel⟩).trans e13
  have e77 : q1053.1 77 0 = a77 := (hk 77 0 ⟨⟨rfl, by decide, by decide⟩, by decide +kernel⟩).trans e77
  have e78 : q1053.1 78 0 = a78 := (hk 78 0 ⟨⟨rfl, by decide, by decide⟩, by decide +kernel⟩).trans e78
  have e79 : q1053.1 79 0 = a79 := (hk 79 0 ⟨⟨rfl, by decide, by decide⟩, by decide +kernel⟩).trans e79
  have e80 : q1053.1 80 0 = a80 := (hk 80 0 ⟨⟨rfl, by decide, by decide⟩, by decide +kernel⟩).trans e80
  have e81 : q1053.1 81 0 = a81 := (hk 81 0 ⟨⟨rfl, by decide, by decide⟩, by decide +kernel⟩).trans e81
  have e82 : q1053.1 82 0 = a82 := (hk 82 0 ⟨⟨rfl, by decide, by decide⟩, by decide +kernel⟩).trans e82
  have e83 : q1053.1 83 0 = a83 := (hk 83 0 ⟨⟨rfl, by decide, by decide⟩, by decide +kernel⟩).trans e83
  have e84 : q1053.1 84 0 = a84 := (hk 84 0 ⟨⟨rfl, by decide, by decide⟩, by decide +kernel⟩).trans e84
  have e85 : q1053.1 85 0 = a85 := (hk 85 0 ⟨⟨rfl, by decide, by decide⟩, by decide +kernel⟩).trans e85
  have e86 : q1053.1 86 0 = a86 := (hk 86 0 ⟨⟨rfl, by decide, by decide⟩, by decide +kernel⟩).trans e86
  have hkp := hkp.tr hk (by decide)
  refine nn_put (pc := 1055) (r := 0) (k := 93) (n' := 282) g cl_Mo ⟨⟨rfl, by decide, by decide⟩, by decide +kernel⟩ (by decide) (Or.inl kn_230) (Or.inr ⟨rfl, hnm, rfl, kn_230⟩) e0 rfl rfl (Or.inl ⟨(by decide +kernel), rfl, (fvR rfl rfl e87)⟩) d_Mo_init_1055 ?_
  refine nn_aload_n (pc := 1058) g.1 d_Mo_init_1058 rfl (lv_at hl 0 rfl) ?_
  refine nn_sipush (pc := 1059) g.1 (v := 20000) d_Mo_init_1059 (by decide) ?_
  refine nn_arr (pc := 1062) (r := 88) (i := 0) (N := 20000) (at0 := .byte) (m := (m.1 + 727, m.2 + 527430)) g.gn rfl (by decide) ⟨rfl, by decide, by decide⟩ (by decide +kernel) (by decide) rfl (by decide) (by decide) (hm.le (by dsimp only; omega) (by dsimp only; omega)) kn_12 d_Mo_init_1062 fun q1062 a88 hk e88 hm => ?_
  have e0 : q1062.1 0 0 = a0 := (hk 0 0 ⟨⟨rfl, by decide, by decide⟩, by decide +kernel⟩).trans e0
  have e41 : q1062.1 41 0 = a41 := (hk 41 0 ⟨⟨rfl, by decide, by decide⟩, by decide +kernel⟩).trans e41
  have e42 : q1062.1 42 0 = a42 := (hk 42 0 ⟨⟨rfl, by decide, by decide⟩, by decide +kernel⟩).trans e42
  have e43 : q1062.1 43 0 = a43 := (hk 43 0 ⟨⟨rfl, by decide, by decide⟩, by decide +kernel⟩).trans e43
  have e44 : q1062.1 44 0 = a44 := (hk 44 0 ⟨⟨rfl, by decide, by decide⟩, by decide +kernel⟩).trans e44
  have e45 : q1062.1 45 0 = a45 := (hk 45 0 ⟨⟨rfl, by decide, by decide⟩, by decide +kernel⟩).trans e45
  have e46 : q1062.1 46 0 = a46 := (hk 46 0 ⟨⟨rfl, by decide, by decide⟩, by decide +kernel⟩).trans e46
  have e47 : q1062.1 47 0 = a47 := (hk 47 0 ⟨⟨rfl, by decide, by decide⟩, by decide +kernel⟩).trans e47
  have e48 : q1062.1 48 0 = a48 := (hk 48 0 ⟨⟨rfl, by decide, by decide⟩, by decide +kernel⟩).trans e48
  have e49 : q1062.1 49 0 = a49 := (hk 49 0 ⟨⟨rfl, by decide, by decide⟩, by decide +kernel⟩).trans e49
  have e50 : q1062.1 50 0 = a50 := (hk 50 0 ⟨⟨rfl, by decide, by decide⟩, by decide +kernel⟩).trans e50
  have e51 : q1062.1 51 0 = a51 := (hk 51 0 ⟨⟨rfl, by decide, by decide⟩, by decide +kernel⟩).trans e51
  have e52 : q1062.1 52 0 = a52 := (hk 52 0 ⟨⟨rfl, by decide, by decide⟩, by decide +kernel⟩).trans e52
  have e53 : q1062.1 53 0 = a53 := (hk 53 0 ⟨⟨rfl, by decide, by decide⟩, by decide +kernel⟩).trans e53
  have e54 : q1062.1 54 0 = a54 := (hk 54 0 ⟨⟨rfl, by decide, by decide⟩, by decide +kernel⟩).trans e54
  have e55 : q1062.1 55 0 = a55 := (hk 55 0 ⟨⟨rfl, by decide, by decide⟩, by decide +kernel⟩).trans e55
  have e56 : q1062.1 56 0 = a56 := (hk 56 0 ⟨⟨rfl, by decide, by decide⟩, by decide +kernel⟩).trans e56
  have e1 : q1062.1 1 0 = a1 := (hk 1 0 ⟨⟨rfl, by decide, by decide⟩, by decide +kernel⟩).trans e1
  have e57 : q1062.1 57 0 = a57 := (hk 57 0 ⟨⟨rfl, by decide, by decide⟩, by decide +kernel⟩).trans e57
  have e58 : q1062.1 58 0 = a58 := (hk 58 0 ⟨⟨rfl, by decide, by decide⟩, by decide +kernel⟩).trans e58
  have e59 : q1062.1 59 0 = a59 := (hk 59 0 ⟨⟨rfl, by decide, by decide⟩, by decide +kernel⟩).trans e59
  have e60 : q1062.1 60 0 = a60 := (hk 60 0 ⟨⟨rfl, by decide, by decide⟩, by decide +kernel⟩).trans e60
  have e61 : q1062.1 61 0 = a61 := (hk 61 0 ⟨⟨rfl, by decide, by decide⟩, by decide +kernel⟩).trans e61
  have e62 : q1062.1 62 0 = a62 := (hk 62 0 ⟨⟨rfl, by decide, by decide⟩, by decide +kernel⟩).trans e62
  have e63 : q1062.1 63 0 = a63 := (hk 63 0 ⟨⟨rfl, by decide, by decide⟩, by decide +kernel⟩).trans e63
  have e64 : q1062.1 64 0 = a64 := (hk 64 0 ⟨⟨rfl, by decide, by decide⟩, by decide +kernel⟩).trans e64
  have e65 : q1062.1 65 0 = a65 := (hk 65 0 ⟨⟨rfl, by decide, by decide⟩, by decide +kernel⟩).trans e65
  have e66 : q1062.1 66 0 = a66 := (hk 66 0 ⟨⟨rfl, by decide, by decide⟩, by decide +kernel⟩).trans e66
  have e67 : q1062.1 67 0 = a67 := (hk 67 0 ⟨⟨rfl, by decide, by decide⟩, by decide +kernel⟩).trans e67
  have e68 : q1062.1 68 0 = a68 := (hk 68 0 ⟨⟨rfl, by decide, by decide⟩, by decide +kernel⟩).trans e68
  have e4 : q1062.1 4 0 = a4 := (hk 4 0 ⟨⟨rfl, by decide, by decide⟩, by decide +kernel⟩).trans e4
  have e75 : q1062.1 75 0 = a75 := (hk 75 0 ⟨⟨rfl, by decide, by decide⟩, by decide +kernel⟩).trans e75
  have e16 : q1062.1 16 0 = a16 := (hk 16 0 ⟨⟨rfl, by decide, by decide⟩, by decide +kernel⟩).trans e16
  have e76 : q1062.1 76 0 = a76 := (hk 76 0 ⟨⟨rfl, by decide, by decide⟩, by decide +kernel⟩).trans e76
  have e7 : q1062.1 7 0 = a7 := (hk 7 0 ⟨⟨rfl, by decide, by decide⟩, by decide +kernel⟩).trans e7
  have e10 : q1062.1 10 0 = a10 := (hk 10 0 ⟨⟨rfl, by decide, by decide⟩, by decide +kernel⟩).trans e10
  have e13 : q1062.1 13 0 = a13 := (hk 13 0 ⟨⟨rfl, by decide, by decide⟩, by decide +kernel⟩).trans e13
  have e77 : q1062.1 77 0 = a77 := (hk 77 0 ⟨⟨rfl, by decide, by decide⟩, by decide +kernel⟩).trans e77
  have e78 : q1062.1 78 0 = a78 := (hk 78 0 ⟨⟨rfl, by decide, by decide⟩, by decide +kernel⟩).trans e78
  have e79 : q1062.1 79 0 = a79 := (hk 79 0 ⟨⟨rfl, by decide, by decide⟩, by decide +kernel⟩).trans e79
  have e80 : q1062.1 80 0 = a80 := (hk 80 0 ⟨⟨rfl, by decide, by decide⟩, by decide +kernel⟩).trans e80
  have e81 : q1062.1 81 0 = a81 := (hk 81 0 ⟨⟨rfl, by decide, by decide⟩, by decide +kernel⟩).trans e81
  have e82 : q1062.1 82 0 = a82 := (hk 82 0 ⟨⟨rfl, by decide, by decide⟩, by decide +kernel⟩).trans e82
  have e83 : q1062.1 83 0 = a83 := (hk 83 0 ⟨⟨rfl, by decide, by decide⟩, by decide +kernel⟩).trans e83
  have e84 : q1062.1 84 0 = a84 := (hk 84 0 ⟨⟨rfl, by decide, by decide⟩, by decide +kernel⟩).trans e84
  have e85 : q1062.1 85 0 = a85 := (hk 85 0 ⟨⟨rfl, by decide, by decide⟩, by decide +kernel⟩).trans e85
  have e86 : q1062.1 86 0 = a86 := (hk 86 0 ⟨⟨rfl, by decide, by decide⟩, by decide +kernel⟩).trans e86
  have e87 : q1062.1 87 0 = a87 := (hk 87 0 ⟨⟨rfl, by decide, by decide⟩, by decide +kernel⟩).trans e87
  have hkp := hkp.tr hk (by decide)
  refine nn_put (pc := 1064) (r := 0) (k := 94) (n' := 284) g cl_Mo ⟨⟨rfl, by decide, by decide⟩, by decide +kernel⟩ (by decide) (Or.inl kn_231) (Or.inr ⟨rfl, hnm, rfl, kn_231⟩) e0 rfl rfl (Or.inl ⟨(by decide +kernel), rfl, (fvR rfl rfl e88)⟩) d_Mo_init_1064 ?_
  refine nn_aload_n (pc := 1067) g.1 d_Mo_init_1067 rfl (lv_at hl 0 rfl) ?_
  refine nn_iconst (pc := 1068) g.1 (v := 0) d_Mo_init_1068 (by decide) ?_
  refine nn_put (pc := 1069) (r := 0) (k := 95) (n' := 284) g cl_Mo ⟨⟨rfl, by decide, by decide⟩, by decide +kernel⟩ (by decide) (Or.inl kn_232) (Or.inl rfl) e0 rfl rfl (Or.inr ⟨rfl, fN_dv (Or.inr ⟨by decide +kernel, (by decide), (fvI rfl rfl)⟩)⟩) d_Mo_init_1069 ?_
  refine nn_aload_n (pc := 1072) g.1 d_Mo_init_1072 rfl (lv_at hl 0 rfl) ?_
  refine nn_iconst (pc := 1073) g.1 (v := 0) d_Mo_init_1073 (by decide) ?_
  refine nn_put (pc := 1074) (r := 0) (k := 96) (n' := 284) g cl_Mo ⟨⟨rfl, by decide, by decide⟩, by decide +kernel⟩ (by decide) (Or.inl kn_233) (Or.inl rfl) e0 rfl rfl (Or.inr ⟨rfl, fN_dv (Or.inr ⟨by decide +kernel, (by decide), (fvI rfl rfl)⟩)⟩) d_Mo_init_1074 ?_
  refine nn_aload_n (pc := 1077) g.1 d_Mo_init_1077 rfl (lv_at hl 0 rfl) ?_
  refine nn_bipush (pc := 1078) g.1 (v := 24) d_Mo_init_1078 (by decide) ?_
  refine nn_arr (pc := 1080) (r := 89) (i := 0) (N := 24) (at0 := .byte) (m := (m.1 + 726, m.2 + 527406)) g.gn rfl (by decide) ⟨rfl, by decide, by decide⟩ (by decide +kernel) (by decide) rfl (by decide) (by decide) (hm.le (by dsimp only; omega) (by dsimp only; omega)) kn_12 d_Mo_init_1080 fun q1080 a89 hk e89 hm => ?_
  have e0 : q1080.1 0 0 = a0 := (hk 0 0 ⟨⟨rfl, by decide, by decide⟩, by decide +kernel⟩).trans e0
  have e41 : q1080.1 41 0 = a41 := (hk 41 0 ⟨⟨rfl, by decide, by decide⟩, by decide +kernel⟩).trans e41
  have e42 : q1080.1 42 0 = a42 := (hk 42 0 ⟨⟨rfl, by decide, by decide⟩, by decide +kernel⟩).trans e42
  have e43 : q1080.1 43 0 = a43 := (hk 43 0 ⟨⟨rfl, by decide, by decide⟩, by decide +kernel⟩).trans e43
  have e44 : q1080.1 44 0 = a44 := (hk 44 0 ⟨⟨rfl, by decide, by decide⟩, by decide +kernel⟩).trans e44
  have e45 : q1080.1 45 0 = a45 := (hk 45 0 ⟨⟨rfl, by decide, by decide⟩, by decide +kernel⟩).trans e45
  have e46 : q1080.1 46 0 = a46 := (hk 46 0 ⟨⟨rfl, by decide, by decide⟩, by decide +kernel⟩).trans e46
  have e47 : q1080.1 47 0 = a47 := (hk 47 0 ⟨⟨rfl, by decide, by decide⟩, by decide +kernel⟩).trans e47
  have e48 : q1080.1 48 0 = a48 := (hk 48 0 ⟨⟨rfl, by decide, by decide⟩, by decide +kernel⟩).trans e48
  have e49 : q1080.1 49 0 = a49 := (hk 49 0 ⟨⟨rfl, by decide, by decide⟩, by decide +kernel⟩).trans e49
  have e50 : q1080.1 50 0 = a50 := (hk 50 0 ⟨⟨rfl, by decide, by decide⟩, by decide +kernel⟩).trans e50
  have e51 : q1080.1 51 0 = a51 := (hk 51 0 ⟨⟨rfl, by decide, by decide⟩, by decide +kernel⟩).trans e51
  have e52 : q1080.1 52 0 = a52 := (hk 52 0 ⟨⟨rfl, by decide, by decide⟩, by decide +kernel⟩).trans e52
  have e53 : q1080.1 53 0 = a53 := (hk 53 0 ⟨⟨rfl, by decide, by decide⟩, by decide +kernel⟩).trans e53
  have e54 : q1080.1 54 0 = a54 := (hk 54 0 ⟨⟨rfl, by decide, by decide⟩, by decide +kernel⟩).trans e54
  have e55 : q1080.1 55 0 = a55 := (hk 55 0 ⟨⟨rfl, by decide, by decide⟩, by decide +kernel⟩).trans e55
  have e56 : q1080.1 56 0 = a56 := (hk 56 0 ⟨⟨rfl, by decide, by decide⟩, by decide +kernel⟩).trans e56
  have e1 : q1080.1 1 0 = a1 := (hk 1 0 ⟨⟨rfl, by decide, by decide⟩, by decide +kernel⟩).trans e1
  have e57 : q1080.1 57 0 = a57 := (hk 57 0 ⟨⟨rfl, by decide, by decide⟩, by decide +kernel⟩).trans e57
  have e58 : q1080.1 58 0 = a58 := (hk 58 0 ⟨⟨rfl, by decide, by decide⟩, by decide +kernel⟩).trans e58
  have e59 : q1080.1 59 0 = a59 := (hk 59 0 ⟨⟨rfl, by decide, by decide⟩, by decide +kernel⟩).trans e59
  have e60 : q1080.1 60 0 = a60 := (hk 60 0 ⟨⟨rfl, by decide, by decide⟩, by decide +kernel⟩).trans e60
  have e61 : q1080.1 61 0 = a61 := (hk 61 0 ⟨⟨rfl, by decide, by decide⟩, by decide +kernel⟩).trans e61
  have e62 : q1080.1 62 0 = a62 := (hk 62 0 ⟨⟨rfl, by decide, by decide⟩, by decide +kernel⟩).trans e62
  have e63 : q1080.1 63 0 = a63 := (hk 63 0 ⟨⟨rfl, by decide, by decide⟩, by decide +kernel⟩).trans e63
  have e64 : q1080.1 64 0 = a64 := (hk 64 0 ⟨⟨rfl, by decide, by decide⟩, by decide +kernel⟩).trans e64
  have e65 : q1080.1 65 0 = a65 := (hk 65 0 ⟨⟨rfl, by decide, by decide⟩, by decide +kernel⟩).trans e65
  have e66 : q1080.1 66 0 = a66 := (hk 66 0 ⟨⟨rfl, by decide, by decide⟩, by decide +kernel⟩).trans e66
  have e67 : q1080.1 67 0 = a67 := (hk 67 0 ⟨⟨rfl, by decide, by decide⟩, by decide +kernel⟩).trans e67
  have e68 : q1080.1 68 0 = a68 := (hk 68 0 ⟨⟨rfl, by decide, by decide⟩, by decide +kernel⟩).trans e68
  have e4 : q1080.1 4 0 = a4 := (hk 4 0 ⟨⟨rfl, by decide, by decide⟩, by decide +kernel⟩).trans e4
  have e75 : q1080.1 75 0 = a75 := (hk 75 0 ⟨⟨rfl, by decide, by decide⟩, by decide +kernel⟩).trans e75
  have e16 : q1080.1 16 0 = a16 := (hk 16 0 ⟨⟨rfl, by decide, by decide⟩, by decide +kernel⟩).trans e16
  have e76 : q1080.1 76 0 = a76 := (hk 76 0 ⟨⟨rfl, by decide, by decide⟩, by decide +kernel⟩).trans e76
  have e7 : q1080.1 7 0 = a7 := (hk 7 0 ⟨⟨rfl, by decide, by decide⟩, by decide +kernel⟩).trans e7
  have e10 : q1080.1 10 0 = a10 := (hk 10 0 ⟨⟨rfl, by decide, by decide⟩, by decide +kernel⟩).trans e10
  have e13 : q1080.1 13 0 = a13 := (hk 13 0 ⟨⟨rfl, by decide, by decide⟩, by decide +kernel⟩).trans e13
  have e77 : q1080.1 77 0 = a77 := (hk 77 0 ⟨⟨rfl, by decide, by decide⟩, by decide +kernel⟩).trans e77
  have e78 : q1080.1 78 0 = a78 := (hk 78 0 ⟨⟨rfl, by decide, by decide⟩, by decide +kernel⟩).trans e78
  have e79 : q1080.1 79 0 = a79 := (hk 79 0 ⟨⟨rfl, by decide, by decide⟩, by decide +kernel⟩).trans e79
  have e80 : q1080.1 80 0 = a80 := (hk 80 0 ⟨⟨rfl, by decide, by decide⟩, by decide +kernel⟩).trans e80
  have e81 : q1080.1 81 0 = a81 := (hk 81 0 ⟨⟨rfl, by decide, by decide⟩, by decide +kernel⟩).trans e81
  have e82 : q1080.1 82 0 = a82 := (hk 82 0 ⟨⟨rfl, by decide, by decide⟩, by decide +kernel⟩).trans e82
  have e83 : q1080.1 83 0 = a83 := (hk 83 0 ⟨⟨rfl, by decide, by decide⟩, by decide +kernel⟩).trans e83
  have e84 : q1080.1 84 0 = a84 := (hk 84 0 ⟨⟨rfl, by decide, by decide⟩, by decide +kernel⟩).trans e84
  have e85 : q1080.1 85 0 = a85 := (hk 85 0 ⟨⟨rfl, by decide, by decide⟩, by decide +kernel⟩).trans e85
  have e86 : q1080.1 86 0 = a86 := (hk 86 0 ⟨⟨rfl, by decide, by decide⟩, by decide +kernel⟩).trans e86
  have e87 : q1080.1 87 0 = a87 := (hk 87 0 ⟨⟨rfl, by decide, by decide⟩, by decide +kernel⟩).trans e87
  have e88 : q1080.1 88 0 = a88 := (hk 88 0 ⟨⟨rfl, by decide, by decide⟩, by decide +kernel⟩).trans e88
  have hkp := hkp.tr hk (by decide)
  refine nn_put (pc := 1082) (r := 0) (k := 97) (n' := 286) g cl_Mo ⟨⟨rfl, by decide, by decide⟩, by decide +kernel⟩ (by decide) (Or.inl kn_234) (Or.inr ⟨rfl, hnm, rfl, kn_234⟩) e0 rfl rfl (Or.inl ⟨(by decide +kernel), rfl, (fvR rfl rfl e89)⟩) d_Mo_init_1082 ?_
  refine nn_aload_n (pc := 1085) g.1 d_Mo_init_1085 rfl (lv_at hl 0 rfl) ?_
  refine nn_iconst (pc := 1086) g.1 (v := 0) d_Mo_init_1086 (by decide) ?_
  refine nn_put (pc := 1087) (r := 0) (k := 98) (n' := 286) g cl_Mo ⟨⟨rfl, by decide, by decide⟩, by decide +kernel⟩ (by decide) (Or.inl kn_235) (Or.inl rfl) e0 rfl rfl (Or.inr ⟨rfl, fN_dv (Or.inr ⟨by decide +kernel, (by decide), (fvI rfl rfl)⟩)⟩) d_Mo_init_1087 ?_
  refine nn_aload_n (pc := 1090) g.1 d_Mo_init_1090 rfl (lv_at hl 0 rfl) ?_
  refine nn_lconst (pc := 1091) g.1 (v := 0) d_Mo_init_1091 (by decide) ?_
  refine nn_put (pc := 1092) (r := 0) (k := 99) (n' := 286) g cl_Mo ⟨⟨rfl, by decide, by decide⟩, by decide +kernel⟩ (by decide) (Or.inl kn_236) (Or.inl rfl) e0 rfl rfl (Or.inr ⟨rfl, fN_dv (Or.inr ⟨by decide +kernel, (by decide), rfl⟩)⟩) d_Mo_init_1092 ?_
  refine nn_iconst (pc := 1095) g.1 (v := 0) d_Mo_init_1095 (by decide) ?_
  refine nn_istore_n (pc := 1096) (j := 1) g.1 (lv' := [(1, .int 0), (0, .ref a0)]) d_Mo_init_1096 rfl hl (by decide) rfl fun ls hl => ?_
  refine loop_Mo g hR hkp e0 e76 hm ls hl
