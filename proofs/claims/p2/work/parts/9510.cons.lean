theorem cn_Ch_101 {l : Launch} {P : PP} {q : PL} {m : Nat × Nat} (hm : Rnn P q (m.1 + 9, m.2 + 141076)) {a101 : Nat} (e101 : q.1 101 0 = a101) : CtN l y_Ch_init b_Ch_init 1 2 40 P q 3 [.ref a101] m 22 := by
  refine ctN_of (by decide) rfl (Nat.le_of_ble_eq_true rfl) fun X ls eP el g hnm hR hl => ?_
  subst eP
  have hkp : Kpp 3 q q := Kpp.rf
  have hl : lv_has ls 1 [(0, .ref a101)] := hl
  refine nn_aload_n (pc := 0) g.1 d_Ch_init_0 rfl (lv_at hl 0 rfl) ?_
  refine nn_obj (pc := 1) g.gn kn_6 kn_1 kn_2 ⟨by decide, by decide⟩ hl.1 (Nat.le_of_ble_eq_true rfl) d_Ch_init_1 ?_
  refine nn_aload_n (pc := 4) g.1 d_Ch_init_4 rfl (lv_at hl 0 rfl) ?_
  refine nn_sipush (pc := 5) g.1 (v := 250) d_Ch_init_5 (by decide) ?_
  refine nn_anew (pc := 8) (r := 102) (i := 0) (N := 250) (m := (m.1 + 8, m.2 + 140826)) g.gn (by decide) ⟨rfl, by decide, by decide⟩ (by decide +kernel) (by decide) rfl (by decide) (by decide) (fun j hj => hz_102 j hj) (hm.le (by dsimp only; omega) (by dsimp only; omega)) kn_7 kxn_0 d_Ch_init_8 fun q8 a102 hk e102 hm => ?_
  have e101 : q8.1 101 0 = a101 := (hk 101 0 ⟨⟨rfl, by decide, by decide⟩, by decide +kernel⟩).trans e101
  have hkp := hkp.tr hk (by decide)
  refine nn_put (pc := 11) (r := 101) (k := 0) (n' := 5) g cl_Ch ⟨⟨rfl, by decide, by decide⟩, by decide +kernel⟩ (by decide) (Or.inl kn_8) (Or.inr ⟨rfl, hnm, rfl, kn_8⟩) e101 rfl rfl (Or.inl ⟨(by decide +kernel), rfl, (fvR rfl rfl e102)⟩) d_Ch_init_11 ?_
  refine nn_aload_n (pc := 14) g.1 d_Ch_init_14 rfl (lv_at hl 0 rfl) ?_
  refine nn_sipush (pc := 15) g.1 (v := 250) d_Ch_init_15 (by decide) ?_
  refine nn_arr (pc := 18) (r := 103) (i := 0) (N := 250) (at0 := .int) (m := (m.1 + 7, m.2 + 140576)) g.gn rfl (by decide) ⟨rfl, by decide, by decide⟩ (by decide +kernel) (by decide) rfl (by decide) (by decide) (hm.le (by dsimp only; omega) (by dsimp only; omega)) kn_9 d_Ch_init_18 fun q18 a103 hk e103 hm => ?_
  have e101 : q18.1 101 0 = a101 := (hk 101 0 ⟨⟨rfl, by decide, by decide⟩, by decide +kernel⟩).trans e101
  have e102 : q18.1 102 0 = a102 := (hk 102 0 ⟨⟨rfl, by decide, by decide⟩, by decide +kernel⟩).trans e102
  have hkp := hkp.tr hk (by decide)
  refine nn_put (pc := 20) (r := 101) (k := 1) (n' := 7) g cl_Ch ⟨⟨rfl, by decide, by decide⟩, by decide +kernel⟩ (by decide) (Or.inl kn_10) (Or.inr ⟨rfl, hnm, rfl, kn_10⟩) e101 rfl rfl (Or.inl ⟨(by decide +kernel), rfl, (fvR rfl rfl e103)⟩) d_Ch_init_20 ?_
  refine nn_aload_n (pc := 23) g.1 d_Ch_init_23 rfl (lv_at hl 0 rfl) ?_
  refine nn_sipush (pc := 24) g.1 (v := 20000) d_Ch_init_24 (by decide) ?_
  refine nn_arr (pc := 27) (r := 104) (i := 0) (N := 20000) (at0 := .int) (m := (m.1 + 6, m.2 + 120576)) g.gn rfl (by decide) ⟨rfl, by decide, by decide⟩ (by decide +kernel) (by decide) rfl (by decide) (by decide) (hm.le (by dsimp only; omega) (by dsimp only; omega)) kn_9 d_Ch_init_27 fun q27 a104 hk e104 hm => ?_
  have e101 : q27.1 101 0 = a101 := (hk 101 0 ⟨⟨rfl, by decide, by decide⟩, by decide +kernel⟩).trans e101
  have e102 : q27.1 102 0 = a102 := (hk 102 0 ⟨⟨rfl, by decide, by decide⟩, by decide +kernel⟩).trans e102
  have e103 : q27.1 103 0 = a103 := (hk 103 0 ⟨⟨rfl, by decide, by decide⟩, by decide +kernel⟩).trans e103
  have hkp := hkp.tr hk (by decide)
  refine nn_put (pc := 29) (r := 101) (k := 2) (n' := 9) g cl_Ch ⟨⟨rfl, by decide, by decide⟩, by decide +kernel⟩ (by decide) (Or.inl kn_11) (Or.inr ⟨rfl, hnm, rfl, kn_11⟩) e101 rfl rfl (Or.inl ⟨(by decide +kernel), rfl, (fvR rfl rfl e104)⟩) d_Ch_init_29 ?_
  refine nn_aload_n (pc := 32) g.1 d_Ch_init_32 rfl (lv_at hl 0 rfl) ?_
  refine nn_sipush (pc := 33) g.1 (v := 20000) d_Ch_init_33 (by decide) ?_
  refine nn_arr (pc := 36) (r := 105) (i := 0) (N := 20000) (at0 := .byte) (m := (m.1 + 5, m.2 + 100576)) g.gn rfl (by decide) ⟨rfl, by decide, by decide⟩ (by decide +kernel) (by decide) rfl (by decide) (by decide) (hm.le (by dsimp only; omega) (by dsimp only; omega)) kn_12 d_Ch_init_36 fun q36 a105 hk e105 hm => ?_
  have e101 : q36.1 101 0 = a101 := (hk 101 0 ⟨⟨rfl, by decide, by decide⟩, by decide +kernel⟩).trans e101
  have e102 : q36.1 102 0 = a102 := (hk 102 0 ⟨⟨rfl, by decide, by decide⟩, by decide +kernel⟩).trans e102
  have e103 : q36.1 103 0 = a103 := (hk 103 0 ⟨⟨rfl, by decide, by decide⟩, by decide +kernel⟩).trans e103
  have e104 : q36.1 104 0 = a104 := (hk 104 0 ⟨⟨rfl, by decide, by decide⟩, by decide +kernel⟩).trans e104
  have hkp := hkp.tr hk (by decide)
  refine nn_put (pc := 38) (r := 101) (k := 3) (n' := 11) g cl_Ch ⟨⟨rfl, by decide, by decide⟩, by decide +kernel⟩ (by decide) (Or.inl kn_13) (Or.inr ⟨rfl, hnm, rfl, kn_13⟩) e101 rfl rfl (Or.inl ⟨(by decide +kernel), rfl, (fvR rfl rfl e105)⟩) d_Ch_init_38 ?_
  refine nn_aload_n (pc := 41) g.1 d_Ch_init_41 rfl (lv_at hl 0 rfl) ?_
  refine nn_sipush (pc := 42) g.1 (v := 20000) d_Ch_init_42 (by decide) ?_
  refine nn_arr (pc := 45) (r := 106) (i := 0) (N := 20000) (at0 := .long) (m := (m.1 + 4, m.2 + 80576)) g.gn rfl (by decide) ⟨rfl, by decide, by decide⟩ (by decide +kernel) (by decide) rfl (by decide) (by decide) (hm.le (by dsimp only; omega) (by dsimp only; omega)) kn_14 d_Ch_init_45 fun q45 a106 hk e106 hm => ?_
  have e101 : q45.1 101 0 = a101 := (hk 101 0 ⟨⟨rfl, by decide, by decide⟩, by decide +kernel⟩).trans e101
  have e102 : q45.1 102 0 = a102 := (hk 102 0 ⟨⟨rfl, by decide, by decide⟩, by decide +kernel⟩).trans e102
  have e103 : q45.1 103 0 = a103 := (hk 103 0 ⟨⟨rfl, by decide, by decide⟩, by decide +kernel⟩).trans e103
  have e104 : q45.1 104 0 = a104 := (hk 104 0 ⟨⟨rfl, by decide, by decide⟩, by decide +kernel⟩).trans e104
  have e105 : q45.1 105 0 = a105 := (hk 105 0 ⟨⟨rfl, by decide, by decide⟩, by decide +kernel⟩).trans e105
  have hkp := hkp.tr hk (by decide)
  refine nn_put (pc := 47) (r := 101) (k := 4) (n' := 13) g cl_Ch ⟨⟨rfl, by decide, by decide⟩, by decide +kernel⟩ (by decide) (Or.inl kn_15) (Or.inr ⟨rfl, hnm, rfl, kn_15⟩) e101 rfl rfl (Or.inl ⟨(by decide +kernel), rfl, (fvR rfl rfl e106)⟩) d_Ch_init_47 ?_
  refine nn_aload_n (pc := 50) g.1 d_Ch_init_50 rfl (lv_at hl 0 rfl) ?_
  refine nn_sipush (pc := 51) g.1 (v := 15000) d_Ch_init_51 (by decide) ?_
  refine nn_arr (pc := 54) (r := 107) (i := 0) (N := 15000) (at0 := .int) (m := (m.1 + 3, m.2 + 65576)) g.gn rfl (by decide) ⟨rfl, by decide, by decide⟩ (by decide +kernel) (by decide) rfl (by decide) (by decide) (hm.le (by dsimp only; omega) (by dsimp only; omega)) kn_9 d_Ch_init_54 fun q54 a107 hk e107 hm => ?_
  have e101 : q54.1 101 0 = a101 := (hk 101 0 ⟨⟨rfl, by decide, by decide⟩, by decide +kernel⟩).trans e101
  have e102 : q54.1 102 0 = a102 := (hk 102 0 ⟨⟨rfl, by decide, by decide⟩, by decide +kernel⟩).trans e102
  have e103 : q54.1 103 0 = a103 := (hk 103 0 ⟨⟨rfl, by decide, by decide⟩, by decide +kernel⟩).trans e103
  have e104 : q54.1 104 0 = a104 := (hk 104 0 ⟨⟨rfl, by decide, by decide⟩, by decide +kernel⟩).trans e104
  have e105 : q54.1 105 0 = a105 := (hk 105 0 ⟨⟨rfl, by decide, by decide⟩, by decide +kernel⟩).trans e105
  have e106 : q54.1 106 0 = a106 := (hk 106 0 ⟨⟨rfl, by decide, by decide⟩, by decide +kernel⟩).trans e106
  have hkp := hkp.tr hk (by decide)
  refine nn_put (pc := 56) (r := 101) (k := 5) (n' := 15) g cl_Ch ⟨⟨rfl, by decide, by decide⟩, by decide +kernel⟩ (by decide) (Or.inl kn_16) (Or.inr ⟨rfl, hnm, rfl, kn_16⟩) e101 rfl rfl (Or.inl ⟨(by decide +kernel), rfl, (fvR rfl rfl e107)⟩) d_Ch_init_56 ?_
  refine nn_aload_n (pc := 59) g.1 d_Ch_init_59 rfl (lv_at hl 0 rfl) ?_
  refine nn_ldc (pc := 60) g.gn (v := 65536) kn_17 d_Ch_init_60 ?_
  refine nn_arr (pc := 62) (r := 108) (i := 0) (N := 65536) (at0 := .byte) (m := (m.1 + 2, m.2 + 40)) g.gn rfl (by decide) ⟨rfl, by decide, by decide⟩ (by decide +kernel) (by decide) rfl (by decide) (by decide) (hm.le (by dsimp only; omega) (by dsimp only; omega)) kn_12 d_Ch_init_62 fun q62 a108 hk e108 hm => ?_
  have e101 : q62.1 101 0 = a101 := (hk 101 0 ⟨⟨rfl, by decide, by decide⟩, by decide +kernel⟩).trans e101
  have e102 : q62.1 102 0 = a102 := (hk 102 0 ⟨⟨rfl, by decide, by decide⟩, by decide +kernel⟩).trans e102
  have e103 : q62.1 103 0 = a103 := (hk 103 0 ⟨⟨rfl, by decide, by decide⟩, by decide +kernel⟩).trans e103
  have e104 : q62.1 104 0 = a104 := (hk 104 0 ⟨⟨rfl, by decide, by decide⟩, by decide +kernel⟩).trans e104
  have e105 : q62.1 105 0 = a105 := (hk 105 0 ⟨⟨rfl, by decide, by decide⟩, by decide +kernel⟩).trans e105
  have e106 : q62.1 106 0 = a106 := (hk 106 0 ⟨⟨rfl, by decide, by decide⟩, by decide +kernel⟩).trans e106
  have e107 : q62.1 107 0 = a107 := (hk 107 0 ⟨⟨rfl, by decide, by decide⟩, by decide +kernel⟩).trans e107
  have hkp := hkp.tr hk (by decide)
  refine nn_put (pc := 64) (r := 101) (k := 6) (n' := 17) g cl_Ch ⟨⟨rfl, by decide, by decide⟩, by decide +kernel⟩ (by decide) (Or.inl kn_18) (Or.inr ⟨rfl, hnm, rfl, kn_18⟩) e101 rfl rfl (Or.inl ⟨(by decide +kernel), rfl, (fvR rfl rfl e108)⟩) d_Ch_init_64 ?_
  refine nn_aload_n (pc := 67) g.1 d_Ch_init_67 rfl (lv_at hl 0 rfl) ?_
  refine nn_bipush (pc := 68) g.1 (v := 20) d_Ch_init_68 (by decide) ?_
  refine nn_arr (pc := 70) (r := 109) (i := 0) (N := 20) (at0 := .int) (m := (m.1 + 1, m.2 + 20)) g.gn rfl (by decide) ⟨rfl, by decide, by decide⟩ (by decide +kernel) (by decide) rfl (by decide) (by decide) (hm.le (by dsimp only; omega) (by dsimp only; omega)) kn_9 d_Ch_init_70 fun q70 a109 hk e109 hm => ?_
  have e101 : q70.1 101 0 = a101 := (hk 101 0 ⟨⟨rfl, by decide, by decide⟩, by decide +kernel⟩).trans e101
  have e102 : q70.1 102 0 = a102 := (hk 102 0 ⟨⟨rfl, by decide, by decide⟩, by decide +kernel⟩).trans e102
  have e103 : q70.1 103 0 = a103 := (hk 103 0 ⟨⟨rfl, by decide, by decide⟩, by decide +kernel⟩).trans e103
  have e104 : q70.1 104 0 = a104 := (hk 104 0 ⟨⟨rfl, by decide, by decide⟩, by decide +kernel⟩).trans e104
  have e105 : q70.1 105 0 = a105 := (hk 105 0 ⟨⟨rfl, by decide, by decide⟩, by decide +kernel⟩).trans e105
  have e106 : q70.1 106 0 = a106 := (hk 106 0 ⟨⟨rfl, by decide, by decide⟩, by decide +kernel⟩).trans e106
  have e107 : q70.1 107 0 = a107 := (hk 107 0 ⟨⟨rfl, by decide, by decide⟩, by decide +kernel⟩).trans e107
  have e108 : q70.1 108 0 = a108 := (hk 108 0 ⟨⟨rfl, by decide, by decide⟩, by decide +kernel⟩).trans e108
  have hkp := hkp.tr hk (by decide)
  refine nn_put (pc := 72) (r := 101) (k := 7) (n' := 19) g cl_Ch ⟨⟨rfl, by decide, by decide⟩, by decide +kernel⟩ (by decide) (Or.inl kn_19) (Or.inr ⟨rfl, hnm, rfl, kn_19⟩) e101 rfl rfl (Or.inl ⟨(by decide +kernel), rfl, (fvR rfl rfl e109)⟩) d_Ch_init_72 ?_
  refine nn_aload_n (pc := 75) g.1 d_Ch_init_75 rfl (lv_at hl 0 rfl) ?_
  refine nn_bipush (pc := 76) g.1 (v := 20) d_Ch_init_76 (by decide) ?_
  refine nn_arr (pc := 78) (r := 110) (i := 0) (N := 20) (at0 := .int) (m := (m.1 + 0, m.2 + 0)) g.gn rfl (by decide) ⟨rfl, by decide, by decide⟩ (by decide +kernel) (by decide) rfl (by decide) (by decide) (hm.le (by dsimp only; omega) (by dsimp only; omega)) kn_9 d_Ch_init_78 fun q78 a110 hk e110 hm => ?_
  have e101 : q78.1 101 0 = a101 := (hk 101 0 ⟨⟨rfl, by decide, by decide⟩, by decide +kernel⟩).trans e101
  have e102 : q78.1 102 0 = a102 := (hk 102 0 ⟨⟨rfl, by decide, by decide⟩, by decide +kernel⟩).trans e102
  have e103 : q78.1 103 0 = a103 := (hk 103 0 ⟨⟨rfl, by decide, by decide⟩, by decide +kernel⟩).trans e103
  have e104 : q78.1 104 0 = a104 := (hk 104 0 ⟨⟨rfl, by decide, by decide⟩, by decide +kernel⟩).trans e104
  have e105 : q78.1 105 0 = a105 := (hk 105 0 ⟨⟨rfl, by decide, by decide⟩, by decide +kernel⟩).trans e105
  have e106 : q78.1 106 0 = a106 := (hk 106 0 ⟨⟨rfl, by decide, by decide⟩, by decide +kernel⟩).trans e106
  have e107 : q78.1 107 0 = a107 := (hk 107 0 ⟨⟨rfl, by decide, by decide⟩, by decide +kernel⟩).trans e107
  have e108 : q78.1 108 0 = a108 := (hk 108 0 ⟨⟨rfl, by decide, by decide⟩, by decide +kernel⟩).trans e108
  have e109 : q78.1 109 0 = a109 := (hk 109 0 ⟨⟨rfl, by decide, by decide⟩, by decide +kernel⟩).trans e109
  have hkp := hkp.tr hk (by decide)
  refine nn_put (pc := 80) (r := 101) (k := 8) (n' := 21) g cl_Ch ⟨⟨rfl, by decide, by decide⟩, by decide +kernel⟩ (by decide) (Or.inl kn_20) (Or.inr ⟨rfl, hnm, rfl, kn_20⟩) e101 rfl rfl (Or.inl ⟨(by decide +kernel), rfl, (fvR rfl rfl e110)⟩) d_Ch_init_80 ?_
  refine nn_aload_n (pc := 83) g.1 d_Ch_init_83 rfl (lv_at hl 0 rfl) ?_
  refine nn_iconst (pc := 84) g.1 (v := (-1)) d_Ch_init_84 (by decide) ?_
  refine nn_put (pc := 85) (r := 101) (k := 16) (n' := 22) g cl_Ch ⟨⟨rfl, by decide, by decide⟩, by decide +kernel⟩ (by decide) (Or.inl kn_21) (Or.inl rfl) e101 rfl rfl (Or.inl ⟨(by decide +kernel), rfl, (fvI rfl rfl)⟩) d_Ch_init_85 ?_
  exact nn_ret (pc := 88) g hR hkp (hm.le (by dsimp only; omega) (by dsimp only; omega)) d_Ch_init_88
theorem cn_He_111 {l : Launch} {P : PP} {q : PL} {m : Nat × Nat} (hm : Rnn P q (m.1 + 8, m.2 + 17224)) {a111 : Nat} (e111 : q.1 111 0 = a111) : CtN l y_He_init b_He_init 1 2 40 P q 24 [.ref a111] m 41 := by
  refine ctN_of (by decide) rfl (Nat.le_of_ble_eq_true rfl) fun X ls eP el g hnm hR hl => ?_
  subst eP
  have hkp : Kpp 24 q q := Kpp.rf
  have hl : lv_has ls 1 [(0, .ref a111)] := hl
  refine nn_aload_n (pc := 0) g.1 d_He_init_0 rfl (lv_at hl 0 rfl) ?_
  refine nn_obj (pc := 1) g.gn kn_28 kn_1 kn_2 ⟨by decide, by decide⟩ hl.1 (Nat.le_of_ble_eq_true rfl) d_He_init_1 ?_
  refine nn_aload_n (pc := 4) g.1 d_He_init_4 rfl (lv_at hl 0 rfl) ?_
  refine nn_sipush (pc := 5) g.1 (v := 4000) d_He_init_5 (by decide) ?_
  refine nn_anew (pc := 8) (r := 112) (i := 0) (N := 4000) (m := (m.1 + 7, m.2 + 13224)) g.gn (by decide) ⟨rfl, by decide, by decide⟩ (by decide +kernel) (by decide) rfl (by decide) (by decide) (fun j hj => hz_112 j hj) (hm.le (by dsimp only; omega) (by dsimp only; omega)) kn_29 kxn_2 d_He_init_8 fun q8 a112 hk e112 hm => ?_
  have e111 : q8.1 111 0 = a111 := (hk 111 0 ⟨⟨rfl, by decide, by decide⟩, by decide +kernel⟩).trans e111
  have hkp := hkp.tr hk (by decide)
  refine nn_put (pc := 11) (r := 111) (k := 0) (n' := 26) g cl_He ⟨⟨rfl, by decide, by decide⟩, by decide +kernel⟩ (by decide) (Or.inl kn_30) (Or.inr ⟨rfl, hnm, rfl, kn_30⟩) e111 rfl rfl (Or.inl ⟨(by decide +kernel), rfl, (fvR rfl rfl e112)⟩) d_He_init_11 ?_
  refine nn_aload_n (pc := 14) g.1 d_He_init_14 rfl (lv_at hl 0 rfl) ?_
  refine nn_sipush (pc := 15) g.1 (v := 4000) d_He_init_15 (by decide) ?_
  refine nn_arr (pc := 18) (r := 113) (i := 0) (N := 4000) (at0 := .int) (m := (m.1 + 6, m.2 + 9224)) g.gn rfl (by decide) ⟨rfl, by decide, by decide⟩ (by decide +kernel) (by decide) rfl (by decide) (by decide) (hm.le (by dsimp only; omega) (by dsimp only; omega)) kn_9 d_He_init_18 fun q18 a113 hk e113 hm => ?_
  have e111 : q18.1 111 0 = a111 := (hk 111 0 ⟨⟨rfl, by decide, by decide⟩, by decide +kernel⟩).trans e111
  have e112 : q18.1 112 0 = a112 := (hk 112 0 ⟨⟨rfl, by decide, by decide⟩, by decide +kernel⟩).trans e112
  have hkp := hkp.tr hk (by decide)
  refine nn_put (pc := 20) (r := 111) (k := 2) (n' := 28) g cl_He ⟨⟨rfl, by decide, by decide⟩, by decide +kernel⟩ (by decide) (Or.inl kn_31) (Or.inr ⟨rfl, hnm, rfl, kn_31⟩) e111 rfl rfl (Or.inl ⟨(by decide +kernel), rfl, (fvR rfl rfl e113)⟩) d_He_init_20 ?_
  refine nn_aload_n (pc := 23) g.1 d_He_init_23 rfl (lv_at hl 0 rfl) ?_
  refine nn_bipush (pc := 24) g.1 (v := 15) d_He_init_24 (by decide) ?_
  refine nn_arr (pc := 26) (r := 114) (i := 0) (N := 15) (at0 := .int) (m := (m.1 + 5, m.2 + 9209)) g.gn rfl (by decide) ⟨rfl, by decide, by decide⟩ (by decide +kernel) (by decide) rfl (by decide) (by decide) (hm.le (by dsimp only; omega) (by dsimp only; omega)) kn_9 d_He_init_26 fun q26 a114 hk e114 hm => ?_
  have e111 : q26.1 111 0 = a111 := (hk 111 0 ⟨⟨rfl, by decide, by decide⟩, by decide +kernel⟩).trans e111
  have e112 : q26.1 112 0 = a112 := (hk 112 0 ⟨⟨rfl, by decide, by decide⟩, by decide +kernel⟩).trans e112
  have e113 : q26.1 113 0 = a113 := (hk 113 0 ⟨⟨rfl, by decide, by decide⟩, by decide +kernel⟩).trans e113
  have hkp := hkp.tr hk (by decide)
  refine nn_put (pc := 28) (r := 111) (k := 4) (n' := 30) g cl_He ⟨⟨rfl, by decide, by decide⟩, by decide +kernel⟩ (by decide) (Or.inl kn_32) (Or.inr ⟨rfl, hnm, rfl, kn_32⟩) e111 rfl rfl (Or.inl ⟨(by decide +kernel), rfl, (fvR rfl rfl e114)⟩) d_He_init_28 ?_
  refine nn_aload_n (pc := 31) g.1 d_He_init_31 rfl (lv_at hl 0 rfl) ?_
  refine nn_bipush (pc := 32) g.1 (v := 57) d_He_init_32 (by decide) ?_
  refine nn_arr (pc := 34) (r := 115) (i := 0) (N := 57) (at0 := .int) (m := (m.1 + 4, m.2 + 9152)) g.gn rfl (by decide) ⟨rfl, by decide, by decide⟩ (by decide +kernel) (by decide) rfl (by decide) (by decide) (hm.le (by dsimp only; omega) (by dsimp only; omega)) kn_9 d_He_init_34 fun q34 a115 hk e115 hm => ?_
  have e111 : q34.1 111 0 = a111 := (hk 111 0 ⟨⟨rfl, by decide, by decide⟩, by decide +kernel⟩).trans e111
  have e112 : q34.1 112 0 = a112 := (hk 112 0 ⟨⟨rfl, by decide, by decide⟩, by decide +kernel⟩).trans e112
  have e113 : q34.1 113 0 = a113 := (hk 113 0 ⟨⟨rfl, by decide, by decide⟩, by decide +kernel⟩).trans e113
  have e114 : q34.1 114 0 = a114 := (hk 114 0 ⟨⟨rfl, by decide, by decide⟩, by decide +kernel⟩).trans e114
  have hkp := hkp.tr hk (by decide)
  refine nn_put (pc := 36) (r := 111) (k := 5) (n' := 32) g cl_He ⟨⟨rfl, by decide, by decide⟩, by decide +kernel⟩ (by decide) (Or.inl kn_33) (Or.inr ⟨rfl, hnm, rfl, kn_33⟩) e111 rfl rfl (Or.inl ⟨(by decide +kernel), rfl, (fvR rfl rfl e115)⟩) d_He_init_36 ?_
  refine nn_aload_n (pc := 39) g.1 d_He_init_39 rfl (lv_at hl 0 rfl) ?_
  refine nn_bipush (pc := 40) g.1 (v := 32) d_He_init_40 (by decide) ?_
  refine nn_anew (pc := 42) (r := 116) (i := 0) (N := 32) (m := (m.1 + 3, m.2 + 9120)) g.gn (by decide) ⟨rfl, by decide, by decide⟩ (by decide +kernel) (by decide) rfl (by decide) (by decide) (fun j hj => hz_116 j hj) (hm.le (by dsimp only; omega) (by dsimp only; omega)) kn_34 kxn_3 d_He_init_42 fun q42 a116 hk e116 hm => ?_
  have e111 : q42.1 111 0 = a111 := (hk 111 0 ⟨⟨rfl, by decide, by decide⟩, by decide +kernel⟩).trans e111
  have e112 : q42.1 112 0 = a112 := (hk 112 0 ⟨⟨rfl, by decide, by decide⟩, by decide +kernel⟩).trans e112
  have e113 : q42.1 113 0 = a113 := (hk 113 0 ⟨⟨rfl, by decide, by decide⟩, by decide +kernel⟩).trans e113
  have e114 : q42.1 114 0 = a114 := (hk 114 0 ⟨⟨rfl, by decide, by decide⟩, by decide +kernel⟩).trans e114
  have e115 : q42.1 115 0 = a115 := (hk 115 0 ⟨⟨rfl, by decide, by decide⟩, by decide +kernel⟩).trans e115
  have hkp := hkp.tr hk (by decide)
  refine nn_put (pc := 45) (r := 111) (k := 6) (n' := 34) g cl_He ⟨⟨rfl, by decide, by decide⟩, by decide +kernel⟩ (by decide) (Or.inl kn_35) (Or.inr ⟨rfl, hnm, rfl, kn_35⟩) e111 rfl rfl (Or.inl ⟨(by decide +kernel), rfl, (fvR rfl rfl e116)⟩) d_He_init_45 ?_
  refine nn_aload_n (pc := 48) g.1 d_He_init_48 rfl (lv_at hl 0 rfl) ?_
  refine nn_sipush (pc := 49) g.1 (v := 4096) d_He_init_49 (by decide) ?_
  refine nn_arr (pc := 52) (r := 117) (i := 0) (N := 4096) (at0 := .int) (m := (m.1 + 2, m.2 + 5024)) g.gn rfl (by decide) ⟨rfl, by decide, by decide⟩ (by decide +kernel) (by decide) rfl (by decide) (by decide) (hm.le (by dsimp only; omega) (by dsimp only; omega)) kn_9 d_He_init_52 fun q52 a117 hk e117 hm => ?_
  have e111 : q52.1 111 0 = a111 := (hk 111 0 ⟨⟨rfl, by decide, by decide⟩, by decide +kernel⟩).trans e111
  have e112 : q52.1 112 0 = a112 := (hk 112 0 ⟨⟨rfl, by decide, by decide⟩, by decide +kernel⟩).trans e112
  have e113 : q52.1 113 0 = a113 := (hk 113 0 ⟨⟨rfl, by decide, by decide⟩, by decide +kernel⟩).trans e113
  have e114 : q52.1 114 0 = a114 := (hk 114 0 ⟨⟨rfl, by decide, by decide⟩, by decide +kernel⟩).trans e114
  have e115 : q52.1 115 0 = a115 := (hk 115 0 ⟨⟨rfl, by decide, by decide⟩, by decide +kernel⟩).trans e115
  have e116 : q52.1 116 0 = a116 := (hk 116 0 ⟨⟨rfl, by decide, by decide⟩, by decide +kernel⟩).trans e116
  have hkp := hkp.tr hk (by decide)
  refine nn_put (pc := 54) (r := 111) (k := 7) (n' := 36) g cl_He ⟨⟨rfl, by decide, by decide⟩, by decide +kernel⟩ (by decide) (Or.inl kn_36) (Or.inr ⟨rfl, hnm, rfl, kn_36⟩) e111 rfl rfl (Or.inl ⟨(by decide +kernel), rfl, (fvR rfl rfl e117)⟩) d_He_init_54 ?_
  refine nn_aload_n (pc := 57) g.1 d_He_init_57 rfl (lv_at hl 0 rfl) ?_
  refine nn_sipush (pc := 58) g.1 (v := 1024) d_He_init_58 (by decide) ?_
  refine nn_arr (pc := 61) (r := 118) (i := 0) (N := 1024) (at0 := .byte) (m := (m.1 + 1, m.2 + 4000)) g.gn rfl (by decide) ⟨rfl, by decide, by decide⟩ (by decide +kernel) (by decide) rfl (by decide) (by decide) (hm.le (by dsimp only; omega) (by dsimp only; omega)) kn_12 d_He_init_61 fun q61 a118 hk e118 hm => ?_
  have e111 : q61.1 111 0 = a111 := (hk 111 0 ⟨⟨rfl, by decide, by decide⟩, by decide +kernel⟩).trans e111
  have e112 : q61.1 112 0 = a112 := (hk 112 0 ⟨⟨rfl, by decide, by decide⟩, by decide +kernel⟩).trans e112
  have e113 : q61.1 113 0 = a113 := (hk 113 0 ⟨⟨rfl, by decide, by decide⟩, by decide +kernel⟩).trans e113
  have e114 : q61.1 114 0 = a114 := (hk 114 0 ⟨⟨rfl, by decide, by decide⟩, by decide +kernel⟩).trans e114
  have e115 : q61.1 115 0 = a115 := (hk 115 0 ⟨⟨rfl, by decide, by decide⟩, by decide +kernel⟩).trans e115
  have e116 : q61.1 116 0 = a116 := (hk 116 0 ⟨⟨rfl, by decide, by decide⟩, by decide +kernel⟩).trans e116
  have e117 : q61.1 117 0 = a117 := (hk 117 0 ⟨⟨rfl, by decide, by decide⟩, by decide +kernel⟩).trans e117
  have hkp := hkp.tr hk (by decide)
  refine nn_put (pc := 63) (r := 111) (k := 8) (n' := 38) g cl_He ⟨⟨rfl, by decide, by decide⟩, by decide +kernel⟩ (by decide) (Or.inl kn_37) (Or.inl rfl) e111 rfl rfl (Or.inl ⟨(by decide +kernel), rfl, (fvR rfl rfl e118)⟩) d_He_init_63 ?_
  refine nn_aload_n (pc := 66) g.1 d_He_init_66 rfl (lv_at hl 0 rfl) ?_
  refine nn_sipush (pc := 67) g.1 (v := 4000) d_He_init_67 (by decide) ?_
  refine nn_arr (pc := 70) (r := 119) (i := 0) (N := 4000) (at0 := .int) (m := (m.1 + 0, m.2 + 0)) g.gn rfl (by decide) ⟨rfl, by decide, by decide⟩ (by decide +kernel) (by decide) rfl (by decide) (by decide) (hm.le (by dsimp only; omega) (by dsimp only; omega)) kn_9 d_He_init_70 fun q70 a119 hk e119 hm => ?_
  have e111 : q70.1 111 0 = a111 := (hk 111 0 ⟨⟨rfl, by decide, by decide⟩, by decide +kernel⟩).trans e111
  have e112 : q70.1 112 0 = a112 := (hk 112 0 ⟨⟨rfl, by decide, by decide⟩, by decide +kernel⟩).trans e112
  have e113 : q70.1 113 0 = a113 := (hk 113 0 ⟨⟨rfl, by decide, by decide⟩, by decide +kernel⟩).trans e113
  have e114 : q70.1 114 0 = a114 := (hk 114 0 ⟨⟨rfl, by decide, by decide⟩, by decide +kernel⟩).trans e114
  have e115 : q70.1 115 0 = a115 := (hk 115 0 ⟨⟨rfl, by decide, by decide⟩, by decide +kernel⟩).trans e115
  have e116 : q70.1 116 0 = a116 := (hk 116 0 ⟨⟨rfl, by decide, by decide⟩, by decide +kernel⟩).trans e116
  have e117 : q70.1 117 0 = a117 := (hk 117 0 ⟨⟨rfl, by decide, by decide⟩, by decide +kernel⟩).trans e117
  have e118 : q70.1 118 0 = a118 := (hk 118 0 ⟨⟨rfl, by decide, by decide⟩, by decide +kernel⟩).trans e118
  have hkp := hkp.tr hk (by decide)
  refine nn_put (pc := 72) (r := 111) (k := 10) (n' := 40) g cl_He ⟨⟨rfl, by decide, by decide⟩, by decide +kernel⟩ (by decide) (Or.inl kn_38) (Or.inr ⟨rfl, hnm, rfl, kn_38⟩) e111 rfl rfl (Or.inl ⟨(by decide +kernel), rfl, (fvR rfl rfl e119)⟩) d_He_init_72 ?_
  refine nn_aload_n (pc := 75) g.1 d_He_init_75 rfl (lv_at hl 0 rfl) ?_
  refine nn_sipush (pc := 76) g.1 (v := 1000) d_He_init_76 (by decide) ?_
  refine nn_put (pc := 79) (r := 111) (k := 12) (n' := 41) g cl_He ⟨⟨rfl, by decide, by decide⟩, by decide +kernel⟩ (by decide) (Or.inl kn_39) (Or.inl rfl) e111 rfl rfl (Or.inl ⟨(by decide +kernel), rfl, (fvI rfl rfl)⟩) d_He_init_79 ?_
  exact nn_ret (pc := 82) g hR hkp (hm.le (by dsimp only; omega) (by dsimp only; omega)) d_He_init_82
theorem cn_Ta_120 {l : Launch} {P : PP} {q : PL} {m : Nat × Nat} (hm : Rnn P q (m.1 + 7, m.2 + 350000)) {a120 : Nat} (e120 : q.1 120 0 = a120) {a111 : Nat} (e111 : q.1 111 0 = a111) : CtN l y_Ta_init b_Ta_init 2 2 40 P q 43 [.ref a120, .ref a111] m 58 := by
  refine ctN_of (by decide) rfl (Nat.le_of_ble_eq_true rfl) fun X ls eP el g hnm hR hl => ?_
  subst eP
  have hkp : Kpp 43 q q := Kpp.rf
  have hl : lv_has ls 2 [(0, .ref a120), (1, .ref a111)] := hl
  refine nn_aload_n (pc := 0) g.1 d_Ta_init_0 rfl (lv_at hl 0 rfl) ?_
  refine nn_obj (pc := 1) g.gn kn_46 kn_1 kn_2 ⟨by decide, by decide⟩ hl.1 (Nat.le_of_ble_eq_true rfl) d_Ta_init_1 ?_
  refine nn_aload_n (pc := 4) g.1 d_Ta_init_4 rfl (lv_at hl 0 rfl) ?_
  refine nn_ldc (pc := 5) g.gn (v := 50000) kn_47 d_Ta_init_5 ?_
  refine nn_arr (pc := 7) (r := 121) (i := 0) (N := 50000) (at0 := .byte) (m := (m.1 + 6, m.2 + 300000)) g.gn rfl (by decide) ⟨rfl, by decide, by decide⟩ (by decide +kernel) (by decide) rfl (by decide) (by decide) (hm.le (by dsimp only; omega) (by dsimp only; omega)) kn_12 d_Ta_init_7 fun q7 a121 hk e121 hm => ?_
  have e120 : q7.1 120 0 = a120 := (hk 120 0 ⟨⟨rfl, by decide, by decide⟩, by decide +kernel⟩).trans e120
  have e111 : q7.1 111 0 = a111 := (hk 111 0 ⟨⟨rfl, by decide, by decide⟩, by decide +kernel⟩).trans e111
  have hkp := hkp.tr hk (by decide)
  refine nn_put (pc := 9) (r := 120) (k := 0) (n' := 45) g cl_Ta ⟨⟨rfl, by decide, by decide⟩, by decide +kernel⟩ (by decide) (Or.inl kn_48) (Or.inr ⟨rfl, hnm, rfl, kn_48⟩) e120 rfl rfl (Or.inl ⟨(by decide +kernel), rfl, (fvR rfl rfl e121)⟩) d_Ta_init_9 ?_
  refine nn_aload_n (pc := 12) g.1 d_Ta_init_12 rfl (lv_at hl 0 rfl) ?_
  refine nn_ldc (pc := 13) g.gn (v := 50000) kn_47 d_Ta_init_13 ?_
  refine nn_arr (pc := 15) (r := 122) (i := 0) (N := 50000) (at0 := .long) (m := (m.1 + 5, m.2 + 250000)) g.gn rfl (by decide) ⟨rfl, by decide, by decide⟩ (by decide +kernel) (by decide) rfl (by decide) (by decide) (hm.le (by dsimp only; omega) (by dsimp only; omega)) kn_14 d_Ta_init_15 fun q15 a122 hk e122 hm => ?_
  have e120 : q15.1 120 0 = a120 := (hk 120 0 ⟨⟨rfl, by decide, by decide⟩, by decide +kernel⟩).trans e120
  have e111 : q15.1 111 0 = a111 := (hk 111 0 ⟨⟨rfl, by decide, by decide⟩, by decide +kernel⟩).trans e111
  have e121 : q15.1 121 0 = a121 := (hk 121 0 ⟨⟨rfl, by decide, by decide⟩, by decide +kernel⟩).trans e121
  have hkp := hkp.tr hk (by decide)
  refine nn_put (pc := 17) (r := 120) (k := 1) (n' := 47) g cl_Ta ⟨⟨rfl, by decide, by decide⟩, by decide +kernel⟩ (by decide) (Or.inl kn_49) (Or.inr ⟨rfl, hnm, rfl, kn_49⟩) e120 rfl rfl (Or.inl ⟨(by decide +kernel), rfl, (fvR rfl rfl e122)⟩) d_Ta_init_17 ?_
  refine nn_aload_n (pc := 20) g.1 d_Ta_init_20 rfl (lv_at hl 0 rfl) ?_
  refine nn_ldc (pc := 21) g.gn (v := 50000) kn_47 d_Ta_init_21 ?_
  refine nn_arr (pc := 23) (r := 123) (i := 0) (N := 50000) (at0 := .byte) (m := (m.1 + 4, m.2 + 200000)) g.gn rfl (by decide) ⟨rfl, by decide, by decide⟩ (by decide +kernel) (by decide) rfl (by decide) (by decide) (hm.le (by dsimp only; omega) (by dsimp only; omega)) kn_12 d_Ta_init_23 fun q23 a123 hk e123 hm => ?_
  have e120 : q23.1 120 0 = a120 := (hk 120 0 ⟨⟨rfl, by decide, by decide⟩, by decide +kernel⟩).trans e120
  have e111 : q23.1 111 0 = a111 := (hk 111 0 ⟨⟨rfl, by decide, by decide⟩, by decide +kernel⟩).trans e111
  have e121 : q23.1 121 0 = a121 := (hk 121 0 ⟨⟨rfl, by decide, by decide⟩, by decide +kernel⟩).trans e121
  have e122 : q23.1 122 0 = a122 := (hk 122 0 ⟨⟨rfl, by decide, by decide⟩, by decide +kernel⟩).trans e122
  have hkp := hkp.tr hk (by decide)
  refine nn_put (pc := 25) (r := 120) (k := 2) (n' := 49) g cl_Ta ⟨⟨rfl, by decide, by decide⟩, by decide +kernel⟩ (by decide) (Or.inl kn_50) (Or.inr ⟨rfl, hnm, rfl, kn_50⟩) e120 rfl rfl (Or.inl ⟨(by decide +kernel), rfl, (fvR rfl rfl e123)⟩) d_Ta_init_25 ?_
  refine nn_aload_n (pc := 28) g.1 d_Ta_init_28 rfl (lv_at hl 0 rfl) ?_
  refine nn_ldc (pc := 29) g.gn (v := 50000) kn_47 d_Ta_init_29 ?_
  refine nn_arr (pc := 31) (r := 124) (i := 0) (N := 50000) (at0 := .long) (m := (m.1 + 3, m.2 + 150000)) g.gn rfl (by decide) ⟨rfl, by decide, by decide⟩ (by decide +kernel) (by decide) rfl (by decide) (by decide) (hm.le (by dsimp only; omega) (by dsimp only; omega)) kn_14 d_Ta_init_31 fun q31 a124 hk e124 hm => ?_
  have e120 : q31.1 120 0 = a120 := (hk 120 0 ⟨⟨rfl, by decide, by decide⟩, by decide +kernel⟩).trans e120
  have e111 : q31.1 111 0 = a111 := (hk 111 0 ⟨⟨rfl, by decide, by decide⟩, by decide +kernel⟩).trans e111
  have e121 : q31.1 121 0 = a121 := (hk 121 0 ⟨⟨rfl, by decide, by decide⟩, by decide +kernel⟩).trans e121
  have e122 : q31.1 122 0 = a122 := (hk 122 0 ⟨⟨rfl, by decide, by decide⟩, by decide +kernel⟩).trans e122
  have e123 : q31.1 123 0 = a123 := (hk 123 0 ⟨⟨rfl, by decide, by decide⟩, by decide +kernel⟩).trans e123
  have hkp := hkp.tr hk (by decide)
  refine nn_put (pc := 33) (r := 120) (k := 3) (n' := 51) g cl_Ta ⟨⟨rfl, by decide, by decide⟩, by decide +kernel⟩ (by decide) (Or.inl kn_51) (Or.inr ⟨rfl, hnm, rfl, kn_51⟩) e120 rfl rfl (Or.inl ⟨(by decide +kernel), rfl, (fvR rfl rfl e124)⟩) d_Ta_init_33 ?_
  refine nn_aload_n (pc := 36) g.1 d_Ta_init_36 rfl (lv_at hl 0 rfl) ?_
  refine nn_ldc (pc := 37) g.gn (v := 50000) kn_47 d_Ta_init_37 ?_
  refine nn_arr (pc := 39) (r := 125) (i := 0) (N := 50000) (at0 := .int) (m := (m.1 + 2, m.2 + 100000)) g.gn rfl (by decide) ⟨rfl, by decide, by decide⟩ (by decide +kernel) (by decide) rfl (by decide) (by decide) (hm.le (by dsimp only; omega) (by dsimp only; omega)) kn_9 d_Ta_init_39 fun q39 a125 hk e125 hm => ?_
  have e120 : q39.1 120 0 = a120 := (hk 120 0 ⟨⟨rfl, by decide, by decide⟩, by decide +kernel⟩).trans e120
  have e111 : q39.1 111 0 = a111 := (hk 111 0 ⟨⟨rfl, by decide, by decide⟩, by decide +kernel⟩).trans e111
  have e121 : q39.1 121 0 = a121 := (hk 121 0 ⟨⟨rfl, by decide, by decide⟩, by decide +kernel⟩).trans e121
  have e122 : q39.1 122 0 = a122 := (hk 122 0 ⟨⟨rfl, by decide, by decide⟩, by decide +kernel⟩).trans e122
  have e123 : q39.1 123 0 = a123 := (hk 123 0 ⟨⟨rfl, by decide, by decide⟩, by decide +kernel⟩).trans e123
  have e124 : q39.1 124 0 = a124 := (hk 124 0 ⟨⟨rfl, by decide, by decide⟩, by decide +kernel⟩).trans e124
  have hkp := hkp.tr hk (by decide)
  refine nn_put (pc := 41) (r := 120) (k := 4) (n' := 53) g cl_Ta ⟨⟨rfl, by decide, by decide⟩, by decide +kernel⟩ (by decide) (Or.inl kn_52) (Or.inr ⟨rfl, hnm, rfl, kn_52⟩) e120 rfl rfl (Or.inl ⟨(by decide +kernel), rfl, (fvR rfl rfl e125)⟩) d_Ta_init_41 ?_
  refine nn_aload_n (pc := 44) g.1 d_Ta_init_44 rfl (lv_at hl 0 rfl) ?_
  refine nn_ldc (pc := 45) g.gn (v := 50000) kn_47 d_Ta_init_45 ?_
  refine nn_arr (pc := 47) (r := 126) (i := 0) (N := 50000) (at0 := .int) (m := (m.1 + 1, m.2 + 50000)) g.gn rfl (by decide) ⟨rfl, by decide, by decide⟩ (by decide +kernel) (by decide) rfl (by decide) (by decide) (hm.le (by dsimp only; omega) (by dsimp only; omega)) kn_9 d_Ta_init_47 fun q47 a126 hk e126 hm => ?_
  have e120 : q47.1 120 0 = a120 := (hk 120 0 ⟨⟨rfl, by decide, by decide⟩, by decide +kernel⟩).trans e120
  have e111 : q47.1 111 0 = a111 := (hk 111 0 ⟨⟨rfl, by decide, by decide⟩, by decide +kernel⟩).trans e111
  have e121 : q47.1 121 0 = a121 := (hk 121 0 ⟨⟨rfl, by decide, by decide⟩, by decide +kernel⟩).trans e121
  have e122 : q47.1 122 0 = a122 := (hk 122 0 ⟨⟨rfl, by decide, by decide⟩, by decide +kernel⟩).trans e122
  have e123 : q47.1 123 0 = a123 := (hk 123 0 ⟨⟨rfl, by decide, by decide⟩, by decide +kernel⟩).trans e123
  have e124 : q47.1 124 0 = a124 := (hk 124 0 ⟨⟨rfl, by decide, by decide⟩, by decide +kernel⟩).trans e124
  have e125 : q47.1 125 0 = a125 := (hk 125 0 ⟨⟨rfl, by decide, by decide⟩, by decide +kernel⟩).trans e125
  have hkp := hkp.tr hk (by decide)
  refine nn_put (pc := 49) (r := 120) (k := 5) (n' := 55) g cl_Ta ⟨⟨rfl, by decide, by decide⟩, by decide +kernel⟩ (by decide) (Or.inl kn_53) (Or.inr ⟨rfl, hnm, rfl, kn_53⟩) e120 rfl rfl (Or.inl ⟨(by decide +kernel), rfl, (fvR rfl rfl e126)⟩) d_Ta_init_49 ?_
  refine nn_aload_n (pc := 52) g.1 d_Ta_init_52 rfl (lv_at hl 0 rfl) ?_
  refine nn_ldc (pc := 53) g.gn (v := 50000) kn_47 d_Ta_init_53 ?_
  refine nn_arr (pc := 55) (r := 127) (i := 0) (N := 50000) (at0 := .int) (m := (m.1 + 0, m.2 + 0)) g.gn rfl (by decide) ⟨rfl, by decide, by decide⟩ (by decide +kernel) (by decide) rfl (by decide) (by decide) (hm.le (by dsimp only; omega) (by dsimp only; omega)) kn_9 d_Ta_init_55 fun q55 a127 hk e127 hm => ?_
  have e120 : q55.1 120 0 = a120 := (hk 120 0 ⟨⟨rfl, by decide, by decide⟩, by decide +kernel⟩).trans e120
  have e111 : q55.1 111 0 = a111 := (hk 111 0 ⟨⟨rfl, by decide, by decide⟩, by decide +kernel⟩).trans e111
  have e121 : q55.1 121 0 = a121 := (hk 121 0 ⟨⟨rfl, by decide, by decide⟩, by decide +kernel⟩).trans e121
  have e122 : q55.1 122 0 = a122 := (hk 122 0 ⟨⟨rfl, by decide, by decide⟩, by decide +kernel⟩).trans e122
  have e123 : q55.1 123 0 = a123 := (hk 123 0 ⟨⟨rfl, by decide, by decide⟩, by decide +kernel⟩).trans e123
  have e124 : q55.1 124 0 = a124 := (hk 124 0 ⟨⟨rfl, by decide, by decide⟩, by decide +kernel⟩).trans e124
  have e125 : q55.1 125 0 = a125 := (hk 125 0 ⟨⟨rfl, by decide, by decide⟩, by decide +kernel⟩).trans e125
  have e126 : q55.1 126 0 = a126 := (hk 126 0 ⟨⟨rfl, by decide, by decide⟩, by decide +kernel⟩).trans e126
  have hkp := hkp.tr hk (by decide)
  refine nn_put (pc := 57) (r := 120) (k := 6) (n' := 57) g cl_Ta ⟨⟨rfl, by decide, by decide⟩, by decide +kernel⟩ (by decide) (Or.inl kn_54) (Or.inr ⟨rfl, hnm, rfl, kn_54⟩) e120 rfl rfl (Or.inl ⟨(by decide +kernel), rfl, (fvR rfl rfl e127)⟩) d_Ta_init_57 ?_
  refine nn_aload_n (pc := 60) g.1 d_Ta_init_60 rfl (lv_at hl 0 rfl) ?_
  refine nn_aload_n (pc := 61) g.1 d_Ta_init_61 rfl (lv_at hl 1 rfl) ?_
  refine nn_put (pc := 62) (r := 120) (k := 8) (n' := 58) g cl_Ta ⟨⟨rfl, by decide, by decide⟩, by decide +kernel⟩ (by decide) (Or.inl kn_55) (Or.inr ⟨rfl, hnm, rfl, kn_55⟩) e120 rfl rfl (Or.inl ⟨(by decide +kernel), rfl, (fvR rfl rfl e111)⟩) d_Ta_init_62 ?_
  exact nn_ret (pc := 65) g hR hkp (hm.le (by dsimp only; omega) (by dsimp only; omega)) d_Ta_init_65
