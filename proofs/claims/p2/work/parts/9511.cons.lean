theorem cn_Ro_132 {l : Launch} {P : PP} {q : PL} {m : Nat × Nat} (hm : Rnn P q (m.1 + 2, m.2 + 1024)) {a132 : Nat} (e132 : q.1 132 0 = a132) : CtN l y_Ro_init b_Ro_init 1 2 40 P q 60 [.ref a132] m 64 := by
  refine ctN_of (by decide) rfl (Nat.le_of_ble_eq_true rfl) fun X ls eP el g hnm hR hl => ?_
  subst eP
  have hkp : Kpp 60 q q := Kpp.rf
  have hl : lv_has ls 1 [(0, .ref a132)] := hl
  refine nn_aload_n (pc := 0) g.1 d_Ro_init_0 rfl (lv_at hl 0 rfl) ?_
  refine nn_obj (pc := 1) g.gn kn_66 kn_1 kn_2 ⟨by decide, by decide⟩ hl.1 (Nat.le_of_ble_eq_true rfl) d_Ro_init_1 ?_
  refine nn_aload_n (pc := 4) g.1 d_Ro_init_4 rfl (lv_at hl 0 rfl) ?_
  refine nn_sipush (pc := 5) g.1 (v := 512) d_Ro_init_5 (by decide) ?_
  refine nn_arr (pc := 8) (r := 133) (i := 0) (N := 512) (at0 := .byte) (m := (m.1 + 1, m.2 + 512)) g.gn rfl (by decide) ⟨rfl, by decide, by decide⟩ (by decide +kernel) (by decide) rfl (by decide) (by decide) (hm.le (by dsimp only; omega) (by dsimp only; omega)) kn_12 d_Ro_init_8 fun q8 a133 hk e133 hm => ?_
  have e132 : q8.1 132 0 = a132 := (hk 132 0 ⟨⟨rfl, by decide, by decide⟩, by decide +kernel⟩).trans e132
  have hkp := hkp.tr hk (by decide)
  refine nn_put (pc := 10) (r := 132) (k := 0) (n' := 62) g (cl_Ro (i := 0) ⟨by decide, rfl⟩) ⟨⟨rfl, by decide, by decide⟩, by decide +kernel⟩ (by decide) (Or.inl kn_67) (Or.inr ⟨rfl, hnm, rfl, kn_67⟩) e132 rfl rfl (Or.inl ⟨(by decide +kernel), rfl, (fvR rfl rfl e133)⟩) d_Ro_init_10 ?_
  refine nn_aload_n (pc := 13) g.1 d_Ro_init_13 rfl (lv_at hl 0 rfl) ?_
  refine nn_sipush (pc := 14) g.1 (v := 512) d_Ro_init_14 (by decide) ?_
  refine nn_arr (pc := 17) (r := 134) (i := 0) (N := 512) (at0 := .long) (m := (m.1 + 0, m.2 + 0)) g.gn rfl (by decide) ⟨rfl, by decide, by decide⟩ (by decide +kernel) (by decide) rfl (by decide) (by decide) (hm.le (by dsimp only; omega) (by dsimp only; omega)) kn_14 d_Ro_init_17 fun q17 a134 hk e134 hm => ?_
  have e132 : q17.1 132 0 = a132 := (hk 132 0 ⟨⟨rfl, by decide, by decide⟩, by decide +kernel⟩).trans e132
  have e133 : q17.1 133 0 = a133 := (hk 133 0 ⟨⟨rfl, by decide, by decide⟩, by decide +kernel⟩).trans e133
  have hkp := hkp.tr hk (by decide)
  refine nn_put (pc := 19) (r := 132) (k := 1) (n' := 64) g (cl_Ro (i := 0) ⟨by decide, rfl⟩) ⟨⟨rfl, by decide, by decide⟩, by decide +kernel⟩ (by decide) (Or.inl kn_68) (Or.inr ⟨rfl, hnm, rfl, kn_68⟩) e132 rfl rfl (Or.inl ⟨(by decide +kernel), rfl, (fvR rfl rfl e134)⟩) d_Ro_init_19 ?_
  exact nn_ret (pc := 22) g hR hkp (hm.le (by dsimp only; omega) (by dsimp only; omega)) d_Ro_init_22
theorem cn_Ro_135 {l : Launch} {P : PP} {q : PL} {m : Nat × Nat} (hm : Rnn P q (m.1 + 2, m.2 + 1024)) {a135 : Nat} (e135 : q.1 135 0 = a135) : CtN l y_Ro_init b_Ro_init 1 2 40 P q 66 [.ref a135] m 70 := by
  refine ctN_of (by decide) rfl (Nat.le_of_ble_eq_true rfl) fun X ls eP el g hnm hR hl => ?_
  subst eP
  have hkp : Kpp 66 q q := Kpp.rf
  have hl : lv_has ls 1 [(0, .ref a135)] := hl
  refine nn_aload_n (pc := 0) g.1 d_Ro_init_0 rfl (lv_at hl 0 rfl) ?_
  refine nn_obj (pc := 1) g.gn kn_66 kn_1 kn_2 ⟨by decide, by decide⟩ hl.1 (Nat.le_of_ble_eq_true rfl) d_Ro_init_1 ?_
  refine nn_aload_n (pc := 4) g.1 d_Ro_init_4 rfl (lv_at hl 0 rfl) ?_
  refine nn_sipush (pc := 5) g.1 (v := 512) d_Ro_init_5 (by decide) ?_
  refine nn_arr (pc := 8) (r := 136) (i := 0) (N := 512) (at0 := .byte) (m := (m.1 + 1, m.2 + 512)) g.gn rfl (by decide) ⟨rfl, by decide, by decide⟩ (by decide +kernel) (by decide) rfl (by decide) (by decide) (hm.le (by dsimp only; omega) (by dsimp only; omega)) kn_12 d_Ro_init_8 fun q8 a136 hk e136 hm => ?_
  have e135 : q8.1 135 0 = a135 := (hk 135 0 ⟨⟨rfl, by decide, by decide⟩, by decide +kernel⟩).trans e135
  have hkp := hkp.tr hk (by decide)
  refine nn_put (pc := 10) (r := 135) (k := 0) (n' := 68) g (cl_Ro (i := 0) ⟨by decide, rfl⟩) ⟨⟨rfl, by decide, by decide⟩, by decide +kernel⟩ (by decide) (Or.inl kn_67) (Or.inr ⟨rfl, hnm, rfl, kn_67⟩) e135 rfl rfl (Or.inl ⟨(by decide +kernel), rfl, (fvR rfl rfl e136)⟩) d_Ro_init_10 ?_
  refine nn_aload_n (pc := 13) g.1 d_Ro_init_13 rfl (lv_at hl 0 rfl) ?_
  refine nn_sipush (pc := 14) g.1 (v := 512) d_Ro_init_14 (by decide) ?_
  refine nn_arr (pc := 17) (r := 137) (i := 0) (N := 512) (at0 := .long) (m := (m.1 + 0, m.2 + 0)) g.gn rfl (by decide) ⟨rfl, by decide, by decide⟩ (by decide +kernel) (by decide) rfl (by decide) (by decide) (hm.le (by dsimp only; omega) (by dsimp only; omega)) kn_14 d_Ro_init_17 fun q17 a137 hk e137 hm => ?_
  have e135 : q17.1 135 0 = a135 := (hk 135 0 ⟨⟨rfl, by decide, by decide⟩, by decide +kernel⟩).trans e135
  have e136 : q17.1 136 0 = a136 := (hk 136 0 ⟨⟨rfl, by decide, by decide⟩, by decide +kernel⟩).trans e136
  have hkp := hkp.tr hk (by decide)
  refine nn_put (pc := 19) (r := 135) (k := 1) (n' := 70) g (cl_Ro (i := 0) ⟨by decide, rfl⟩) ⟨⟨rfl, by decide, by decide⟩, by decide +kernel⟩ (by decide) (Or.inl kn_68) (Or.inr ⟨rfl, hnm, rfl, kn_68⟩) e135 rfl rfl (Or.inl ⟨(by decide +kernel), rfl, (fvR rfl rfl e137)⟩) d_Ro_init_19 ?_
  exact nn_ret (pc := 22) g hR hkp (hm.le (by dsimp only; omega) (by dsimp only; omega)) d_Ro_init_22
theorem cn_Ro_138 {l : Launch} {P : PP} {q : PL} {m : Nat × Nat} (hm : Rnn P q (m.1 + 2, m.2 + 1024)) {a138 : Nat} (e138 : q.1 138 0 = a138) : CtN l y_Ro_init b_Ro_init 1 2 40 P q 72 [.ref a138] m 76 := by
  refine ctN_of (by decide) rfl (Nat.le_of_ble_eq_true rfl) fun X ls eP el g hnm hR hl => ?_
  subst eP
  have hkp : Kpp 72 q q := Kpp.rf
  have hl : lv_has ls 1 [(0, .ref a138)] := hl
  refine nn_aload_n (pc := 0) g.1 d_Ro_init_0 rfl (lv_at hl 0 rfl) ?_
  refine nn_obj (pc := 1) g.gn kn_66 kn_1 kn_2 ⟨by decide, by decide⟩ hl.1 (Nat.le_of_ble_eq_true rfl) d_Ro_init_1 ?_
  refine nn_aload_n (pc := 4) g.1 d_Ro_init_4 rfl (lv_at hl 0 rfl) ?_
  refine nn_sipush (pc := 5) g.1 (v := 512) d_Ro_init_5 (by decide) ?_
  refine nn_arr (pc := 8) (r := 139) (i := 0) (N := 512) (at0 := .byte) (m := (m.1 + 1, m.2 + 512)) g.gn rfl (by decide) ⟨rfl, by decide, by decide⟩ (by decide +kernel) (by decide) rfl (by decide) (by decide) (hm.le (by dsimp only; omega) (by dsimp only; omega)) kn_12 d_Ro_init_8 fun q8 a139 hk e139 hm => ?_
  have e138 : q8.1 138 0 = a138 := (hk 138 0 ⟨⟨rfl, by decide, by decide⟩, by decide +kernel⟩).trans e138
  have hkp := hkp.tr hk (by decide)
  refine nn_put (pc := 10) (r := 138) (k := 0) (n' := 74) g (cl_Ro (i := 0) ⟨by decide, rfl⟩) ⟨⟨rfl, by decide, by decide⟩, by decide +kernel⟩ (by decide) (Or.inl kn_67) (Or.inr ⟨rfl, hnm, rfl, kn_67⟩) e138 rfl rfl (Or.inl ⟨(by decide +kernel), rfl, (fvR rfl rfl e139)⟩) d_Ro_init_10 ?_
  refine nn_aload_n (pc := 13) g.1 d_Ro_init_13 rfl (lv_at hl 0 rfl) ?_
  refine nn_sipush (pc := 14) g.1 (v := 512) d_Ro_init_14 (by decide) ?_
  refine nn_arr (pc := 17) (r := 140) (i := 0) (N := 512) (at0 := .long) (m := (m.1 + 0, m.2 + 0)) g.gn rfl (by decide) ⟨rfl, by decide, by decide⟩ (by decide +kernel) (by decide) rfl (by decide) (by decide) (hm.le (by dsimp only; omega) (by dsimp only; omega)) kn_14 d_Ro_init_17 fun q17 a140 hk e140 hm => ?_
  have e138 : q17.1 138 0 = a138 := (hk 138 0 ⟨⟨rfl, by decide, by decide⟩, by decide +kernel⟩).trans e138
  have e139 : q17.1 139 0 = a139 := (hk 139 0 ⟨⟨rfl, by decide, by decide⟩, by decide +kernel⟩).trans e139
  have hkp := hkp.tr hk (by decide)
  refine nn_put (pc := 19) (r := 138) (k := 1) (n' := 76) g (cl_Ro (i := 0) ⟨by decide, rfl⟩) ⟨⟨rfl, by decide, by decide⟩, by decide +kernel⟩ (by decide) (Or.inl kn_68) (Or.inr ⟨rfl, hnm, rfl, kn_68⟩) e138 rfl rfl (Or.inl ⟨(by decide +kernel), rfl, (fvR rfl rfl e140)⟩) d_Ro_init_19 ?_
  exact nn_ret (pc := 22) g hR hkp (hm.le (by dsimp only; omega) (by dsimp only; omega)) d_Ro_init_22
theorem cn_Ro_141 {l : Launch} {P : PP} {q : PL} {m : Nat × Nat} (hm : Rnn P q (m.1 + 2, m.2 + 1024)) {a141 : Nat} (e141 : q.1 141 0 = a141) : CtN l y_Ro_init b_Ro_init 1 2 40 P q 78 [.ref a141] m 82 := by
  refine ctN_of (by decide) rfl (Nat.le_of_ble_eq_true rfl) fun X ls eP el g hnm hR hl => ?_
  subst eP
  have hkp : Kpp 78 q q := Kpp.rf
  have hl : lv_has ls 1 [(0, .ref a141)] := hl
  refine nn_aload_n (pc := 0) g.1 d_Ro_init_0 rfl (lv_at hl 0 rfl) ?_
  refine nn_obj (pc := 1) g.gn kn_66 kn_1 kn_2 ⟨by decide, by decide⟩ hl.1 (Nat.le_of_ble_eq_true rfl) d_Ro_init_1 ?_
  refine nn_aload_n (pc := 4) g.1 d_Ro_init_4 rfl (lv_at hl 0 rfl) ?_
  refine nn_sipush (pc := 5) g.1 (v := 512) d_Ro_init_5 (by decide) ?_
  refine nn_arr (pc := 8) (r := 142) (i := 0) (N := 512) (at0 := .byte) (m := (m.1 + 1, m.2 + 512)) g.gn rfl (by decide) ⟨rfl, by decide, by decide⟩ (by decide +kernel) (by decide) rfl (by decide) (by decide) (hm.le (by dsimp only; omega) (by dsimp only; omega)) kn_12 d_Ro_init_8 fun q8 a142 hk e142 hm => ?_
  have e141 : q8.1 141 0 = a141 := (hk 141 0 ⟨⟨rfl, by decide, by decide⟩, by decide +kernel⟩).trans e141
  have hkp := hkp.tr hk (by decide)
  refine nn_put (pc := 10) (r := 141) (k := 0) (n' := 80) g (cl_Ro (i := 0) ⟨by decide, rfl⟩) ⟨⟨rfl, by decide, by decide⟩, by decide +kernel⟩ (by decide) (Or.inl kn_67) (Or.inr ⟨rfl, hnm, rfl, kn_67⟩) e141 rfl rfl (Or.inl ⟨(by decide +kernel), rfl, (fvR rfl rfl e142)⟩) d_Ro_init_10 ?_
  refine nn_aload_n (pc := 13) g.1 d_Ro_init_13 rfl (lv_at hl 0 rfl) ?_
  refine nn_sipush (pc := 14) g.1 (v := 512) d_Ro_init_14 (by decide) ?_
  refine nn_arr (pc := 17) (r := 143) (i := 0) (N := 512) (at0 := .long) (m := (m.1 + 0, m.2 + 0)) g.gn rfl (by decide) ⟨rfl, by decide, by decide⟩ (by decide +kernel) (by decide) rfl (by decide) (by decide) (hm.le (by dsimp only; omega) (by dsimp only; omega)) kn_14 d_Ro_init_17 fun q17 a143 hk e143 hm => ?_
  have e141 : q17.1 141 0 = a141 := (hk 141 0 ⟨⟨rfl, by decide, by decide⟩, by decide +kernel⟩).trans e141
  have e142 : q17.1 142 0 = a142 := (hk 142 0 ⟨⟨rfl, by decide, by decide⟩, by decide +kernel⟩).trans e142
  have hkp := hkp.tr hk (by decide)
  refine nn_put (pc := 19) (r := 141) (k := 1) (n' := 82) g (cl_Ro (i := 0) ⟨by decide, rfl⟩) ⟨⟨rfl, by decide, by decide⟩, by decide +kernel⟩ (by decide) (Or.inl kn_68) (Or.inr ⟨rfl, hnm, rfl, kn_68⟩) e141 rfl rfl (Or.inl ⟨(by decide +kernel), rfl, (fvR rfl rfl e143)⟩) d_Ro_init_19 ?_
  exact nn_ret (pc := 22) g hR hkp (hm.le (by dsimp only; omega) (by dsimp only; omega)) d_Ro_init_22
theorem cn_Ma_128 {l : Launch} {P : PP} {q : PL} {m : Nat × Nat} (hm : Rnn P q (m.1 + 12, m.2 + 4108)) {a128 : Nat} (e128 : q.1 128 0 = a128) {a101 : Nat} (e101 : q.1 101 0 = a101) {a111 : Nat} (e111 : q.1 111 0 = a111) {a120 : Nat} (e120 : q.1 120 0 = a120) : CtN l y_Ma_init b_Ma_init 4 3 60 P q 59 [.ref a128, .ref a101, .ref a111, .ref a120] m 86 := by
  refine ctN_of (by decide) rfl (Nat.le_of_ble_eq_true rfl) fun X ls eP el g hnm hR hl => ?_
  subst eP
  have hkp : Kpp 59 q q := Kpp.rf
  have hl : lv_has ls 4 [(0, .ref a128), (1, .ref a101), (2, .ref a111), (3, .ref a120)] := hl
  refine nn_aload_n (pc := 0) g.1 d_Ma_init_0 rfl (lv_at hl 0 rfl) ?_
  refine nn_obj (pc := 1) g.gn kn_62 kn_1 kn_2 ⟨by decide, by decide⟩ hl.1 (Nat.le_of_ble_eq_true rfl) d_Ma_init_1 ?_
  refine nn_aload_n (pc := 4) g.1 d_Ma_init_4 rfl (lv_at hl 0 rfl) ?_
  refine nn_new (pc := 5) (r := 132) (i := 0) (m := (m.1 + 11, m.2 + 4105)) g.gn (cl_Ro (i := 0) ⟨by decide, rfl⟩) (by unfold dvC; decide +kernel) ⟨rfl, by decide, by decide⟩ (by decide +kernel) (hm.le (by dsimp only; omega) (by have z : nfF 132 = 3 := rfl; dsimp only; omega)) kn_63 kn_64 kn_65 d_Ma_init_5 fun q5 a132 hk e132 hm => ?_
  have e128 : q5.1 128 0 = a128 := (hk 128 0 ⟨⟨rfl, by decide, by decide⟩, by decide +kernel⟩).trans e128
  have e101 : q5.1 101 0 = a101 := (hk 101 0 ⟨⟨rfl, by decide, by decide⟩, by decide +kernel⟩).trans e101
  have e111 : q5.1 111 0 = a111 := (hk 111 0 ⟨⟨rfl, by decide, by decide⟩, by decide +kernel⟩).trans e111
  have e120 : q5.1 120 0 = a120 := (hk 120 0 ⟨⟨rfl, by decide, by decide⟩, by decide +kernel⟩).trans e120
  have hkp := hkp.tr hk (by decide)
  refine nn_dup (pc := 8) g.1 d_Ma_init_8 rfl ?_
  refine nn_call (pc := 9) (rest := [.ref a132, .ref a128]) (m := (m.1 + 9, m.2 + 3081)) (As := []) g.gn ci_Ro_init (Or.inr ⟨"LuaMachine", kxn_5⟩) (cn_Ro_132 (hm.le (by dsimp only; omega) (by dsimp only; omega)) e132) (hm.le (by dsimp only; omega) (by dsimp only; omega)) ⟨by decide, by decide⟩ rfl hl.1 (Nat.le_of_ble_eq_true rfl) d_Ma_init_9 rfl fun q9 hk hm => ?_
  have e128 : q9.1 128 0 = a128 := (hk 128 0 ⟨⟨rfl, by decide, by decide⟩, by decide +kernel⟩).trans e128
  have e101 : q9.1 101 0 = a101 := (hk 101 0 ⟨⟨rfl, by decide, by decide⟩, by decide +kernel⟩).trans e101
  have e111 : q9.1 111 0 = a111 := (hk 111 0 ⟨⟨rfl, by decide, by decide⟩, by decide +kernel⟩).trans e111
  have e120 : q9.1 120 0 = a120 := (hk 120 0 ⟨⟨rfl, by decide, by decide⟩, by decide +kernel⟩).trans e120
  have e132 : q9.1 132 0 = a132 := (hk 132 0 ⟨⟨rfl, by decide, by decide⟩, by decide +kernel⟩).trans e132
  have hkp := hkp.tr hk (by decide)
  refine nn_put (pc := 12) (r := 128) (k := 3) (n' := 65) g cl_Ma ⟨⟨rfl, by decide, by decide⟩, by decide +kernel⟩ (by decide) (Or.inl kn_71) (Or.inr ⟨rfl, hnm, rfl, kn_71⟩) e128 rfl rfl (Or.inl ⟨(by decide +kernel), rfl, (fvR rfl rfl e132)⟩) d_Ma_init_12 ?_
  refine nn_aload_n (pc := 15) g.1 d_Ma_init_15 rfl (lv_at hl 0 rfl) ?_
  refine nn_new (pc := 16) (r := 135) (i := 0) (m := (m.1 + 8, m.2 + 3078)) g.gn (cl_Ro (i := 0) ⟨by decide, rfl⟩) (by unfold dvC; decide +kernel) ⟨rfl, by decide, by decide⟩ (by decide +kernel) (hm.le (by dsimp only; omega) (by have z : nfF 135 = 3 := rfl; dsimp only; omega)) kn_63 kn_64 kn_65 d_Ma_init_16 fun q16 a135 hk e135 hm => ?_
  have e128 : q16.1 128 0 = a128 := (hk 128 0 ⟨⟨rfl, by decide, by decide⟩, by decide +kernel⟩).trans e128
  have e101 : q16.1 101 0 = a101 := (hk 101 0 ⟨⟨rfl, by decide, by decide⟩, by decide +kernel⟩).trans e101
  have e111 : q16.1 111 0 = a111 := (hk 111 0 ⟨⟨rfl, by decide, by decide⟩, by decide +kernel⟩).trans e111
  have e120 : q16.1 120 0 = a120 := (hk 120 0 ⟨⟨rfl, by decide, by decide⟩, by decide +kernel⟩).trans e120
  have e132 : q16.1 132 0 = a132 := (hk 132 0 ⟨⟨rfl, by decide, by decide⟩, by decide +kernel⟩).trans e132
  have hkp := hkp.tr hk (by decide)
  refine nn_dup (pc := 19) g.1 d_Ma_init_19 rfl ?_
  refine nn_call (pc := 20) (rest := [.ref a135, .ref a128]) (m := (m.1 + 6, m.2 + 2054)) (As := []) g.gn ci_Ro_init (Or.inr ⟨"LuaMachine", kxn_5⟩) (cn_Ro_135 (hm.le (by dsimp only; omega) (by dsimp only; omega)) e135) (hm.le (by dsimp only; omega) (by dsimp only; omega)) ⟨by decide, by decide⟩ rfl hl.1 (Nat.le_of_ble_eq_true rfl) d_Ma_init_20 rfl fun q20 hk hm => ?_
  have e128 : q20.1 128 0 = a128 := (hk 128 0 ⟨⟨rfl, by decide, by decide⟩, by decide +kernel⟩).trans e128
  have e101 : q20.1 101 0 = a101 := (hk 101 0 ⟨⟨rfl, by decide, by decide⟩, by decide +kernel⟩).trans e101
  have e111 : q20.1 111 0 = a111 := (hk 111 0 ⟨⟨rfl, by decide, by decide⟩, by decide +kernel⟩).trans e111
  have e120 : q20.1 120 0 = a120 := (hk 120 0 ⟨⟨rfl, by decide, by decide⟩, by decide +kernel⟩).trans e120
  have e132 : q20.1 132 0 = a132 := (hk 132 0 ⟨⟨rfl, by decide, by decide⟩, by decide +kernel⟩).trans e132
  have e135 : q20.1 135 0 = a135 := (hk 135 0 ⟨⟨rfl, by decide, by decide⟩, by decide +kernel⟩).trans e135
  have hkp := hkp.tr hk (by decide)
  refine nn_put (pc := 23) (r := 128) (k := 4) (n' := 71) g cl_Ma ⟨⟨rfl, by decide, by decide⟩, by decide +kernel⟩ (by decide) (Or.inl kn_72) (Or.inr ⟨rfl, hnm, rfl, kn_72⟩) e128 rfl rfl (Or.inl ⟨(by decide +kernel), rfl, (fvR rfl rfl e135)⟩) d_Ma_init_23 ?_
  refine nn_aload_n (pc := 26) g.1 d_Ma_init_26 rfl (lv_at hl 0 rfl) ?_
  refine nn_new (pc := 27) (r := 138) (i := 0) (m := (m.1 + 5, m.2 + 2051)) g.gn (cl_Ro (i := 0) ⟨by decide, rfl⟩) (by unfold dvC; decide +kernel) ⟨rfl, by decide, by decide⟩ (by decide +kernel) (hm.le (by dsimp only; omega) (by have z : nfF 138 = 3 := rfl; dsimp only; omega)) kn_63 kn_64 kn_65 d_Ma_init_27 fun q27 a138 hk e138 hm => ?_
  have e128 : q27.1 128 0 = a128 := (hk 128 0 ⟨⟨rfl, by decide, by decide⟩, by decide +kernel⟩).trans e128
  have e101 : q27.1 101 0 = a101 := (hk 101 0 ⟨⟨rfl, by decide, by decide⟩, by decide +kernel⟩).trans e101
  have e111 : q27.1 111 0 = a111 := (hk 111 0 ⟨⟨rfl, by decide, by decide⟩, by decide +kernel⟩).trans e111
  have e120 : q27.1 120 0 = a120 := (hk 120 0 ⟨⟨rfl, by decide, by decide⟩, by decide +kernel⟩).trans e120
  have e132 : q27.1 132 0 = a132 := (hk 132 0 ⟨⟨rfl, by decide, by decide⟩, by decide +kernel⟩).trans e132
  have e135 : q27.1 135 0 = a135 := (hk 135 0 ⟨⟨rfl, by decide, by decide⟩, by decide +kernel⟩).trans e135
  have hkp := hkp.tr hk (by decide)
  refine nn_dup (pc := 30) g.1 d_Ma_init_30 rfl ?_
  refine nn_call (pc := 31) (rest := [.ref a138, .ref a128]) (m := (m.1 + 3, m.2 + 1027)) (As := []) g.gn ci_Ro_init (Or.inr ⟨"LuaMachine", kxn_5⟩) (cn_Ro_138 (hm.le (by dsimp only; omega) (by dsimp only; omega)) e138) (hm.le (by dsimp only; omega) (by dsimp only; omega)) ⟨by decide, by decide⟩ rfl hl.1 (Nat.le_of_ble_eq_true rfl) d_Ma_init_31 rfl fun q31 hk hm => ?_
  have e128 : q31.1 128 0 = a128 := (hk 128 0 ⟨⟨rfl, by decide, by decide⟩, by decide +kernel⟩).trans e128
  have e101 : q31.1 101 0 = a101 := (hk 101 0 ⟨⟨rfl, by decide, by decide⟩, by decide +kernel⟩).trans e101
  have e111 : q31.1 111 0 = a111 := (hk 111 0 ⟨⟨rfl, by decide, by decide⟩, by decide +kernel⟩).trans e111
  have e120 : q31.1 120 0 = a120 := (hk 120 0 ⟨⟨rfl, by decide, by decide⟩, by decide +kernel⟩).trans e120
  have e132 : q31.1 132 0 = a132 := (hk 132 0 ⟨⟨rfl, by decide, by decide⟩, by decide +kernel⟩).trans e132
  have e135 : q31.1 135 0 = a135 := (hk 135 0 ⟨⟨rfl, by decide, by decide⟩, by decide +kernel⟩).trans e135
  have e138 : q31.1 138 0 = a138 := (hk 138 0 ⟨⟨rfl, by decide, by decide⟩, by decide +kernel⟩).trans e138
  have hkp := hkp.tr hk (by decide)
  refine nn_put (pc := 34) (r := 128) (k := 5) (n' := 77) g cl_Ma ⟨⟨rfl, by decide, by decide⟩, by decide +kernel⟩ (by decide) (Or.inl kn_73) (Or.inr ⟨rfl, hnm, rfl, kn_73⟩) e128 rfl rfl (Or.inl ⟨(by decide +kernel), rfl, (fvR rfl rfl e138)⟩) d_Ma_init_34 ?_
  refine nn_aload_n (pc := 37) g.1 d_Ma_init_37 rfl (lv_at hl 0 rfl) ?_
  refine nn_new (pc := 38) (r := 141) (i := 0) (m := (m.1 + 2, m.2 + 1024)) g.gn (cl_Ro (i := 0) ⟨by decide, rfl⟩) (by unfold dvC; decide +kernel) ⟨rfl, by decide, by decide⟩ (by decide +kernel) (hm.le (by dsimp only; omega) (by have z : nfF 141 = 3 := rfl; dsimp only; omega)) kn_63 kn_64 kn_65 d_Ma_init_38 fun q38 a141 hk e141 hm => ?_
  have e128 : q38.1 128 0 = a128 := (hk 128 0 ⟨⟨rfl, by decide, by decide⟩, by decide +kernel⟩).trans e128
  have e101 : q38.1 101 0 = a101 := (hk 101 0 ⟨⟨rfl, by decide, by decide⟩, by decide +kernel⟩).trans e101
  have e111 : q38.1 111 0 = a111 := (hk 111 0 ⟨⟨rfl, by decide, by decide⟩, by decide +kernel⟩).trans e111
  have e120 : q38.1 120 0 = a120 := (hk 120 0 ⟨⟨rfl, by decide, by decide⟩, by decide +kernel⟩).trans e120
  have e132 : q38.1 132 0 = a132 := (hk 132 0 ⟨⟨rfl, by decide, by decide⟩, by decide +kernel⟩).trans e132
  have e135 : q38.1 135 0 = a135 := (hk 135 0 ⟨⟨rfl, by decide, by decide⟩, by decide +kernel⟩).trans e135
  have e138 : q38.1 138 0 = a138 := (hk 138 0 ⟨⟨rfl, by decide, by decide⟩, by decide +kernel⟩).trans e138
  have hkp := hkp.tr hk (by decide)
  refine nn_dup (pc := 41) g.1 d_Ma_init_41 rfl ?_
  refine nn_call (pc := 42) (rest := [.ref a141, .ref a128]) (m := (m.1 + 0, m.2 + 0)) (As := []) g.gn ci_Ro_init (Or.inr ⟨"LuaMachine", kxn_5⟩) (cn_Ro_141 (hm.le (by dsimp only; omega) (by dsimp only; omega)) e141) (hm.le (by dsimp only; omega) (by dsimp only; omega)) ⟨by decide, by decide⟩ rfl hl.1 (Nat.le_of_ble_eq_true rfl) d_Ma_init_42 rfl fun q42 hk hm => ?_
  have e128 : q42.1 128 0 = a128 := (hk 128 0 ⟨⟨rfl, by decide, by decide⟩, by decide +kernel⟩).trans e128
  have e101 : q42.1 101 0 = a101 := (hk 101 0 ⟨⟨rfl, by decide, by decide⟩, by decide +kernel⟩).trans e101
  have e111 : q42.1 111 0 = a111 := (hk 111 0 ⟨⟨rfl, by decide, by decide⟩, by decide +kernel⟩).trans e111
  have e120 : q42.1 120 0 = a120 := (hk 120 0 ⟨⟨rfl, by decide, by decide⟩, by decide +kernel⟩).trans e120
  have e132 : q42.1 132 0 = a132 := (hk 132 0 ⟨⟨rfl, by decide, by decide⟩, by decide +kernel⟩).trans e132
  have e135 : q42.1 135 0 = a135 := (hk 135 0 ⟨⟨rfl, by decide, by decide⟩, by decide +kernel⟩).trans e135
  have e138 : q42.1 138 0 = a138 := (hk 138 0 ⟨⟨rfl, by decide, by decide⟩, by decide +kernel⟩).trans e138
  have e141 : q42.1 141 0 = a141 := (hk 141 0 ⟨⟨rfl, by decide, by decide⟩, by decide +kernel⟩).trans e141
  have hkp := hkp.tr hk (by decide)
  refine nn_put (pc := 45) (r := 128) (k := 7) (n' := 83) g cl_Ma ⟨⟨rfl, by decide, by decide⟩, by decide +kernel⟩ (by decide) (Or.inl kn_74) (Or.inr ⟨rfl, hnm, rfl, kn_74⟩) e128 rfl rfl (Or.inl ⟨(by decide +kernel), rfl, (fvR rfl rfl e141)⟩) d_Ma_init_45 ?_
  refine nn_aload_n (pc := 48) g.1 d_Ma_init_48 rfl (lv_at hl 0 rfl) ?_
  refine nn_aload_n (pc := 49) g.1 d_Ma_init_49 rfl (lv_at hl 1 rfl) ?_
  refine nn_put (pc := 50) (r := 128) (k := 0) (n' := 84) g cl_Ma ⟨⟨rfl, by decide, by decide⟩, by decide +kernel⟩ (by decide) (Or.inl kn_75) (Or.inr ⟨rfl, hnm, rfl, kn_75⟩) e128 rfl rfl (Or.inl ⟨(by decide +kernel), rfl, (fvR rfl rfl e101)⟩) d_Ma_init_50 ?_
  refine nn_aload_n (pc := 53) g.1 d_Ma_init_53 rfl (lv_at hl 0 rfl) ?_
  refine nn_aload_n (pc := 54) g.1 d_Ma_init_54 rfl (lv_at hl 2 rfl) ?_
  refine nn_put (pc := 55) (r := 128) (k := 1) (n' := 85) g cl_Ma ⟨⟨rfl, by decide, by decide⟩, by decide +kernel⟩ (by decide) (Or.inl kn_76) (Or.inr ⟨rfl, hnm, rfl, kn_76⟩) e128 rfl rfl (Or.inl ⟨(by decide +kernel), rfl, (fvR rfl rfl e111)⟩) d_Ma_init_55 ?_
  refine nn_aload_n (pc := 58) g.1 d_Ma_init_58 rfl (lv_at hl 0 rfl) ?_
  refine nn_aload_n (pc := 59) g.1 d_Ma_init_59 rfl (lv_at hl 3 rfl) ?_
  refine nn_put (pc := 60) (r := 128) (k := 2) (n' := 86) g cl_Ma ⟨⟨rfl, by decide, by decide⟩, by decide +kernel⟩ (by decide) (Or.inl kn_77) (Or.inr ⟨rfl, hnm, rfl, kn_77⟩) e128 rfl rfl (Or.inl ⟨(by decide +kernel), rfl, (fvR rfl rfl e120)⟩) d_Ma_init_60 ?_
  exact nn_ret (pc := 63) g hR hkp (hm.le (by dsimp only; omega) (by dsimp only; omega)) d_Ma_init_63
theorem cn_St_129 {l : Launch} {P : PP} {q : PL} {m : Nat × Nat} (hm : Rnn P q (m.1 + 0, m.2 + 0)) {a129 : Nat} (e129 : q.1 129 0 = a129) {a128 : Nat} (e128 : q.1 128 0 = a128) {a111 : Nat} (e111 : q.1 111 0 = a111) {a120 : Nat} (e120 : q.1 120 0 = a120) {a101 : Nat} (e101 : q.1 101 0 = a101) : CtN l y_St_init b_St_init 2 2 40 P q 90 [.ref a129, .ref a128] m 94 := by
  refine ctN_of (by decide) rfl (Nat.le_of_ble_eq_true rfl) fun X ls eP el g hnm hR hl => ?_
  subst eP
  have hkp : Kpp 90 q q := Kpp.rf
  have hl : lv_has ls 2 [(0, .ref a129), (1, .ref a128)] := hl
  refine nn_aload_n (pc := 0) g.1 d_St_init_0 rfl (lv_at hl 0 rfl) ?_
  refine nn_obj (pc := 1) g.gn kn_87 kn_1 kn_2 ⟨by decide, by decide⟩ hl.1 (Nat.le_of_ble_eq_true rfl) d_St_init_1 ?_
  refine nn_aload_n (pc := 4) g.1 d_St_init_4 rfl (lv_at hl 0 rfl) ?_
  refine nn_aload_n (pc := 5) g.1 d_St_init_5 rfl (lv_at hl 1 rfl) ?_
  refine nn_put (pc := 6) (r := 129) (k := 0) (n' := 91) g cl_St ⟨⟨rfl, by decide, by decide⟩, by decide +kernel⟩ (by decide) (Or.inl kn_88) (Or.inr ⟨rfl, hnm, rfl, kn_88⟩) e129 rfl rfl (Or.inl ⟨(by decide +kernel), rfl, (fvR rfl rfl e128)⟩) d_St_init_6 ?_
  refine nn_aload_n (pc := 9) g.1 d_St_init_9 rfl (lv_at hl 0 rfl) ?_
  refine nn_aload_n (pc := 10) g.1 d_St_init_10 rfl (lv_at hl 1 rfl) ?_
  refine nn_get (pc := 11) (r := 128) (k := 1) (t := 111) g cl_Ma ⟨⟨rfl, by decide, by decide⟩, by decide +kernel⟩ (by decide) (Or.inl kn_89) e128 (by decide +kernel) rfl rfl e111 d_St_init_11 ?_
  refine nn_put (pc := 14) (r := 129) (k := 1) (n' := 92) g cl_St ⟨⟨rfl, by decide, by decide⟩, by decide +kernel⟩ (by decide) (Or.inl kn_90) (Or.inr ⟨rfl, hnm, rfl, kn_90⟩) e129 rfl rfl (Or.inl ⟨(by decide +kernel), rfl, (fvR rfl rfl e111)⟩) d_St_init_14 ?_
  refine nn_aload_n (pc := 17) g.1 d_St_init_17 rfl (lv_at hl 0 rfl) ?_
  refine nn_aload_n (pc := 18) g.1 d_St_init_18 rfl (lv_at hl 1 rfl) ?_
  refine nn_get (pc := 19) (r := 128) (k := 2) (t := 120) g cl_Ma ⟨⟨rfl, by decide, by decide⟩, by decide +kernel⟩ (by decide) (Or.inl kn_91) e128 (by decide +kernel) rfl rfl e120 d_St_init_19 ?_
  refine nn_put (pc := 22) (r := 129) (k := 2) (n' := 93) g cl_St ⟨⟨rfl, by decide, by decide⟩, by decide +kernel⟩ (by decide) (Or.inl kn_92) (Or.inr ⟨rfl, hnm, rfl, kn_92⟩) e129 rfl rfl (Or.inl ⟨(by decide +kernel), rfl, (fvR rfl rfl e120)⟩) d_St_init_22 ?_
  refine nn_aload_n (pc := 25) g.1 d_St_init_25 rfl (lv_at hl 0 rfl) ?_
  refine nn_aload_n (pc := 26) g.1 d_St_init_26 rfl (lv_at hl 1 rfl) ?_
  refine nn_get (pc := 27) (r := 128) (k := 0) (t := 101) g cl_Ma ⟨⟨rfl, by decide, by decide⟩, by decide +kernel⟩ (by decide) (Or.inl kn_93) e128 (by decide +kernel) rfl rfl e101 d_St_init_27 ?_
  refine nn_put (pc := 30) (r := 129) (k := 3) (n' := 94) g cl_St ⟨⟨rfl, by decide, by decide⟩, by decide +kernel⟩ (by decide) (Or.inl kn_94) (Or.inr ⟨rfl, hnm, rfl, kn_94⟩) e129 rfl rfl (Or.inl ⟨(by decide +kernel), rfl, (fvR rfl rfl e101)⟩) d_St_init_30 ?_
  exact nn_ret (pc := 33) g hR hkp (hm.le (by dsimp only; omega) (by dsimp only; omega)) d_St_init_33
theorem cn_Bu_130 {l : Launch} {P : PP} {q : PL} {m : Nat × Nat} (hm : Rnn P q (m.1 + 1, m.2 + 20000)) {a130 : Nat} (e130 : q.1 130 0 = a130) {a128 : Nat} (e128 : q.1 128 0 = a128) {a111 : Nat} (e111 : q.1 111 0 = a111) {a120 : Nat} (e120 : q.1 120 0 = a120) {a132 : Nat} (e132 : q.1 132 0 = a132) {a135 : Nat} (e135 : q.1 135 0 = a135) : CtN l y_Bu_init b_Bu_init 2 2 40 P q 96 [.ref a130, .ref a128] m 103 := by
  refine ctN_of (by decide) rfl (Nat.le_of_ble_eq_true rfl) fun X ls eP el g hnm hR hl => ?_
  subst eP
  have hkp : Kpp 96 q q := Kpp.rf
  have hl : lv_has ls 2 [(0, .ref a130), (1, .ref a128)] := hl
  refine nn_aload_n (pc := 0) g.1 d_Bu_init_0 rfl (lv_at hl 0 rfl) ?_
  refine nn_obj (pc := 1) g.gn kn_102 kn_1 kn_2 ⟨by decide, by decide⟩ hl.1 (Nat.le_of_ble_eq_true rfl) d_Bu_init_1 ?_
  refine nn_aload_n (pc := 4) g.1 d_Bu_init_4 rfl (lv_at hl 0 rfl) ?_
  refine nn_sipush (pc := 5) g.1 (v := 20000) d_Bu_init_5 (by decide) ?_
  refine nn_arr (pc := 8) (r := 131) (i := 0) (N := 20000) (at0 := .byte) (m := (m.1 + 0, m.2 + 0)) g.gn rfl (by decide) ⟨rfl, by decide, by decide⟩ (by decide +kernel) (by decide) rfl (by decide) (by decide) (hm.le (by dsimp only; omega) (by dsimp only; omega)) kn_12 d_Bu_init_8 fun q8 a131 hk e131 hm => ?_
  have e130 : q8.1 130 0 = a130 := (hk 130 0 ⟨⟨rfl, by decide, by decide⟩, by decide +kernel⟩).trans e130
  have e128 : q8.1 128 0 = a128 := (hk 128 0 ⟨⟨rfl, by decide, by decide⟩, by decide +kernel⟩).trans e128
  have e111 : q8.1 111 0 = a111 := (hk 111 0 ⟨⟨rfl, by decide, by decide⟩, by decide +kernel⟩).trans e111
  have e120 : q8.1 120 0 = a120 := (hk 120 0 ⟨⟨rfl, by decide, by decide⟩, by decide +kernel⟩).trans e120
  have e132 : q8.1 132 0 = a132 := (hk 132 0 ⟨⟨rfl, by decide, by decide⟩, by decide +kernel⟩).trans e132
  have e135 : q8.1 135 0 = a135 := (hk 135 0 ⟨⟨rfl, by decide, by decide⟩, by decide +kernel⟩).trans e135
  have hkp := hkp.tr hk (by decide)
  refine nn_put (pc := 10) (r := 130) (k := 0) (n' := 98) g cl_Bu ⟨⟨rfl, by decide, by decide⟩, by decide +kernel⟩ (by decide) (Or.inl kn_103) (Or.inr ⟨rfl, hnm, rfl, kn_103⟩) e130 rfl rfl (Or.inl ⟨(by decide +kernel), rfl, (fvR rfl rfl e131)⟩) d_Bu_init_10 ?_
  refine nn_aload_n (pc := 13) g.1 d_Bu_init_13 rfl (lv_at hl 0 rfl) ?_
  refine nn_aload_n (pc := 14) g.1 d_Bu_init_14 rfl (lv_at hl 1 rfl) ?_
  refine nn_put (pc := 15) (r := 130) (k := 2) (n' := 99) g cl_Bu ⟨⟨rfl, by decide, by decide⟩, by decide +kernel⟩ (by decide) (Or.inl kn_104) (Or.inr ⟨rfl, hnm, rfl, kn_104⟩) e130 rfl rfl (Or.inl ⟨(by decide +kernel), rfl, (fvR rfl rfl e128)⟩) d_Bu_init_15 ?_
  refine nn_aload_n (pc := 18) g.1 d_Bu_init_18 rfl (lv_at hl 0 rfl) ?_
  refine nn_aload_n (pc := 19) g.1 d_Bu_init_19 rfl (lv_at hl 1 rfl) ?_
  refine nn_get (pc := 20) (r := 128) (k := 1) (t := 111) g cl_Ma ⟨⟨rfl, by decide, by decide⟩, by decide +kernel⟩ (by decide) (Or.inl kn_105) e128 (by decide +kernel) rfl rfl e111 d_Bu_init_20 ?_
  refine nn_put (pc := 23) (r := 130) (k := 3) (n' := 100) g cl_Bu ⟨⟨rfl, by decide, by decide⟩, by decide +kernel⟩ (by decide) (Or.inl kn_106) (Or.inr ⟨rfl, hnm, rfl, kn_106⟩) e130 rfl rfl (Or.inl ⟨(by decide +kernel), rfl, (fvR rfl rfl e111)⟩) d_Bu_init_23 ?_
  refine nn_aload_n (pc := 26) g.1 d_Bu_init_26 rfl (lv_at hl 0 rfl) ?_
  refine nn_aload_n (pc := 27) g.1 d_Bu_init_27 rfl (lv_at hl 1 rfl) ?_
  refine nn_get (pc := 28) (r := 128) (k := 2) (t := 120) g cl_Ma ⟨⟨rfl, by decide, by decide⟩, by decide +kernel⟩ (by decide) (Or.inl kn_107) e128 (by decide +kernel) rfl rfl e120 d_Bu_init_28 ?_
  refine nn_put (pc := 31) (r := 130) (k := 4) (n' := 101) g cl_Bu ⟨⟨rfl, by decide, by decide⟩, by decide +kernel⟩ (by decide) (Or.inl kn_108) (Or.inr ⟨rfl, hnm, rfl, kn_108⟩) e130 rfl rfl (Or.inl ⟨(by decide +kernel), rfl, (fvR rfl rfl e120)⟩) d_Bu_init_31 ?_
  refine nn_aload_n (pc := 34) g.1 d_Bu_init_34 rfl (lv_at hl 0 rfl) ?_
  refine nn_aload_n (pc := 35) g.1 d_Bu_init_35 rfl (lv_at hl 1 rfl) ?_
  refine nn_get (pc := 36) (r := 128) (k := 3) (t := 132) g cl_Ma ⟨⟨rfl, by decide, by decide⟩, by decide +kernel⟩ (by decide) (Or.inl kn_109) e128 (by decide +kernel) rfl rfl e132 d_Bu_init_36 ?_
  refine nn_put (pc := 39) (r := 130) (k := 5) (n' := 102) g cl_Bu ⟨⟨rfl, by decide, by decide⟩, by decide +kernel⟩ (by decide) (Or.inl kn_110) (Or.inr ⟨rfl, hnm, rfl, kn_110⟩) e130 rfl rfl (Or.inl ⟨(by decide +kernel), rfl, (fvR rfl rfl e132)⟩) d_Bu_init_39 ?_
  refine nn_aload_n (pc := 42) g.1 d_Bu_init_42 rfl (lv_at hl 0 rfl) ?_
  refine nn_aload_n (pc := 43) g.1 d_Bu_init_43 rfl (lv_at hl 1 rfl) ?_
  refine nn_get (pc := 44) (r := 128) (k := 4) (t := 135) g cl_Ma ⟨⟨rfl, by decide, by decide⟩, by decide +kernel⟩ (by decide) (Or.inl kn_111) e128 (by decide +kernel) rfl rfl e135 d_Bu_init_44 ?_
  refine nn_put (pc := 47) (r := 130) (k := 6) (n' := 103) g cl_Bu ⟨⟨rfl, by decide, by decide⟩, by decide +kernel⟩ (by decide) (Or.inl kn_112) (Or.inr ⟨rfl, hnm, rfl, kn_112⟩) e130 rfl rfl (Or.inl ⟨(by decide +kernel), rfl, (fvR rfl rfl e135)⟩) d_Bu_init_47 ?_
  exact nn_ret (pc := 50) g hR hkp (hm.le (by dsimp only; omega) (by dsimp only; omega)) d_Bu_init_50
