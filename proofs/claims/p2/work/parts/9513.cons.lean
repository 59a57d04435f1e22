theorem cn_Va_1 {l : Launch} {P : PP} {q : PL} {m : Nat × Nat} (hm : Rnn P q (m.1 + 2, m.2 + 40002)) {a1 : Nat} (e1 : q.1 1 0 = a1) : CtN l y_Va_init b_Va_init 2 2 40 P q 139 [.ref a1, .int 20001] m 143 := by
  refine ctN_of (by decide) rfl (Nat.le_of_ble_eq_true rfl) fun X ls eP el g hnm hR hl => ?_
  subst eP
  have hkp : Kpp 139 q q := Kpp.rf
  have hl : lv_has ls 2 [(0, .ref a1), (1, .int 20001)] := hl
  refine nn_aload_n (pc := 0) g.1 d_Va_init_0 rfl (lv_at hl 0 rfl) ?_
  refine nn_obj (pc := 1) g.gn kn_146 kn_1 kn_2 ⟨by decide, by decide⟩ hl.1 (Nat.le_of_ble_eq_true rfl) d_Va_init_1 ?_
  refine nn_aload_n (pc := 4) g.1 d_Va_init_4 rfl (lv_at hl 0 rfl) ?_
  refine nn_iconst (pc := 5) g.1 (v := 0) d_Va_init_5 (by decide) ?_
  refine nn_put (pc := 6) (r := 1) (k := 2) (n' := 139) g (cl_Va (i := 0) (Or.inl ⟨by decide, rfl⟩)) ⟨⟨rfl, by decide, by decide⟩, by decide +kernel⟩ (by decide) (Or.inl kn_147) (Or.inl rfl) e1 rfl rfl (Or.inr ⟨rfl, fN_dv (Or.inr ⟨by decide +kernel, (by decide), (fvI rfl rfl)⟩)⟩) d_Va_init_6 ?_
  refine nn_aload_n (pc := 9) g.1 d_Va_init_9 rfl (lv_at hl 0 rfl) ?_
  refine nn_iload_n (pc := 10) g.1 d_Va_init_10 rfl (lv_at hl 1 rfl) ?_
  refine nn_arr (pc := 11) (r := 2) (i := 0) (N := 20001) (at0 := .byte) (m := (m.1 + 1, m.2 + 20001)) g.gn rfl (by decide) ⟨rfl, by decide, by decide⟩ (by decide +kernel) (by decide) rfl (by decide) (by decide) (hm.le (by dsimp only; omega) (by dsimp only; omega)) kn_12 d_Va_init_11 fun q11 a2 hk e2 hm => ?_
  have e1 : q11.1 1 0 = a1 := (hk 1 0 ⟨⟨rfl, by decide, by decide⟩, by decide +kernel⟩).trans e1
  have hkp := hkp.tr hk (by decide)
  refine nn_put (pc := 13) (r := 1) (k := 0) (n' := 141) g (cl_Va (i := 0) (Or.inl ⟨by decide, rfl⟩)) ⟨⟨rfl, by decide, by decide⟩, by decide +kernel⟩ (by decide) (Or.inl kn_148) (Or.inr ⟨rfl, hnm, rfl, kn_148⟩) e1 rfl rfl (Or.inl ⟨(by decide +kernel), rfl, (fvR rfl rfl e2)⟩) d_Va_init_13 ?_
  refine nn_aload_n (pc := 16) g.1 d_Va_init_16 rfl (lv_at hl 0 rfl) ?_
  refine nn_iload_n (pc := 17) g.1 d_Va_init_17 rfl (lv_at hl 1 rfl) ?_
  refine nn_arr (pc := 18) (r := 3) (i := 0) (N := 20001) (at0 := .long) (m := (m.1 + 0, m.2 + 0)) g.gn rfl (by decide) ⟨rfl, by decide, by decide⟩ (by decide +kernel) (by decide) rfl (by decide) (by decide) (hm.le (by dsimp only; omega) (by dsimp only; omega)) kn_14 d_Va_init_18 fun q18 a3 hk e3 hm => ?_
  have e1 : q18.1 1 0 = a1 := (hk 1 0 ⟨⟨rfl, by decide, by decide⟩, by decide +kernel⟩).trans e1
  have e2 : q18.1 2 0 = a2 := (hk 2 0 ⟨⟨rfl, by decide, by decide⟩, by decide +kernel⟩).trans e2
  have hkp := hkp.tr hk (by decide)
  refine nn_put (pc := 20) (r := 1) (k := 1) (n' := 143) g (cl_Va (i := 0) (Or.inl ⟨by decide, rfl⟩)) ⟨⟨rfl, by decide, by decide⟩, by decide +kernel⟩ (by decide) (Or.inl kn_149) (Or.inr ⟨rfl, hnm, rfl, kn_149⟩) e1 rfl rfl (Or.inl ⟨(by decide +kernel), rfl, (fvR rfl rfl e3)⟩) d_Va_init_20 ?_
  exact nn_ret (pc := 23) g hR hkp (hm.le (by dsimp only; omega) (by dsimp only; omega)) d_Va_init_23
theorem cn_Va_4 {l : Launch} {P : PP} {q : PL} {m : Nat × Nat} (hm : Rnn P q (m.1 + 2, m.2 + 8200)) {a4 : Nat} (e4 : q.1 4 0 = a4) : CtN l y_Va_init b_Va_init 2 2 40 P q 169 [.ref a4, .int 4100] m 173 := by
  refine ctN_of (by decide) rfl (Nat.le_of_ble_eq_true rfl) fun X ls eP el g hnm hR hl => ?_
  subst eP
  have hkp : Kpp 169 q q := Kpp.rf
  have hl : lv_has ls 2 [(0, .ref a4), (1, .int 4100)] := hl
  refine nn_aload_n (pc := 0) g.1 d_Va_init_0 rfl (lv_at hl 0 rfl) ?_
  refine nn_obj (pc := 1) g.gn kn_146 kn_1 kn_2 ⟨by decide, by decide⟩ hl.1 (Nat.le_of_ble_eq_true rfl) d_Va_init_1 ?_
  refine nn_aload_n (pc := 4) g.1 d_Va_init_4 rfl (lv_at hl 0 rfl) ?_
  refine nn_iconst (pc := 5) g.1 (v := 0) d_Va_init_5 (by decide) ?_
  refine nn_put (pc := 6) (r := 4) (k := 2) (n' := 169) g (cl_Va (i := 0) (Or.inl ⟨by decide, rfl⟩)) ⟨⟨rfl, by decide, by decide⟩, by decide +kernel⟩ (by decide) (Or.inl kn_147) (Or.inl rfl) e4 rfl rfl (Or.inr ⟨rfl, fN_dv (Or.inr ⟨by decide +kernel, (by decide), (fvI rfl rfl)⟩)⟩) d_Va_init_6 ?_
  refine nn_aload_n (pc := 9) g.1 d_Va_init_9 rfl (lv_at hl 0 rfl) ?_
  refine nn_iload_n (pc := 10) g.1 d_Va_init_10 rfl (lv_at hl 1 rfl) ?_
  refine nn_arr (pc := 11) (r := 5) (i := 0) (N := 4100) (at0 := .byte) (m := (m.1 + 1, m.2 + 4100)) g.gn rfl (by decide) ⟨rfl, by decide, by decide⟩ (by decide +kernel) (by decide) rfl (by decide) (by decide) (hm.le (by dsimp only; omega) (by dsimp only; omega)) kn_12 d_Va_init_11 fun q11 a5 hk e5 hm => ?_
  have e4 : q11.1 4 0 = a4 := (hk 4 0 ⟨⟨rfl, by decide, by decide⟩, by decide +kernel⟩).trans e4
  have hkp := hkp.tr hk (by decide)
  refine nn_put (pc := 13) (r := 4) (k := 0) (n' := 171) g (cl_Va (i := 0) (Or.inl ⟨by decide, rfl⟩)) ⟨⟨rfl, by decide, by decide⟩, by decide +kernel⟩ (by decide) (Or.inl kn_148) (Or.inr ⟨rfl, hnm, rfl, kn_148⟩) e4 rfl rfl (Or.inl ⟨(by decide +kernel), rfl, (fvR rfl rfl e5)⟩) d_Va_init_13 ?_
  refine nn_aload_n (pc := 16) g.1 d_Va_init_16 rfl (lv_at hl 0 rfl) ?_
  refine nn_iload_n (pc := 17) g.1 d_Va_init_17 rfl (lv_at hl 1 rfl) ?_
  refine nn_arr (pc := 18) (r := 6) (i := 0) (N := 4100) (at0 := .long) (m := (m.1 + 0, m.2 + 0)) g.gn rfl (by decide) ⟨rfl, by decide, by decide⟩ (by decide +kernel) (by decide) rfl (by decide) (by decide) (hm.le (by dsimp only; omega) (by dsimp only; omega)) kn_14 d_Va_init_18 fun q18 a6 hk e6 hm => ?_
  have e4 : q18.1 4 0 = a4 := (hk 4 0 ⟨⟨rfl, by decide, by decide⟩, by decide +kernel⟩).trans e4
  have e5 : q18.1 5 0 = a5 := (hk 5 0 ⟨⟨rfl, by decide, by decide⟩, by decide +kernel⟩).trans e5
  have hkp := hkp.tr hk (by decide)
  refine nn_put (pc := 20) (r := 4) (k := 1) (n' := 173) g (cl_Va (i := 0) (Or.inl ⟨by decide, rfl⟩)) ⟨⟨rfl, by decide, by decide⟩, by decide +kernel⟩ (by decide) (Or.inl kn_149) (Or.inr ⟨rfl, hnm, rfl, kn_149⟩) e4 rfl rfl (Or.inl ⟨(by decide +kernel), rfl, (fvR rfl rfl e6)⟩) d_Va_init_20 ?_
  exact nn_ret (pc := 23) g hR hkp (hm.le (by dsimp only; omega) (by dsimp only; omega)) d_Va_init_23
theorem cn_Va_16 {l : Launch} {P : PP} {q : PL} {m : Nat × Nat} (hm : Rnn P q (m.1 + 2, m.2 + 128)) {a16 : Nat} (e16 : q.1 16 0 = a16) : CtN l y_Va_init b_Va_init 2 2 40 P q 177 [.ref a16, .int 64] m 181 := by
  refine ctN_of (by decide) rfl (Nat.le_of_ble_eq_true rfl) fun X ls eP el g hnm hR hl => ?_
  subst eP
  have hkp : Kpp 177 q q := Kpp.rf
  have hl : lv_has ls 2 [(0, .ref a16), (1, .int 64)] := hl
  refine nn_aload_n (pc := 0) g.1 d_Va_init_0 rfl (lv_at hl 0 rfl) ?_
  refine nn_obj (pc := 1) g.gn kn_146 kn_1 kn_2 ⟨by decide, by decide⟩ hl.1 (Nat.le_of_ble_eq_true rfl) d_Va_init_1 ?_
  refine nn_aload_n (pc := 4) g.1 d_Va_init_4 rfl (lv_at hl 0 rfl) ?_
  refine nn_iconst (pc := 5) g.1 (v := 0) d_Va_init_5 (by decide) ?_
  refine nn_put (pc := 6) (r := 16) (k := 2) (n' := 177) g (cl_Va (i := 0) (Or.inl ⟨by decide, rfl⟩)) ⟨⟨rfl, by decide, by decide⟩, by decide +kernel⟩ (by decide) (Or.inl kn_147) (Or.inl rfl) e16 rfl rfl (Or.inr ⟨rfl, fN_dv (Or.inr ⟨by decide +kernel, (by decide), (fvI rfl rfl)⟩)⟩) d_Va_init_6 ?_
  refine nn_aload_n (pc := 9) g.1 d_Va_init_9 rfl (lv_at hl 0 rfl) ?_
  refine nn_iload_n (pc := 10) g.1 d_Va_init_10 rfl (lv_at hl 1 rfl) ?_
  refine nn_arr (pc := 11) (r := 17) (i := 0) (N := 64) (at0 := .byte) (m := (m.1 + 1, m.2 + 64)) g.gn rfl (by decide) ⟨rfl, by decide, by decide⟩ (by decide +kernel) (by decide) rfl (by decide) (by decide) (hm.le (by dsimp only; omega) (by dsimp only; omega)) kn_12 d_Va_init_11 fun q11 a17 hk e17 hm => ?_
  have e16 : q11.1 16 0 = a16 := (hk 16 0 ⟨⟨rfl, by decide, by decide⟩, by decide +kernel⟩).trans e16
  have hkp := hkp.tr hk (by decide)
  refine nn_put (pc := 13) (r := 16) (k := 0) (n' := 179) g (cl_Va (i := 0) (Or.inl ⟨by decide, rfl⟩)) ⟨⟨rfl, by decide, by decide⟩, by decide +kernel⟩ (by decide) (Or.inl kn_148) (Or.inr ⟨rfl, hnm, rfl, kn_148⟩) e16 rfl rfl (Or.inl ⟨(by decide +kernel), rfl, (fvR rfl rfl e17)⟩) d_Va_init_13 ?_
  refine nn_aload_n (pc := 16) g.1 d_Va_init_16 rfl (lv_at hl 0 rfl) ?_
  refine nn_iload_n (pc := 17) g.1 d_Va_init_17 rfl (lv_at hl 1 rfl) ?_
  refine nn_arr (pc := 18) (r := 18) (i := 0) (N := 64) (at0 := .long) (m := (m.1 + 0, m.2 + 0)) g.gn rfl (by decide) ⟨rfl, by decide, by decide⟩ (by decide +kernel) (by decide) rfl (by decide) (by decide) (hm.le (by dsimp only; omega) (by dsimp only; omega)) kn_14 d_Va_init_18 fun q18 a18 hk e18 hm => ?_
  have e16 : q18.1 16 0 = a16 := (hk 16 0 ⟨⟨rfl, by decide, by decide⟩, by decide +kernel⟩).trans e16
  have e17 : q18.1 17 0 = a17 := (hk 17 0 ⟨⟨rfl, by decide, by decide⟩, by decide +kernel⟩).trans e17
  have hkp := hkp.tr hk (by decide)
  refine nn_put (pc := 20) (r := 16) (k := 1) (n' := 181) g (cl_Va (i := 0) (Or.inl ⟨by decide, rfl⟩)) ⟨⟨rfl, by decide, by decide⟩, by decide +kernel⟩ (by decide) (Or.inl kn_149) (Or.inr ⟨rfl, hnm, rfl, kn_149⟩) e16 rfl rfl (Or.inl ⟨(by decide +kernel), rfl, (fvR rfl rfl e18)⟩) d_Va_init_20 ?_
  exact nn_ret (pc := 23) g hR hkp (hm.le (by dsimp only; omega) (by dsimp only; omega)) d_Va_init_23
theorem cn_Va_7 {l : Launch} {P : PP} {q : PL} {m : Nat × Nat} (hm : Rnn P q (m.1 + 2, m.2 + 800)) {a7 : Nat} (e7 : q.1 7 0 = a7) : CtN l y_Va_init b_Va_init 2 2 40 P q 186 [.ref a7, .int 400] m 190 := by
  refine ctN_of (by decide) rfl (Nat.le_of_ble_eq_true rfl) fun X ls eP el g hnm hR hl => ?_
  subst eP
  have hkp : Kpp 186 q q := Kpp.rf
  have hl : lv_has ls 2 [(0, .ref a7), (1, .int 400)] := hl
  refine nn_aload_n (pc := 0) g.1 d_Va_init_0 rfl (lv_at hl 0 rfl) ?_
  refine nn_obj (pc := 1) g.gn kn_146 kn_1 kn_2 ⟨by decide, by decide⟩ hl.1 (Nat.le_of_ble_eq_true rfl) d_Va_init_1 ?_
  refine nn_aload_n (pc := 4) g.1 d_Va_init_4 rfl (lv_at hl 0 rfl) ?_
  refine nn_iconst (pc := 5) g.1 (v := 0) d_Va_init_5 (by decide) ?_
  refine nn_put (pc := 6) (r := 7) (k := 2) (n' := 186) g (cl_Va (i := 0) (Or.inl ⟨by decide, rfl⟩)) ⟨⟨rfl, by decide, by decide⟩, by decide +kernel⟩ (by decide) (Or.inl kn_147) (Or.inl rfl) e7 rfl rfl (Or.inr ⟨rfl, fN_dv (Or.inr ⟨by decide +kernel, (by decide), (fvI rfl rfl)⟩)⟩) d_Va_init_6 ?_
  refine nn_aload_n (pc := 9) g.1 d_Va_init_9 rfl (lv_at hl 0 rfl) ?_
  refine nn_iload_n (pc := 10) g.1 d_Va_init_10 rfl (lv_at hl 1 rfl) ?_
  refine nn_arr (pc := 11) (r := 8) (i := 0) (N := 400) (at0 := .byte) (m := (m.1 + 1, m.2 + 400)) g.gn rfl (by decide) ⟨rfl, by decide, by decide⟩ (by decide +kernel) (by decide) rfl (by decide) (by decide) (hm.le (by dsimp only; omega) (by dsimp only; omega)) kn_12 d_Va_init_11 fun q11 a8 hk e8 hm => ?_
  have e7 : q11.1 7 0 = a7 := (hk 7 0 ⟨⟨rfl, by decide, by decide⟩, by decide +kernel⟩).trans e7
  have hkp := hkp.tr hk (by decide)
  refine nn_put (pc := 13) (r := 7) (k := 0) (n' := 188) g (cl_Va (i := 0) (Or.inl ⟨by decide, rfl⟩)) ⟨⟨rfl, by decide, by decide⟩, by decide +kernel⟩ (by decide) (Or.inl kn_148) (Or.inr ⟨rfl, hnm, rfl, kn_148⟩) e7 rfl rfl (Or.inl ⟨(by decide +kernel), rfl, (fvR rfl rfl e8)⟩) d_Va_init_13 ?_
  refine nn_aload_n (pc := 16) g.1 d_Va_init_16 rfl (lv_at hl 0 rfl) ?_
  refine nn_iload_n (pc := 17) g.1 d_Va_init_17 rfl (lv_at hl 1 rfl) ?_
  refine nn_arr (pc := 18) (r := 9) (i := 0) (N := 400) (at0 := .long) (m := (m.1 + 0, m.2 + 0)) g.gn rfl (by decide) ⟨rfl, by decide, by decide⟩ (by decide +kernel) (by decide) rfl (by decide) (by decide) (hm.le (by dsimp only; omega) (by dsimp only; omega)) kn_14 d_Va_init_18 fun q18 a9 hk e9 hm => ?_
  have e7 : q18.1 7 0 = a7 := (hk 7 0 ⟨⟨rfl, by decide, by decide⟩, by decide +kernel⟩).trans e7
  have e8 : q18.1 8 0 = a8 := (hk 8 0 ⟨⟨rfl, by decide, by decide⟩, by decide +kernel⟩).trans e8
  have hkp := hkp.tr hk (by decide)
  refine nn_put (pc := 20) (r := 7) (k := 1) (n' := 190) g (cl_Va (i := 0) (Or.inl ⟨by decide, rfl⟩)) ⟨⟨rfl, by decide, by decide⟩, by decide +kernel⟩ (by decide) (Or.inl kn_149) (Or.inr ⟨rfl, hnm, rfl, kn_149⟩) e7 rfl rfl (Or.inl ⟨(by decide +kernel), rfl, (fvR rfl rfl e9)⟩) d_Va_init_20 ?_
  exact nn_ret (pc := 23) g hR hkp (hm.le (by dsimp only; omega) (by dsimp only; omega)) d_Va_init_23
theorem cn_Va_10 {l : Launch} {P : PP} {q : PL} {m : Nat × Nat} (hm : Rnn P q (m.1 + 2, m.2 + 800)) {a10 : Nat} (e10 : q.1 10 0 = a10) : CtN l y_Va_init b_Va_init 2 2 40 P q 192 [.ref a10, .int 400] m 196 := by
  refine ctN_of (by decide) rfl (Nat.le_of_ble_eq_true rfl) fun X ls eP el g hnm hR hl => ?_
  subst eP
  have hkp : Kpp 192 q q := Kpp.rf
  have hl : lv_has ls 2 [(0, .ref a10), (1, .int 400)] := hl
  refine nn_aload_n (pc := 0) g.1 d_Va_init_0 rfl (lv_at hl 0 rfl) ?_
  refine nn_obj (pc := 1) g.gn kn_146 kn_1 kn_2 ⟨by decide, by decide⟩ hl.1 (Nat.le_of_ble_eq_true rfl) d_Va_init_1 ?_
  refine nn_aload_n (pc := 4) g.1 d_Va_init_4 rfl (lv_at hl 0 rfl) ?_
  refine nn_iconst (pc := 5) g.1 (v := 0) d_Va_init_5 (by decide) ?_
  refine nn_put (pc := 6) (r := 10) (k := 2) (n' := 192) g (cl_Va (i := 0) (Or.inl ⟨by decide, rfl⟩)) ⟨⟨rfl, by decide, by decide⟩, by decide +kernel⟩ (by decide) (Or.inl kn_147) (Or.inl rfl) e10 rfl rfl (Or.inr ⟨rfl, fN_dv (Or.inr ⟨by decide +kernel, (by decide), (fvI rfl rfl)⟩)⟩) d_Va_init_6 ?_
  refine nn_aload_n (pc := 9) g.1 d_Va_init_9 rfl (lv_at hl 0 rfl) ?_
  refine nn_iload_n (pc := 10) g.1 d_Va_init_10 rfl (lv_at hl 1 rfl) ?_
  refine nn_arr (pc := 11) (r := 11) (i := 0) (N := 400) (at0 := .byte) (m := (m.1 + 1, m.2 + 400)) g.gn rfl (by decide) ⟨rfl, by decide, by decide⟩ (by decide +kernel) (by decide) rfl (by decide) (by decide) (hm.le (by dsimp only; omega) (by dsimp only; omega)) kn_12 d_Va_init_11 fun q11 a11 hk e11 hm => ?_
  have e10 : q11.1 10 0 = a10 := (hk 10 0 ⟨⟨rfl, by decide, by decide⟩, by decide +kernel⟩).trans e10
  have hkp := hkp.tr hk (by decide)
  refine nn_put (pc := 13) (r := 10) (k := 0) (n' := 194) g (cl_Va (i := 0) (Or.inl ⟨by decide, rfl⟩)) ⟨⟨rfl, by decide, by decide⟩, by decide +kernel⟩ (by decide) (Or.inl kn_148) (Or.inr ⟨rfl, hnm, rfl, kn_148⟩) e10 rfl rfl (Or.inl ⟨(by decide +kernel), rfl, (fvR rfl rfl e11)⟩) d_Va_init_13 ?_
  refine nn_aload_n (pc := 16) g.1 d_Va_init_16 rfl (lv_at hl 0 rfl) ?_
  refine nn_iload_n (pc := 17) g.1 d_Va_init_17 rfl (lv_at hl 1 rfl) ?_
  refine nn_arr (pc := 18) (r := 12) (i := 0) (N := 400) (at0 := .long) (m := (m.1 + 0, m.2 + 0)) g.gn rfl (by decide) ⟨rfl, by decide, by decide⟩ (by decide +kernel) (by decide) rfl (by decide) (by decide) (hm.le (by dsimp only; omega) (by dsimp only; omega)) kn_14 d_Va_init_18 fun q18 a12 hk e12 hm => ?_
  have e10 : q18.1 10 0 = a10 := (hk 10 0 ⟨⟨rfl, by decide, by decide⟩, by decide +kernel⟩).trans e10
  have e11 : q18.1 11 0 = a11 := (hk 11 0 ⟨⟨rfl, by decide, by decide⟩, by decide +kernel⟩).trans e11
  have hkp := hkp.tr hk (by decide)
  refine nn_put (pc := 20) (r := 10) (k := 1) (n' := 196) g (cl_Va (i := 0) (Or.inl ⟨by decide, rfl⟩)) ⟨⟨rfl, by decide, by decide⟩, by decide +kernel⟩ (by decide) (Or.inl kn_149) (Or.inr ⟨rfl, hnm, rfl, kn_149⟩) e10 rfl rfl (Or.inl ⟨(by decide +kernel), rfl, (fvR rfl rfl e12)⟩) d_Va_init_20 ?_
  exact nn_ret (pc := 23) g hR hkp (hm.le (by dsimp only; omega) (by dsimp only; omega)) d_Va_init_23
theorem cn_Va_13 {l : Launch} {P : PP} {q : PL} {m : Nat × Nat} (hm : Rnn P q (m.1 + 2, m.2 + 800)) {a13 : Nat} (e13 : q.1 13 0 = a13) : CtN l y_Va_init b_Va_init 2 2 40 P q 198 [.ref a13, .int 400] m 202 := by
  refine ctN_of (by decide) rfl (Nat.le_of_ble_eq_true rfl) fun X ls eP el g hnm hR hl => ?_
  subst eP
  have hkp : Kpp 198 q q := Kpp.rf
  have hl : lv_has ls 2 [(0, .ref a13), (1, .int 400)] := hl
  refine nn_aload_n (pc := 0) g.1 d_Va_init_0 rfl (lv_at hl 0 rfl) ?_
  refine nn_obj (pc := 1) g.gn kn_146 kn_1 kn_2 ⟨by decide, by decide⟩ hl.1 (Nat.le_of_ble_eq_true rfl) d_Va_init_1 ?_
  refine nn_aload_n (pc := 4) g.1 d_Va_init_4 rfl (lv_at hl 0 rfl) ?_
  refine nn_iconst (pc := 5) g.1 (v := 0) d_Va_init_5 (by decide) ?_
  refine nn_put (pc := 6) (r := 13) (k := 2) (n' := 198) g (cl_Va (i := 0) (Or.inl ⟨by decide, rfl⟩)) ⟨⟨rfl, by decide, by decide⟩, by decide +kernel⟩ (by decide) (Or.inl kn_147) (Or.inl rfl) e13 rfl rfl (Or.inr ⟨rfl, fN_dv (Or.inr ⟨by decide +kernel, (by decide), (fvI rfl rfl)⟩)⟩) d_Va_init_6 ?_
  refine nn_aload_n (pc := 9) g.1 d_Va_init_9 rfl (lv_at hl 0 rfl) ?_
  refine nn_iload_n (pc := 10) g.1 d_Va_init_10 rfl (lv_at hl 1 rfl) ?_
  refine nn_arr (pc := 11) (r := 14) (i := 0) (N := 400) (at0 := .byte) (m := (m.1 + 1, m.2 + 400)) g.gn rfl (by decide) ⟨rfl, by decide, by decide⟩ (by decide +kernel) (by decide) rfl (by decide) (by decide) (hm.le (by dsimp only; omega) (by dsimp only; omega)) kn_12 d_Va_init_11 fun q11 a14 hk e14 hm => ?_
  have e13 : q11.1 13 0 = a13 := (hk 13 0 ⟨⟨rfl, by decide, by decide⟩, by decide +kernel⟩).trans e13
  have hkp := hkp.tr hk (by decide)
  refine nn_put (pc := 13) (r := 13) (k := 0) (n' := 200) g (cl_Va (i := 0) (Or.inl ⟨by decide, rfl⟩)) ⟨⟨rfl, by decide, by decide⟩, by decide +kernel⟩ (by decide) (Or.inl kn_148) (Or.inr ⟨rfl, hnm, rfl, kn_148⟩) e13 rfl rfl (Or.inl ⟨(by decide +kernel), rfl, (fvR rfl rfl e14)⟩) d_Va_init_13 ?_
  refine nn_aload_n (pc := 16) g.1 d_Va_init_16 rfl (lv_at hl 0 rfl) ?_
  refine nn_iload_n (pc := 17) g.1 d_Va_init_17 rfl (lv_at hl 1 rfl) ?_
  refine nn_arr (pc := 18) (r := 15) (i := 0) (N := 400) (at0 := .long) (m := (m.1 + 0, m.2 + 0)) g.gn rfl (by decide) ⟨rfl, by decide, by decide⟩ (by decide +kernel) (by decide) rfl (by decide) (by decide) (hm.le (by dsimp only; omega) (by dsimp only; omega)) kn_14 d_Va_init_18 fun q18 a15 hk e15 hm => ?_
  have e13 : q18.1 13 0 = a13 := (hk 13 0 ⟨⟨rfl, by decide, by decide⟩, by decide +kernel⟩).trans e13
  have e14 : q18.1 14 0 = a14 := (hk 14 0 ⟨⟨rfl, by decide, by decide⟩, by decide +kernel⟩).trans e14
  have hkp := hkp.tr hk (by decide)
  refine nn_put (pc := 20) (r := 13) (k := 1) (n' := 202) g (cl_Va (i := 0) (Or.inl ⟨by decide, rfl⟩)) ⟨⟨rfl, by decide, by decide⟩, by decide +kernel⟩ (by decide) (Or.inl kn_149) (Or.inr ⟨rfl, hnm, rfl, kn_149⟩) e13 rfl rfl (Or.inl ⟨(by decide +kernel), rfl, (fvR rfl rfl e15)⟩) d_Va_init_20 ?_
  exact nn_ret (pc := 23) g hR hkp (hm.le (by dsimp only; omega) (by dsimp only; omega)) d_Va_init_23
theorem cn_Va_19 {l : Launch} {P : PP} {q : PL} {m : Nat × Nat} {t : Int32} (ht : 0 ≤ t ∧ t.toNatClampNeg < 33) (hm : Rnn P q (m.1 + 2, m.2 + 8600)) {a19 : Nat} (e19 : q.1 19 t = a19) : CtN l y_Va_init b_Va_init 2 2 40 P q (289 + t.toNatClampNeg * 45) [.ref a19, .int 4300] m (293 + t.toNatClampNeg * 45) := by
  refine ctN_of (by decide) rfl (Nat.le_of_ble_eq_true rfl) fun X ls eP el g hnm hR hl => ?_
  subst eP
  have hkp : Kpp (289 + t.toNatClampNeg * 45) q q := Kpp.rf
  have hl : lv_has ls 2 [(0, .ref a19), (1, .int 4300)] := hl
  refine nn_aload_n (pc := 0) g.1 d_Va_init_0 rfl (lv_at hl 0 rfl) ?_
  refine nn_obj (pc := 1) g.gn kn_146 kn_1 kn_2 ⟨by decide, by decide⟩ hl.1 (Nat.le_of_ble_eq_true rfl) d_Va_init_1 ?_
  refine nn_aload_n (pc := 4) g.1 d_Va_init_4 rfl (lv_at hl 0 rfl) ?_
  refine nn_iconst (pc := 5) g.1 (v := 0) d_Va_init_5 (by decide) ?_
  refine nn_put (pc := 6) (r := 19) (k := 2) (n' := (289 + t.toNatClampNeg * 45)) g (cl_Va (i := 0) (Or.inr ⟨by decide, by decide, by decide⟩)) ⟨⟨rfl, ht.1, ht.2⟩, by rw [et (Or.inl ⟨by decide, by decide⟩) (show eoF 2559 = 288 by decide +kernel) (by decide)]; omega⟩ (by decide) (Or.inl kn_147) (Or.inl rfl) e19 rfl rfl (Or.inr ⟨rfl, fN_dv (Or.inr ⟨by decide +kernel, (by omega), (fvI rfl rfl)⟩)⟩) d_Va_init_6 ?_
  refine nn_aload_n (pc := 9) g.1 d_Va_init_9 rfl (lv_at hl 0 rfl) ?_
  refine nn_iload_n (pc := 10) g.1 d_Va_init_10 rfl (lv_at hl 1 rfl) ?_
  refine nn_arr (pc := 11) (r := 20) (i := t) (N := 4300) (at0 := .byte) (m := (m.1 + 1, m.2 + 4300)) g.gn rfl (by decide) ⟨rfl, ht.1, ht.2⟩ (Eq.trans (et (t := t) (f := 2687) (v := 289) (Or.inl ⟨by decide, by decide⟩) (by decide +kernel) (by decide)) (by omega)) (by decide) rfl (by decide) (by decide) (hm.le (by dsimp only; omega) (by dsimp only; omega)) kn_12 d_Va_init_11 fun q11 a20 hk e20 hm => ?_
  have e19 : q11.1 19 t = a19 := (hk 19 t ⟨⟨rfl, ht.1, ht.2⟩, by rw [et (Or.inl ⟨by decide, by decide⟩) (show eoF 2559 = 288 by decide +kernel) (by decide)]; omega⟩).trans e19
  have hkp := hkp.tr hk (by omega)
  refine nn_put (pc := 13) (r := 19) (k := 0) (n' := (291 + t.toNatClampNeg * 45)) g (cl_Va (i := 0) (Or.inr ⟨by decide, by decide, by decide⟩)) ⟨⟨rfl, ht.1, ht.2⟩, by rw [et (Or.inl ⟨by decide, by decide⟩) (show eoF 2559 = 288 by decide +kernel) (by decide)]; omega⟩ (by decide) (Or.inl kn_148) (Or.inr ⟨rfl, hnm, rfl, kn_148⟩) e19 rfl rfl (Or.inl ⟨(Eq.trans (et (t := t) (f := 2432) (v := 290) (Or.inl ⟨by decide, by decide⟩) (by decide +kernel) (by decide)) (by omega)), by omega, (fvR rfl rfl e20)⟩) d_Va_init_13 ?_
  refine nn_aload_n (pc := 16) g.1 d_Va_init_16 rfl (lv_at hl 0 rfl) ?_
  refine nn_iload_n (pc := 17) g.1 d_Va_init_17 rfl (lv_at hl 1 rfl) ?_
  refine nn_arr (pc := 18) (r := 21) (i := t) (N := 4300) (at0 := .long) (m := (m.1 + 0, m.2 + 0)) g.gn rfl (by decide) ⟨rfl, ht.1, ht.2⟩ (Eq.trans (et (t := t) (f := 2815) (v := 291) (Or.inl ⟨by decide, by decide⟩) (by decide +kernel) (by decide)) (by omega)) (by decide) rfl (by decide) (by decide) (hm.le (by dsimp only; omega) (by dsimp only; omega)) kn_14 d_Va_init_18 fun q18 a21 hk e21 hm => ?_
  have e19 : q18.1 19 t = a19 := (hk 19 t ⟨⟨rfl, ht.1, ht.2⟩, by rw [et (Or.inl ⟨by decide, by decide⟩) (show eoF 2559 = 288 by decide +kernel) (by decide)]; omega⟩).trans e19
  have e20 : q18.1 20 t = a20 := (hk 20 t ⟨⟨rfl, ht.1, ht.2⟩, by rw [et (Or.inl ⟨by decide, by decide⟩) (show eoF 2687 = 289 by decide +kernel) (by decide)]; omega⟩).trans e20
  have hkp := hkp.tr hk (by omega)
  refine nn_put (pc := 20) (r := 19) (k := 1) (n' := (293 + t.toNatClampNeg * 45)) g (cl_Va (i := 0) (Or.inr ⟨by decide, by decide, by decide⟩)) ⟨⟨rfl, ht.1, ht.2⟩, by rw [et (Or.inl ⟨by decide, by decide⟩) (show eoF 2559 = 288 by decide +kernel) (by decide)]; omega⟩ (by decide) (Or.inl kn_149) (Or.inr ⟨rfl, hnm, rfl, kn_149⟩) e19 rfl rfl (Or.inl ⟨(Eq.trans (et (t := t) (f := 2433) (v := 292) (Or.inl ⟨by decide, by decide⟩) (by decide +kernel) (by decide)) (by omega)), by omega, (fvR rfl rfl e21)⟩) d_Va_init_20 ?_
  exact nn_ret (pc := 23) g hR hkp (hm.le (by dsimp only; omega) (by dsimp only; omega)) d_Va_init_23
theorem cn_Va_22 {l : Launch} {P : PP} {q : PL} {m : Nat × Nat} {t : Int32} (ht : 0 ≤ t ∧ t.toNatClampNeg < 33) (hm : Rnn P q (m.1 + 2, m.2 + 520)) {a22 : Nat} (e22 : q.1 22 t = a22) : CtN l y_Va_init b_Va_init 2 2 40 P q (295 + t.toNatClampNeg * 45) [.ref a22, .int 260] m (299 + t.toNatClampNeg * 45) := by
  refine ctN_of (by decide) rfl (Nat.le_of_ble_eq_true rfl) fun X ls eP el g hnm hR hl => ?_
  subst eP
  have hkp : Kpp (295 + t.toNatClampNeg * 45) q q := Kpp.rf
  have hl : lv_has ls 2 [(0, .ref a22), (1, .int 260)] := hl
  refine nn_aload_n (pc := 0) g.1 d_Va_init_0 rfl (lv_at hl 0 rfl) ?_
  refine nn_obj (pc := 1) g.gn kn_146 kn_1 kn_2 ⟨by decide, by decide⟩ hl.1 (Nat.le_of_ble_eq_true rfl) d_Va_init_1 ?_
  refine nn_aload_n (pc := 4) g.1 d_Va_init_4 rfl (lv_at hl 0 rfl) ?_
  refine nn_iconst (pc := 5) g.1 (v := 0) d_Va_init_5 (by decide) ?_
  refine nn_put (pc := 6) (r := 22) (k := 2) (n' := (295 + t.toNatClampNeg * 45)) g (cl_Va (i := 0) (Or.inr ⟨by decide, by decide, by decide⟩)) ⟨⟨rfl, ht.1, ht.2⟩, by rw [et (Or.inl ⟨by decide, by decide⟩) (show eoF 2943 = 294 by decide +kernel) (by decide)]; omega⟩ (by decide) (Or.inl kn_147) (Or.inl rfl) e22 rfl rfl (Or.inr ⟨rfl, fN_dv (Or.inr ⟨by decide +kernel, (by omega), (fvI rfl rfl)⟩)⟩) d_Va_init_6 ?_
  refine nn_aload_n (pc := 9) g.1 d_Va_init_9 rfl (lv_at hl 0 rfl) ?_
  refine nn_iload_n (pc := 10) g.1 d_Va_init_10 rfl (lv_at hl 1 rfl) ?_
  refine nn_arr (pc := 11) (r := 23) (i := t) (N := 260) (at0 := .byte) (m := (m.1 + 1, m.2 + 260)) g.gn rfl (by decide) ⟨rfl, ht.1, ht.2⟩ (Eq.trans (et (t := t) (f := 3071) (v := 295) (Or.inl ⟨by decide, by decide⟩) (by decide +kernel) (by decide)) (by omega)) (by decide) rfl (by decide) (by decide) (hm.le (by dsimp only; omega) (by dsimp only; omega)) kn_12 d_Va_init_11 fun q11 a23 hk e23 hm => ?_
  have e22 : q11.1 22 t = a22 := (hk 22 t ⟨⟨rfl, ht.1, ht.2⟩, by rw [et (Or.inl ⟨by decide, by decide⟩) (show eoF 2943 = 294 by decide +kernel) (by decide)]; omega⟩).trans e22
  have hkp := hkp.tr hk (by omega)
  refine nn_put (pc := 13) (r := 22) (k := 0) (n' := (297 + t.toNatClampNeg * 45)) g (cl_Va (i := 0) (Or.inr ⟨by decide, by decide, by decide⟩)) ⟨⟨rfl, ht.1, ht.2⟩, by rw [et (Or.inl ⟨by decide, by decide⟩) (show eoF 2943 = 294 by decide +kernel) (by decide)]; omega⟩ (by decide) (Or.inl kn_148) (Or.inr ⟨rfl, hnm, rfl, kn_148⟩) e22 rfl rfl (Or.inl ⟨(Eq.trans (et (t := t) (f := 2816) (v := 296) (Or.inl ⟨by decide, by decide⟩) (by decide +kernel) (by decide)) (by omega)), by omega, (fvR rfl rfl e23)⟩) d_Va_init_13 ?_
  refine nn_aload_n (pc := 16) g.1 d_Va_init_16 rfl (lv_at hl 0 rfl) ?_
  refine nn_iload_n (pc := 17) g.1 d_Va_init_17 rfl (lv_at hl 1 rfl) ?_
  refine nn_arr (pc := 18) (r := 24) (i := t) (N := 260) (at0 := .long) (m := (m.1 + 0, m.2 + 0)) g.gn rfl (by decide) ⟨rfl, ht.1, ht.2⟩ (Eq.trans (et (t := t) (f := 3199) (v := 297) (Or.inl ⟨by decide, by decide⟩) (by decide +kernel) (by decide)) (by omega)) (by decide) rfl (by decide) (by decide) (hm.le (by dsimp only; omega) (by dsimp only; omega)) kn_14 d_Va_init_18 fun q18 a24 hk e24 hm => ?_
  have e22 : q18.1 22 t = a22 := (hk 22 t ⟨⟨rfl, ht.1, ht.2⟩, by rw [et (Or.inl ⟨by decide, by decide⟩) (show eoF 2943 = 294 by decide +kernel) (by decide)]; omega⟩).trans e22
  have e23 : q18.1 23 t = a23 := (hk 23 t ⟨⟨rfl, ht.1, ht.2⟩, by rw [et (Or.inl ⟨by decide, by decide⟩) (show eoF 3071 = 295 by decide +kernel) (by decide)]; omega⟩).trans e23
  have hkp := hkp.tr hk (by omega)
  refine nn_put (pc := 20) (r := 22) (k := 1) (n' := (299 + t.toNatClampNeg * 45)) g (cl_Va (i := 0) (Or.inr ⟨by decide, by decide, by decide⟩)) ⟨⟨rfl, ht.1, ht.2⟩, by rw [et (Or.inl ⟨by decide, by decide⟩) (show eoF 2943 = 294 by decide +kernel) (by decide)]; omega⟩ (by decide) (Or.inl kn_149) (Or.inr ⟨rfl, hnm, rfl, kn_149⟩) e22 rfl rfl (Or.inl ⟨(Eq.trans (et (t := t) (f := 2817) (v := 298) (Or.inl ⟨by decide, by decide⟩) (by decide +kernel) (by decide)) (by omega)), by omega, (fvR rfl rfl e24)⟩) d_Va_init_20 ?_
  exact nn_ret (pc := 23) g hR hkp (hm.le (by dsimp only; omega) (by dsimp only; omega)) d_Va_init_23
theorem cn_Va_25 {l : Launch} {P : PP} {q : PL} {m : Nat × Nat} {t : Int32} (ht : 0 ≤ t ∧ t.toNatClampNeg < 33) (hm : Rnn P q (m.1 + 2, m.2 + 520)) {a25 : Nat} (e25 : q.1 25 t = a25) : CtN l y_Va_init b_Va_init 2 2 40 P q (301 + t.toNatClampNeg * 45) [.ref a25, .int 260] m (305 + t.toNatClampNeg * 45) := by
  refine ctN_of (by decide) rfl (Nat.le_of_ble_eq_true rfl) fun X ls eP el g hnm hR hl => ?_
  subst eP
  have hkp : Kpp (301 + t.toNatClampNeg * 45) q q := Kpp.rf
  have hl : lv_has ls 2 [(0, .ref a25), (1, .int 260)] := hl
  refine nn_aload_n (pc := 0) g.1 d_Va_init_0 rfl (lv_at hl 0 rfl) ?_
  refine nn_obj (pc := 1) g.gn kn_146 kn_1 kn_2 ⟨by decide, by decide⟩ hl.1 (Nat.le_of_ble_eq_true rfl) d_Va_init_1 ?_
  refine nn_aload_n (pc := 4) g.1 d_Va_init_4 rfl (lv_at hl 0 rfl) ?_
  refine nn_iconst (pc := 5) g.1 (v := 0) d_Va_init_5 (by decide) ?_
  refine nn_put (pc := 6) (r := 25) (k := 2) (n' := (301 + t.toNatClampNeg * 45)) g (cl_Va (i := 0) (Or.inr ⟨by decide, by decide, by decide⟩)) ⟨⟨rfl, ht.1, ht.2⟩, by rw [et (Or.inl ⟨by decide, by decide⟩) (show eoF 3327 = 300 by decide +kernel) (by decide)]; omega⟩ (by decide) (Or.inl kn_147) (Or.inl rfl) e25 rfl rfl (Or.inr ⟨rfl, fN_dv (Or.inr ⟨by decide +kernel, (by omega), (fvI rfl rfl)⟩)⟩) d_Va_init_6 ?_
  refine nn_aload_n (pc := 9) g.1 d_Va_init_9 rfl (lv_at hl 0 rfl) ?_
  refine nn_iload_n (pc := 10) g.1 d_Va_init_10 rfl (lv_at hl 1 rfl) ?_
  refine nn_arr (pc := 11) (r := 26) (i := t) (N := 260) (at0 := .byte) (m := (m.1 + 1, m.2 + 260)) g.gn rfl (by decide) ⟨rfl, ht.1, ht.2⟩ (Eq.trans (et (t := t) (f := 3455) (v := 301) (Or.inl ⟨by decide, by decide⟩) (by decide +kernel) (by decide)) (by omega)) (by decide) rfl (by decide) (by decide) (hm.le (by dsimp only; omega) (by dsimp only; omega)) kn_12 d_Va_init_11 fun q11 a26 hk e26 hm => ?_
  have e25 : q11.1 25 t = a25 := (hk 25 t ⟨⟨rfl, ht.1, ht.2⟩, by rw [et (Or.inl ⟨by decide, by decide⟩) (show eoF 3327 = 300 by decide +kernel) (by decide)]; omega⟩).trans e25
  have hkp := hkp.tr hk (by omega)
  refine nn_put (pc := 13) (r := 25) (k := 0) (n' := (303 + t.toNatClampNeg * 45)) g (cl_Va (i := 0) (Or.inr ⟨by decide, by decide, by decide⟩)) ⟨⟨rfl, ht.1, ht.2⟩, by rw [et (Or.inl ⟨by decide, by decide⟩) (show eoF 3327 = 300 by decide +kernel) (by decide)]; omega⟩ (by decide) (Or.inl kn_148) (Or.inr ⟨rfl, hnm, rfl, kn_148⟩) e25 rfl rfl (Or.inl ⟨(Eq.trans (et (t := t) (f := 3200) (v := 302) (Or.inl ⟨by decide, by decide⟩) (by decide +kernel) (by decide)) (by omega)), by omega, (fvR rfl rfl e26)⟩) d_Va_init_13 ?_
  refine nn_aload_n (pc := 16) g.1 d_Va_init_16 rfl (lv_at hl 0 rfl) ?_
  refine nn_iload_n (pc := 17) g.1 d_Va_init_17 rfl (lv_at hl 1 rfl) ?_
  refine nn_arr (pc := 18) (r := 27) (i := t) (N := 260) (at0 := .long) (m := (m.1 + 0, m.2 + 0)) g.gn rfl (by decide) ⟨rfl, ht.1, ht.2⟩ (Eq.trans (et (t := t) (f := 3583) (v := 303) (Or.inl ⟨by decide, by decide⟩) (by decide +kernel) (by decide)) (by omega)) (by decide) rfl (by decide) (by decide) (hm.le (by dsimp only; omega) (by dsimp only; omega)) kn_14 d_Va_init_18 fun q18 a27 hk e27 hm => ?_
  have e25 : q18.1 25 t = a25 := (hk 25 t ⟨⟨rfl, ht.1, ht.2⟩, by rw [et (Or.inl ⟨by decide, by decide⟩) (show eoF 3327 = 300 by decide +kernel) (by decide)]; omega⟩).trans e25
  have e26 : q18.1 26 t = a26 := (hk 26 t ⟨⟨rfl, ht.1, ht.2⟩, by rw [et (Or.inl ⟨by decide, by decide⟩) (show eoF 3455 = 301 by decide +kernel) (by decide)]; omega⟩).trans e26
  have hkp := hkp.tr hk (by omega)
  refine nn_put (pc := 20) (r := 25) (k := 1) (n' := (305 + t.toNatClampNeg * 45)) g (cl_Va (i := 0) (Or.inr ⟨by decide, by decide, by decide⟩)) ⟨⟨rfl, ht.1, ht.2⟩, by rw [et (Or.inl ⟨by decide, by decide⟩) (show eoF 3327 = 300 by decide +kernel) (by decide)]; omega⟩ (by decide) (Or.inl kn_149) (Or.inr ⟨rfl, hnm, rfl, kn_149⟩) e25 rfl rfl (Or.inl ⟨(Eq.trans (et (t := t) (f := 3201) (v := 304) (Or.inl ⟨by decide, by decide⟩) (by decide +kernel) (by decide)) (by omega)), by omega, (fvR rfl rfl e27)⟩) d_Va_init_20 ?_
  exact nn_ret (pc := 23) g hR hkp (hm.le (by dsimp only; omega) (by dsimp only; omega)) d_Va_init_23
