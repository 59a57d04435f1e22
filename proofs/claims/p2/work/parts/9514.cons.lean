theorem nn_n {X : Cx} {q : PL} {n n' pc : Nat} {ls : Array Slot} {st : List Value} (e : n = n') (kk : WN X q n' pc ls st) : WN X q n pc ls st := e ▸ kk
theorem cn_Th_28 {l : Launch} {P : PP} {q : PL} {m : Nat × Nat} {t : Int32} (ht : 0 ≤ t ∧ t.toNatClampNeg < 33) (hm : Rnn P q (m.1 + 21, m.2 + 15960)) {a28 : Nat} (e28 : q.1 28 t = a28) : CtN l y_Th_init b_Th_init 1 3 61 P q (287 + t.toNatClampNeg * 45) [.ref a28] m (330 + t.toNatClampNeg * 45) := by
  refine ctN_of (by decide) rfl (Nat.le_of_ble_eq_true rfl) fun X ls eP el g hnm hR hl => ?_
  subst eP
  have hkp : Kpp (287 + t.toNatClampNeg * 45) q q := Kpp.rf
  have hl : lv_has ls 1 [(0, .ref a28)] := hl
  refine nn_aload_n (pc := 0) g.1 d_Th_init_0 rfl (lv_at hl 0 rfl) ?_
  refine nn_obj (pc := 1) g.gn kn_239 kn_1 kn_2 ⟨by decide, by decide⟩ hl.1 (Nat.le_of_ble_eq_true rfl) d_Th_init_1 ?_
  refine nn_aload_n (pc := 4) g.1 d_Th_init_4 rfl (lv_at hl 0 rfl) ?_
  refine nn_iconst (pc := 5) g.1 (v := (-1)) d_Th_init_5 (by decide) ?_
  refine nn_put (pc := 6) (r := 28) (k := 0) (n' := (288 + t.toNatClampNeg * 45)) g cl_Th ⟨⟨rfl, ht.1, ht.2⟩, by rw [et (Or.inl ⟨by decide, by decide⟩) (show eoF 3711 = 286 by decide +kernel) (by decide)]; omega⟩ (by decide) (Or.inl kn_240) (Or.inl rfl) e28 rfl rfl (Or.inl ⟨(Eq.trans (et (t := t) (f := 3584) (v := 287) (Or.inl ⟨by decide, by decide⟩) (by decide +kernel) (by decide)) (by omega)), by omega, (fvI rfl rfl)⟩) d_Th_init_6 ?_
  refine nn_aload_n (pc := 9) g.1 d_Th_init_9 rfl (lv_at hl 0 rfl) ?_
  refine nn_iconst (pc := 10) g.1 (v := 0) d_Th_init_10 (by decide) ?_
  refine nn_put (pc := 11) (r := 28) (k := 1) (n' := (288 + t.toNatClampNeg * 45)) g cl_Th ⟨⟨rfl, ht.1, ht.2⟩, by rw [et (Or.inl ⟨by decide, by decide⟩) (show eoF 3711 = 286 by decide +kernel) (by decide)]; omega⟩ (by decide) (Or.inl kn_241) (Or.inl rfl) e28 rfl rfl (Or.inr ⟨rfl, fN_dv (Or.inr ⟨by decide +kernel, (by omega), (fvI rfl rfl)⟩)⟩) d_Th_init_11 ?_
  refine nn_aload_n (pc := 14) g.1 d_Th_init_14 rfl (lv_at hl 0 rfl) ?_
  refine nn_iconst (pc := 15) g.1 (v := 0) d_Th_init_15 (by decide) ?_
  refine nn_put (pc := 16) (r := 28) (k := 2) (n' := (288 + t.toNatClampNeg * 45)) g cl_Th ⟨⟨rfl, ht.1, ht.2⟩, by rw [et (Or.inl ⟨by decide, by decide⟩) (show eoF 3711 = 286 by decide +kernel) (by decide)]; omega⟩ (by decide) (Or.inl kn_242) (Or.inl rfl) e28 rfl rfl (Or.inr ⟨rfl, fN_dv (Or.inr ⟨by decide +kernel, (by omega), (fvI rfl rfl)⟩)⟩) d_Th_init_16 ?_
  refine nn_aload_n (pc := 19) g.1 d_Th_init_19 rfl (lv_at hl 0 rfl) ?_
  refine nn_iconst (pc := 20) g.1 (v := 0) d_Th_init_20 (by decide) ?_
  refine nn_put (pc := 21) (r := 28) (k := 3) (n' := (288 + t.toNatClampNeg * 45)) g cl_Th ⟨⟨rfl, ht.1, ht.2⟩, by rw [et (Or.inl ⟨by decide, by decide⟩) (show eoF 3711 = 286 by decide +kernel) (by decide)]; omega⟩ (by decide) (Or.inl kn_243) (Or.inl rfl) e28 rfl rfl (Or.inr ⟨rfl, fN_dv (Or.inr ⟨by decide +kernel, (by omega), (fvI rfl rfl)⟩)⟩) d_Th_init_21 ?_
  refine nn_aload_n (pc := 24) g.1 d_Th_init_24 rfl (lv_at hl 0 rfl) ?_
  refine nn_iconst (pc := 25) g.1 (v := 0) d_Th_init_25 (by decide) ?_
  refine nn_put (pc := 26) (r := 28) (k := 4) (n' := (288 + t.toNatClampNeg * 45)) g cl_Th ⟨⟨rfl, ht.1, ht.2⟩, by rw [et (Or.inl ⟨by decide, by decide⟩) (show eoF 3711 = 286 by decide +kernel) (by decide)]; omega⟩ (by decide) (Or.inl kn_244) (Or.inl rfl) e28 rfl rfl (Or.inr ⟨rfl, fN_dv (Or.inr ⟨by decide +kernel, (by omega), (fvI rfl rfl)⟩)⟩) d_Th_init_26 ?_
  refine nn_aload_n (pc := 29) g.1 d_Th_init_29 rfl (lv_at hl 0 rfl) ?_
  refine nn_iconst (pc := 30) g.1 (v := 0) d_Th_init_30 (by decide) ?_
  refine nn_put (pc := 31) (r := 28) (k := 5) (n' := (288 + t.toNatClampNeg * 45)) g cl_Th ⟨⟨rfl, ht.1, ht.2⟩, by rw [et (Or.inl ⟨by decide, by decide⟩) (show eoF 3711 = 286 by decide +kernel) (by decide)]; omega⟩ (by decide) (Or.inl kn_245) (Or.inl rfl) e28 rfl rfl (Or.inr ⟨rfl, fN_dv (Or.inr ⟨by decide +kernel, (by omega), (fvI rfl rfl)⟩)⟩) d_Th_init_31 ?_
  refine nn_aload_n (pc := 34) g.1 d_Th_init_34 rfl (lv_at hl 0 rfl) ?_
  refine nn_null (pc := 35) g.1 d_Th_init_35 ?_
  refine nn_put (pc := 36) (r := 28) (k := 6) (n' := (288 + t.toNatClampNeg * 45)) g cl_Th ⟨⟨rfl, ht.1, ht.2⟩, by rw [et (Or.inl ⟨by decide, by decide⟩) (show eoF 3711 = 286 by decide +kernel) (by decide)]; omega⟩ (by decide) (Or.inl kn_246) (Or.inl rfl) e28 rfl rfl (Or.inr ⟨rfl, fN_dv (Or.inr ⟨by decide +kernel, (by omega), rfl⟩)⟩) d_Th_init_36 ?_
  refine nn_aload_n (pc := 39) g.1 d_Th_init_39 rfl (lv_at hl 0 rfl) ?_
  refine nn_new (pc := 40) (r := 19) (i := t) (m := (m.1 + 20, m.2 + 15957)) g.gn (cl_Va (i := 0) (Or.inr ⟨by decide, by decide, by decide⟩)) (by unfold dvC; decide +kernel) ⟨rfl, ht.1, ht.2⟩ (Eq.trans (et (t := t) (f := 2559) (v := 288) (Or.inl ⟨by decide, by decide⟩) (by decide +kernel) (by decide)) (by omega)) (hm.le (by dsimp only; omega) (by have z : nfF 19 = 3 := rfl; dsimp only; omega)) kn_247 kn_144 kn_145 d_Th_init_40 fun q40 a19 hk e19 hm => ?_
  have e28 : q40.1 28 t = a28 := (hk 28 t ⟨⟨rfl, ht.1, ht.2⟩, by rw [et (Or.inl ⟨by decide, by decide⟩) (show eoF 3711 = 286 by decide +kernel) (by decide)]; omega⟩).trans e28
  have hkp := hkp.tr hk (by omega)
  refine nn_dup (pc := 43) g.1 d_Th_init_43 rfl ?_
  refine nn_sipush (pc := 44) g.1 (v := 4300) d_Th_init_44 (by decide) ?_
  refine nn_n (n' := (289 + t.toNatClampNeg * 45)) (by omega) ?_
  refine nn_call (pc := 47) (rest := [.ref a19, .ref a28]) (m := (m.1 + 18, m.2 + 7357)) (As := [.int 4300]) g.gn ci_Va_init (Or.inl kn_248) (cn_Va_19 ht (hm.le (by dsimp only; omega) (by dsimp only; omega)) e19) (hm.le (by dsimp only; omega) (by dsimp only; omega)) ⟨by decide, by decide⟩ rfl hl.1 (Nat.le_of_ble_eq_true rfl) d_Th_init_47 rfl fun q47 hk hm => ?_
  have e28 : q47.1 28 t = a28 := (hk 28 t ⟨⟨rfl, ht.1, ht.2⟩, by rw [et (Or.inl ⟨by decide, by decide⟩) (show eoF 3711 = 286 by decide +kernel) (by decide)]; omega⟩).trans e28
  have e19 : q47.1 19 t = a19 := (hk 19 t ⟨⟨rfl, ht.1, ht.2⟩, by rw [et (Or.inl ⟨by decide, by decide⟩) (show eoF 2559 = 288 by decide +kernel) (by decide)]; omega⟩).trans e19
  have hkp := hkp.tr hk (by omega)
  refine nn_put (pc := 50) (r := 28) (k := 7) (n' := (294 + t.toNatClampNeg * 45)) g cl_Th ⟨⟨rfl, ht.1, ht.2⟩, by rw [et (Or.inl ⟨by decide, by decide⟩) (show eoF 3711 = 286 by decide +kernel) (by decide)]; omega⟩ (by decide) (Or.inl kn_249) (Or.inr ⟨rfl, hnm, rfl, kn_249⟩) e28 rfl rfl (Or.inl ⟨(Eq.trans (et (t := t) (f := 3591) (v := 293) (Or.inl ⟨by decide, by decide⟩) (by decide +kernel) (by decide)) (by omega)), by omega, (fvR rfl rfl e19)⟩) d_Th_init_50 ?_
  refine nn_aload_n (pc := 53) g.1 d_Th_init_53 rfl (lv_at hl 0 rfl) ?_
  refine nn_new (pc := 54) (r := 22) (i := t) (m := (m.1 + 17, m.2 + 7354)) g.gn (cl_Va (i := 0) (Or.inr ⟨by decide, by decide, by decide⟩)) (by unfold dvC; decide +kernel) ⟨rfl, ht.1, ht.2⟩ (Eq.trans (et (t := t) (f := 2943) (v := 294) (Or.inl ⟨by decide, by decide⟩) (by decide +kernel) (by decide)) (by omega)) (hm.le (by dsimp only; omega) (by have z : nfF 22 = 3 := rfl; dsimp only; omega)) kn_247 kn_144 kn_145 d_Th_init_54 fun q54 a22 hk e22 hm => ?_
  have e28 : q54.1 28 t = a28 := (hk 28 t ⟨⟨rfl, ht.1, ht.2⟩, by rw [et (Or.inl ⟨by decide, by decide⟩) (show eoF 3711 = 286 by decide +kernel) (by decide)]; omega⟩).trans e28
  have e19 : q54.1 19 t = a19 := (hk 19 t ⟨⟨rfl, ht.1, ht.2⟩, by rw [et (Or.inl ⟨by decide, by decide⟩) (show eoF 2559 = 288 by decide +kernel) (by decide)]; omega⟩).trans e19
  have hkp := hkp.tr hk (by omega)
  refine nn_dup (pc := 57) g.1 d_Th_init_57 rfl ?_
  refine nn_sipush (pc := 58) g.1 (v := 260) d_Th_init_58 (by decide) ?_
  refine nn_n (n' := (295 + t.toNatClampNeg * 45)) (by omega) ?_
  refine nn_call (pc := 61) (rest := [.ref a22, .ref a28]) (m := (m.1 + 15, m.2 + 6834)) (As := [.int 260]) g.gn ci_Va_init (Or.inl kn_248) (cn_Va_22 ht (hm.le (by dsimp only; omega) (by dsimp only; omega)) e22) (hm.le (by dsimp only; omega) (by dsimp only; omega)) ⟨by decide, by decide⟩ rfl hl.1 (Nat.le_of_ble_eq_true rfl) d_Th_init_61 rfl fun q61 hk hm => ?_
  have e28 : q61.1 28 t = a28 := (hk 28 t ⟨⟨rfl, ht.1, ht.2⟩, by rw [et (Or.inl ⟨by decide, by decide⟩) (show eoF 3711 = 286 by decide +kernel) (by decide)]; omega⟩).trans e28
  have e19 : q61.1 19 t = a19 := (hk 19 t ⟨⟨rfl, ht.1, ht.2⟩, by rw [et (Or.inl ⟨by decide, by decide⟩) (show eoF 2559 = 288 by decide +kernel) (by decide)]; omega⟩).trans e19
  have e22 : q61.1 22 t = a22 := (hk 22 t ⟨⟨rfl, ht.1, ht.2⟩, by rw [et (Or.inl ⟨by decide, by decide⟩) (show eoF 2943 = 294 by decide +kernel) (by decide)]; omega⟩).trans e22
  have hkp := hkp.tr hk (by omega)
  refine nn_put (pc := 64) (r := 28) (k := 8) (n' := (300 + t.toNatClampNeg * 45)) g cl_Th ⟨⟨rfl, ht.1, ht.2⟩, by rw [et (Or.inl ⟨by decide, by decide⟩) (show eoF 3711 = 286 by decide +kernel) (by decide)]; omega⟩ (by decide) (Or.inl kn_250) (Or.inr ⟨rfl, hnm, rfl, kn_250⟩) e28 rfl rfl (Or.inl ⟨(Eq.trans (et (t := t) (f := 3592) (v := 299) (Or.inl ⟨by decide, by decide⟩) (by decide +kernel) (by decide)) (by omega)), by omega, (fvR rfl rfl e22)⟩) d_Th_init_64 ?_
  refine nn_aload_n (pc := 67) g.1 d_Th_init_67 rfl (lv_at hl 0 rfl) ?_
  refine nn_new (pc := 68) (r := 25) (i := t) (m := (m.1 + 14, m.2 + 6831)) g.gn (cl_Va (i := 0) (Or.inr ⟨by decide, by decide, by decide⟩)) (by unfold dvC; decide +kernel) ⟨rfl, ht.1, ht.2⟩ (Eq.trans (et (t := t) (f := 3327) (v := 300) (Or.inl ⟨by decide, by decide⟩) (by decide +kernel) (by decide)) (by omega)) (hm.le (by dsimp only; omega) (by have z : nfF 25 = 3 := rfl; dsimp only; omega)) kn_247 kn_144 kn_145 d_Th_init_68 fun q68 a25 hk e25 hm => ?_
  have e28 : q68.1 28 t = a28 := (hk 28 t ⟨⟨rfl, ht.1, ht.2⟩, by rw [et (Or.inl ⟨by decide, by decide⟩) (show eoF 3711 = 286 by decide +kernel) (by decide)]; omega⟩).trans e28
  have e19 : q68.1 19 t = a19 := (hk 19 t ⟨⟨rfl, ht.1, ht.2⟩, by rw [et (Or.inl ⟨by decide, by decide⟩) (show eoF 2559 = 288 by decide +kernel) (by decide)]; omega⟩).trans e19
  have e22 : q68.1 22 t = a22 := (hk 22 t ⟨⟨rfl, ht.1, ht.2⟩, by rw [et (Or.inl ⟨by decide, by decide⟩) (show eoF 2943 = 294 by decide +kernel) (by decide)]; omega⟩).trans e22
  have hkp := hkp.tr hk (by omega)
  refine nn_dup (pc := 71) g.1 d_Th_init_71 rfl ?_
  refine nn_sipush (pc := 72) g.1 (v := 260) d_Th_init_72 (by decide) ?_
  refine nn_n (n' := (301 + t.toNatClampNeg * 45)) (by omega) ?_
  refine nn_call (pc := 75) (rest := [.ref a25, .ref a28]) (m := (m.1 + 12, m.2 + 6311)) (As := [.int 260]) g.gn ci_Va_init (Or.inl kn_248) (cn_Va_25 ht (hm.le (by dsimp only; omega) (by dsimp only; omega)) e25) (hm.le (by dsimp only; omega) (by dsimp only; omega)) ⟨by decide, by decide⟩ rfl hl.1 (Nat.le_of_ble_eq_true rfl) d_Th_init_75 rfl fun q75 hk hm => ?_
  have e28 : q75.1 28 t = a28 := (hk 28 t ⟨⟨rfl, ht.1, ht.2⟩, by rw [et (Or.inl ⟨by decide, by decide⟩) (show eoF 3711 = 286 by decide +kernel) (by decide)]; omega⟩).trans e28
  have e19 : q75.1 19 t = a19 := (hk 19 t ⟨⟨rfl, ht.1, ht.2⟩, by rw [et (Or.inl ⟨by decide, by decide⟩) (show eoF 2559 = 288 by decide +kernel) (by decide)]; omega⟩).trans e19
  have e22 : q75.1 22 t = a22 := (hk 22 t ⟨⟨rfl, ht.1, ht.2⟩, by rw [et (Or.inl ⟨by decide, by decide⟩) (show eoF 2943 = 294 by decide +kernel) (by decide)]; omega⟩).trans e22
  have e25 : q75.1 25 t = a25 := (hk 25 t ⟨⟨rfl, ht.1, ht.2⟩, by rw [et (Or.inl ⟨by decide, by decide⟩) (show eoF 3327 = 300 by decide +kernel) (by decide)]; omega⟩).trans e25
  have hkp := hkp.tr hk (by omega)
  refine nn_put (pc := 78) (r := 28) (k := 9) (n' := (306 + t.toNatClampNeg * 45)) g cl_Th ⟨⟨rfl, ht.1, ht.2⟩, by rw [et (Or.inl ⟨by decide, by decide⟩) (show eoF 3711 = 286 by decide +kernel) (by decide)]; omega⟩ (by decide) (Or.inl kn_251) (Or.inr ⟨rfl, hnm, rfl, kn_251⟩) e28 rfl rfl (Or.inl ⟨(Eq.trans (et (t := t) (f := 3593) (v := 305) (Or.inl ⟨by decide, by decide⟩) (by decide +kernel) (by decide)) (by omega)), by omega, (fvR rfl rfl e25)⟩) d_Th_init_78 ?_
  refine nn_aload_n (pc := 81) g.1 d_Th_init_81 rfl (lv_at hl 0 rfl) ?_
  refine nn_sipush (pc := 82) g.1 (v := 4100) d_Th_init_82 (by decide) ?_
  refine nn_arr (pc := 85) (r := 29) (i := t) (N := 4100) (at0 := .int) (m := (m.1 + 11, m.2 + 2211)) g.gn rfl (by decide) ⟨rfl, ht.1, ht.2⟩ (Eq.trans (et (t := t) (f := 3839) (v := 306) (Or.inl ⟨by decide, by decide⟩) (by decide +kernel) (by decide)) (by omega)) (by decide) rfl (by decide) (by decide) (hm.le (by dsimp only; omega) (by dsimp only; omega)) kn_9 d_Th_init_85 fun q85 a29 hk e29 hm => ?_
  have e28 : q85.1 28 t = a28 := (hk 28 t ⟨⟨rfl, ht.1, ht.2⟩, by rw [et (Or.inl ⟨by decide, by decide⟩) (show eoF 3711 = 286 by decide +kernel) (by decide)]; omega⟩).trans e28
  have e19 : q85.1 19 t = a19 := (hk 19 t ⟨⟨rfl, ht.1, ht.2⟩, by rw [et (Or.inl ⟨by decide, by decide⟩) (show eoF 2559 = 288 by decide +kernel) (by decide)]; omega⟩).trans e19
  have e22 : q85.1 22 t = a22 := (hk 22 t ⟨⟨rfl, ht.1, ht.2⟩, by rw [et (Or.inl ⟨by decide, by decide⟩) (show eoF 2943 = 294 by decide +kernel) (by decide)]; omega⟩).trans e22
  have e25 : q85.1 25 t = a25 := (hk 25 t ⟨⟨rfl, ht.1, ht.2⟩, by rw [et (Or.inl ⟨by decide, by decide⟩) (show eoF 3327 = 300 by decide +kernel) (by decide)]; omega⟩).trans e25
  have hkp := hkp.tr hk (by omega)
  refine nn_put (pc := 87) (r := 28) (k := 10) (n' := (308 + t.toNatClampNeg * 45)) g cl_Th ⟨⟨rfl, ht.1, ht.2⟩, by rw [et (Or.inl ⟨by decide, by decide⟩) (show eoF 3711 = 286 by decide +kernel) (by decide)]; omega⟩ (by decide) (Or.inl kn_252) (Or.inr ⟨rfl, hnm, rfl, kn_252⟩) e28 rfl rfl (Or.inl ⟨(Eq.trans (et (t := t) (f := 3594) (v := 307) (Or.inl ⟨by decide, by decide⟩) (by decide +kernel) (by decide)) (by omega)), by omega, (fvR rfl rfl e29)⟩) d_Th_init_87 ?_
  refine nn_aload_n (pc := 90) g.1 d_Th_init_90 rfl (lv_at hl 0 rfl) ?_
  refine nn_sipush (pc := 91) g.1 (v := 201) d_Th_init_91 (by decide) ?_
  refine nn_arr (pc := 94) (r := 30) (i := t) (N := 201) (at0 := .int) (m := (m.1 + 10, m.2 + 2010)) g.gn rfl (by decide) ⟨rfl, ht.1, ht.2⟩ (Eq.trans (et (t := t) (f := 3967) (v := 308) (Or.inl ⟨by decide, by decide⟩) (by decide +kernel) (by decide)) (by omega)) (by decide) rfl (by decide) (by decide) (hm.le (by dsimp only; omega) (by dsimp only; omega)) kn_9 d_Th_init_94 fun q94 a30 hk e30 hm => ?_
  have e28 : q94.1 28 t = a28 := (hk 28 t ⟨⟨rfl, ht.1, ht.2⟩, by rw [et (Or.inl ⟨by decide, by decide⟩) (show eoF 3711 = 286 by decide +kernel) (by decide)]; omega⟩).trans e28
  have e19 : q94.1 19 t = a19 := (hk 19 t ⟨⟨rfl, ht.1, ht.2⟩, by rw [et (Or.inl ⟨by decide, by decide⟩) (show eoF 2559 = 288 by decide +kernel) (by decide)]; omega⟩).trans e19
  have e22 : q94.1 22 t = a22 := (hk 22 t ⟨⟨rfl, ht.1, ht.2⟩, by rw [et (Or.inl ⟨by decide, by decide⟩) (show eoF 2943 = 294 by decide +kernel) (by decide)]; omega⟩).trans e22
  have e25 : q94.1 25 t = a25 := (hk 25 t ⟨⟨rfl, ht.1, ht.2⟩, by rw [et (Or.inl ⟨by decide, by decide⟩) (show eoF 3327 = 300 by decide +kernel) (by decide)]; omega⟩).trans e25
  have e29 : q94.1 29 t = a29 := (hk 29 t ⟨⟨rfl, ht.1, ht.2⟩, by rw [et (Or.inl ⟨by decide, by decide⟩) (show eoF 3839 = 306 by decide +kernel) (by decide)]; omega⟩).trans e29
  have hkp := hkp.tr hk (by omega)
  refine nn_put (pc := 96) (r := 28) (k := 11) (n' := (310 + t.toNatClampNeg * 45)) g cl_Th ⟨⟨rfl, ht.1, ht.2⟩, by rw [et (Or.inl ⟨by decide, by decide⟩) (show eoF 3711 = 286 by decide +kernel) (by decide)]; omega⟩ (by decide) (Or.inl kn_253) (Or.inr ⟨rfl, hnm, rfl, kn_253⟩) e28 rfl rfl (Or.inl ⟨(Eq.trans (et (t := t) (f := 3595) (v := 309) (Or.inl ⟨by decide, by decide⟩) (by decide +kernel) (by decide)) (by omega)), by omega, (fvR rfl rfl e30)⟩) d_Th_init_96 ?_
  refine nn_aload_n (pc := 99) g.1 d_Th_init_99 rfl (lv_at hl 0 rfl) ?_
  refine nn_sipush (pc := 100) g.1 (v := 201) d_Th_init_100 (by decide) ?_
  refine nn_arr (pc := 103) (r := 31) (i := t) (N := 201) (at0 := .int) (m := (m.1 + 9, m.2 + 1809)) g.gn rfl (by decide) ⟨rfl, ht.1, ht.2⟩ (Eq.trans (et (t := t) (f := 4095) (v := 310) (Or.inl ⟨by decide, by decide⟩) (by decide +kernel) (by decide)) (by omega)) (by decide) rfl (by decide) (by decide) (hm.le (by dsimp only; omega) (by dsimp only; omega)) kn_9 d_Th_init_103 fun q103 a31 hk e31 hm => ?_
  have e28 : q103.1 28 t = a28 := (hk 28 t ⟨⟨rfl, ht.1, ht.2⟩, by rw [et (Or.inl ⟨by decide, by decide⟩) (show eoF 3711 = 286 by decide +kernel) (by decide)]; omega⟩).trans e28
  have e19 : q103.1 19 t = a19 := (hk 19 t ⟨⟨rfl, ht.1, ht.2⟩, by rw [et (Or.inl ⟨by decide, by decide⟩) (show eoF 2559 = 288 by decide +kernel) (by decide)]; omega⟩).trans e19
  have e22 : q103.1 22 t = a22 := (hk 22 t ⟨⟨rfl, ht.1, ht.2⟩, by rw [et (Or.inl ⟨by decide, by decide⟩) (show eoF 2943 = 294 by decide +kernel) (by decide)]; omega⟩).trans e22
  have e25 : q103.1 25 t = a25 := (hk 25 t ⟨⟨rfl, ht.1, ht.2⟩, by rw [et (Or.inl ⟨by decide, by decide⟩) (show eoF 3327 = 300 by decide +kernel) (by decide)]; omega⟩).trans e25
  have e29 : q103.1 29 t = a29 := (hk 29 t ⟨⟨rfl, ht.1, ht.2⟩, by rw [et (Or.inl ⟨by decide, by decide⟩) (show eoF 3839 = 306 by decide +kernel) (by decide)]; omega⟩).trans e29
  have e30 : q103.1 30 t = a30 := (hk 30 t ⟨⟨rfl, ht.1, ht.2⟩, by rw [et (Or.inl ⟨by decide, by decide⟩) (show eoF 3967 = 308 by decide +kernel) (by decide)]; omega⟩).trans e30
  have hkp := hkp.tr hk (by omega)
  refine nn_put (pc := 105) (r := 28) (k := 12) (n' := (312 + t.toNatClampNeg * 45)) g cl_Th ⟨⟨rfl, ht.1, ht.2⟩, by rw [et (Or.inl ⟨by decide, by decide⟩) (show eoF 3711 = 286 by decide +kernel) (by decide)]; omega⟩ (by decide) (Or.inl kn_254) (Or.inr ⟨rfl, hnm, rfl, kn_254⟩) e28 rfl rfl (Or.inl ⟨(Eq.trans (et (t := t) (f := 3596) (v := 311) (Or.inl ⟨by decide, by decide⟩) (by decide +kernel) (by decide)) (by omega)), by omega, (fvR rfl rfl e31)⟩) d_Th_init_105 ?_
  refine nn_aload_n (pc := 108) g.1 d_Th_init_108 rfl (lv_at hl 0 rfl) ?_
  refine nn_sipush (pc := 109) g.1 (v := 201) d_Th_init_109 (by decide) ?_
  refine nn_arr (pc := 112) (r := 32) (i := t) (N := 201) (at0 := .int) (m := (m.1 + 8, m.2 + 1608)) g.gn rfl (by decide) ⟨rfl, ht.1, ht.2⟩ (Eq.trans (et (t := t) (f := 4223) (v := 312) (Or.inl ⟨by decide, by decide⟩) (by decide +kernel) (by decide)) (by omega)) (by decide) rfl (by decide) (by decide) (hm.le (by dsimp only; omega) (by dsimp only; omega)) kn_9 d_Th_init_112 fun q112 a32 hk e32 hm => ?_
  have e28 : q112.1 28 t = a28 := (hk 28 t ⟨⟨rfl, ht.1, ht.2⟩, by rw [et (Or.inl ⟨by decide, by decide⟩) (show eoF 3711 = 286 by decide +kernel) (by decide)]; omega⟩).trans e28
  have e19 : q112.1 19 t = a19 := (hk 19 t ⟨⟨rfl, ht.1, ht.2⟩, by rw [et (Or.inl ⟨by decide, by decide⟩) (show eoF 2559 = 288 by decide +kernel) (by decide)]; omega⟩).trans e19
  have e22 : q112.1 22 t = a22 := (hk 22 t ⟨⟨rfl, ht.1, ht.2⟩, by rw [et (Or.inl ⟨by decide, by decide⟩) (show eoF 2943 = 294 by decide +kernel) (by decide)]; omega⟩).trans e22
  have e25 : q112.1 25 t = a25 := (hk 25 t ⟨⟨rfl, ht.1, ht.2⟩, by rw [et (Or.inl ⟨by decide, by decide⟩) (show eoF 3327 = 300 by decide +kernel) (by decide)]; omega⟩).trans e25
  have e29 : q112.1 29 t = a29 := (hk 29 t ⟨⟨rfl, ht.1, ht.2⟩, by rw [et (Or.inl ⟨by decide, by decide⟩) (show eoF 3839 = 306 by decide +kernel) (by decide)]; omega⟩).trans e29
  have e30 : q112.1 30 t = a30 := (hk 30 t ⟨⟨rfl, ht.1, ht.2⟩, by rw [et (Or.inl ⟨by decide, by decide⟩) (show eoF 3967 = 308 by decide +kernel) (by decide)]; omega⟩).trans e30
  have e31 : q112.1 31 t = a31 := (hk 31 t ⟨⟨rfl, ht.1, ht.2⟩, by rw [et (Or.inl ⟨by decide, by decide⟩) (show eoF 4095 = 310 by decide +kernel) (by decide)]; omega⟩).trans e31
  have hkp := hkp.tr hk (by omega)
  refine nn_put (pc := 114) (r := 28) (k := 13) (n' := (314 + t.toNatClampNeg * 45)) g cl_Th ⟨⟨rfl, ht.1, ht.2⟩, by rw [et (Or.inl ⟨by decide, by decide⟩) (show eoF 3711 = 286 by decide +kernel) (by decide)]; omega⟩ (by decide) (Or.inl kn_255) (Or.inr ⟨rfl, hnm, rfl, kn_255⟩) e28 rfl rfl (Or.inl ⟨(Eq.trans (et (t := t) (f := 3597) (v := 313) (Or.inl ⟨by decide, by decide⟩) (by decide +kernel) (by decide)) (by omega)), by omega, (fvR rfl rfl e32)⟩) d_Th_init_114 ?_
  refine nn_aload_n (pc := 117) g.1 d_Th_init_117 rfl (lv_at hl 0 rfl) ?_
  refine nn_sipush (pc := 118) g.1 (v := 201) d_Th_init_118 (by decide) ?_
  refine nn_arr (pc := 121) (r := 33) (i := t) (N := 201) (at0 := .int) (m := (m.1 + 7, m.2 + 1407)) g.gn rfl (by decide) ⟨rfl, ht.1, ht.2⟩ (Eq.trans (et (t := t) (f := 4351) (v := 314) (Or.inl ⟨by decide, by decide⟩) (by decide +kernel) (by decide)) (by omega)) (by decide) rfl (by decide) (by decide) (hm.le (by dsimp only; omega) (by dsimp only; omega)) kn_9 d_Th_init_121 fun q121 a33 hk e33 hm => ?_
  have e28 : q121.1 28 t = a28 := (hk 28 t ⟨⟨rfl, ht.1, ht.2⟩, by rw [et (Or.inl ⟨by decide, by decide⟩) (show eoF 3711 = 286 by decide +kernel) (by decide)]; omega⟩).trans e28
  have e19 : q121.1 19 t = a19 := (hk 19 t ⟨⟨rfl, ht.1, ht.2⟩, by rw [et (Or.inl ⟨by decide, by decide⟩) (show eoF 2559 = 288 by decide +kernel) (by decide)]; omega⟩).trans e19
  have e22 : q121.1 22 t = a22 := (hk 22 t ⟨⟨rfl, ht.1, ht.2⟩, by rw [et (Or.inl ⟨by decide, by decide⟩) (show eoF 2943 = 294 by decide +kernel) (by decide)]; omega⟩).trans e22
  have e25 : q121.1 25 t = a25 := (hk 25 t ⟨⟨rfl, ht.1, ht.2⟩, by rw [et (Or.inl ⟨by decide, by decide⟩) (show eoF 3327 = 300 by decide +kernel) (by decide)]; omega⟩).trans e25
  have e29 : q121.1 29 t = a29 := (hk 29 t ⟨⟨rfl, ht.1, ht.2⟩, by rw [et (Or.inl ⟨by decide, by decide⟩) (show eoF 3839 = 306 by decide +kernel) (by decide)]; omega⟩).trans e29
  have e30 : q121.1 30 t = a30 := (hk 30 t ⟨⟨rfl, ht.1, ht.2⟩, by rw [et (Or.inl ⟨by decide, by decide⟩) (show eoF 3967 = 308 by decide +kernel) (by decide)]; omega⟩).trans e30
  have e31 : q121.1 31 t = a31 := (hk 31 t ⟨⟨rfl, ht.1, ht.2⟩, by rw [et (Or.inl ⟨by decide, by decide⟩) (show eoF 4095 = 310 by decide +kernel) (by decide)]; omega⟩).trans e31
  have e32 : q121.1 32 t = a32 := (hk 32 t ⟨⟨rfl, ht.1, ht.2⟩, by rw [et (Or.inl ⟨by decide, by decide⟩) (show eoF 4223 = 312 by decide +kernel) (by decide)]; omega⟩).trans e32
  have hkp := hkp.tr hk (by omega)
  refine nn_put (pc := 123) (r := 28) (k := 14) (n' := (316 + t.toNatClampNeg * 45)) g cl_Th ⟨⟨rfl, ht.1, ht.2⟩, by rw [et (Or.inl ⟨by decide, by decide⟩) (show eoF 3711 = 286 by decide +kernel) (by decide)]; omega⟩ (by decide) (Or.inl kn_256) (Or.inr ⟨rfl, hnm, rfl, kn_256⟩) e28 rfl rfl (Or.inl ⟨(Eq.trans (et (t := t) (f := 3598) (v := 315) (Or.inl ⟨by decide, by decide⟩) (by decide +kernel) (by decide)) (by omega)), by omega, (fvR rfl rfl e33)⟩) d_Th_init_123 ?_
  refine nn_aload_n (pc := 126) g.1 d_Th_init_126 rfl (lv_at hl 0 rfl) ?_
  refine nn_sipush (pc := 127) g.1 (v := 201) d_Th_init_127 (by decide) ?_
  refine nn_arr (pc := 130) (r := 34) (i := t) (N := 201) (at0 := .int) (m := (m.1 + 6, m.2 + 1206)) g.gn rfl (by decide) ⟨rfl, ht.1, ht.2⟩ (Eq.trans (et (t := t) (f := 4479) (v := 316) (Or.inl ⟨by decide, by decide⟩) (by decide +kernel) (by decide)) (by omega)) (by decide) rfl (by decide) (by decide) (hm.le (by dsimp only; omega) (by dsimp only; omega)) kn_9 d_Th_init_130 fun q130 a34 hk e34 hm => ?_
  have e28 : q130.1 28 t = a28 := (hk 28 t ⟨⟨rfl, ht.1, ht.2⟩, by rw [et (Or.inl ⟨by decide, by decide⟩) (show eoF 3711 = 286 by decide +kernel) (by decide)]; omega⟩).trans e28
  have e19 : q130.1 19 t = a19 := (hk 19 t ⟨⟨rfl, ht.1, ht.2⟩, by rw [et (Or.inl ⟨by decide, by decide⟩) (show eoF 2559 = 288 by decide +kernel) (by decide)]; omega⟩).trans e19
  have e22 : q130.1 22 t = a22 := (hk 22 t ⟨⟨rfl, ht.1, ht.2⟩, by rw [et (Or.inl ⟨by decide, by decide⟩) (show eoF 2943 = 294 by decide +kernel) (by decide)]; omega⟩).trans e22
  have e25 : q130.1 25 t = a25 := (hk 25 t ⟨⟨rfl, ht.1, ht.2⟩, by rw [et (Or.inl ⟨by decide, by decide⟩) (show eoF 3327 = 300 by decide +kernel) (by decide)]; omega⟩).trans e25
  have e29 : q130.1 29 t = a29 := (hk 29 t ⟨⟨rfl, ht.1, ht.2⟩, by rw [et (Or.inl ⟨by decide, by decide⟩) (show eoF 3839 = 306 by decide +kernel) (by decide)]; omega⟩).trans e29
  have e30 : q130.1 30 t = a30 := (hk 30 t ⟨⟨rfl, ht.1, ht.2⟩, by rw [et (Or.inl ⟨by decide, by decide⟩) (show eoF 3967 = 308 by decide +kernel) (by decide)]; omega⟩).trans e30
  have e31 : q130.1 31 t = a31 := (hk 31 t ⟨⟨rfl, ht.1, ht.2⟩, by rw [et (Or.inl ⟨by decide, by decide⟩) (show eoF 4095 = 310 by decide +kernel) (by decide)]; omega⟩).trans e31
  have e32 : q130.1 32 t = a32 := (hk 32 t ⟨⟨rfl, ht.1, ht.2⟩, by rw [et (Or.inl ⟨by decide, by decide⟩) (show eoF 4223 = 312 by decide +kernel) (by decide)]; omega⟩).trans e32
  have e33 : q130.1 33 t = a33 := (hk 33 t ⟨⟨rfl, ht.1, ht.2⟩, by rw [et (Or.inl ⟨by decide, by decide⟩) (show eoF 4351 = 314 by decide +kernel) (by decide)]; omega⟩).trans e33
  have hkp := hkp.tr hk (by omega)
  refine nn_put (pc := 132) (r := 28) (k := 15) (n' := (318 + t.toNatClampNeg * 45)) g cl_Th ⟨⟨rfl, ht.1, ht.2⟩, by rw [et (Or.inl ⟨by decide, by decide⟩) (show eoF 3711 = 286 by decide +kernel) (by decide)]; omega⟩ (by decide) (Or.inl kn_257) (Or.inr ⟨rfl, hnm, rfl, kn_257⟩) e28 rfl rfl (Or.inl ⟨(Eq.trans (et (t := t) (f := 3599) (v := 317) (Or.inl ⟨by decide, by decide⟩) (by decide +kernel) (by decide)) (by omega)), by omega, (fvR rfl rfl e34)⟩) d_Th_init_132 ?_
  refine nn_aload_n (pc := 135) g.1 d_Th_init_135 rfl (lv_at hl 0 rfl) ?_
  refine nn_sipush (pc := 136) g.1 (v := 201) d_Th_init_136 (by decide) ?_
  refine nn_arr (pc := 139) (r := 35) (i := t) (N := 201) (at0 := .int) (m := (m.1 + 5, m.2 + 1005)) g.gn rfl (by decide) ⟨rfl, ht.1, ht.2⟩ (Eq.trans (et (t := t) (f := 4607) (v := 318) (Or.inl ⟨by decide, by decide⟩) (by decide +kernel) (by decide)) (by omega)) (by decide) rfl (by decide) (by decide) (hm.le (by dsimp only; omega) (by dsimp only; omega)) kn_9 d_Th_init_139 fun q139 a35 hk e35 hm => ?_
  have e28 : q139.1 28 t = a28 := (hk 28 t ⟨⟨rfl, ht.1, ht.2⟩, by rw [et (Or.inl ⟨by decide, by decide⟩) (show eoF 3711 = 286 by decide +kernel) (by decide)]; omega⟩).trans e28
  have e19 : q139.1 19 t = a19 := (hk 19 t ⟨⟨rfl, ht.1, ht.2⟩, by rw [et (Or.inl ⟨by decide, by decide⟩) (show eoF 2559 = 288 by decide +kernel) (by decide)]; omega⟩).trans e19
  have e22 : q139.1 22 t = a22 := (hk 22 t ⟨⟨rfl, ht.1, ht.2⟩, by rw [et (Or.inl ⟨by decide, by decide⟩) (show eoF 2943 = 294 by decide +kernel) (by decide)]; omega⟩).trans e22
  have e25 : q139.1 25 t = a25 := (hk 25 t ⟨⟨rfl, ht.1, ht.2⟩, by rw [et (Or.inl ⟨by decide, by decide⟩) (show eoF 3327 = 300 by decide +kernel) (by decide)]; omega⟩).trans e25
  have e29 : q139.1 29 t = a29 := (hk 29 t ⟨⟨rfl, ht.1, ht.2⟩, by rw [et (Or.inl ⟨by decide, by decide⟩) (show eoF 3839 = 306 by decide +kernel) (by decide)]; omega⟩).trans e29
  have e30 : q139.1 30 t = a30 := (hk 30 t ⟨⟨rfl, ht.1, ht.2⟩, by rw [et (Or.inl ⟨by decide, by decide⟩) (show eoF 3967 = 308 by decide +kernel) (by decide)]; omega⟩).trans e30
  have e31 : q139.1 31 t = a31 := (hk 31 t ⟨⟨rfl, ht.1, ht.2⟩, by rw [et (Or.inl ⟨by decide, by decide⟩) (show eoF 4095 = 310 by decide +kernel) (by decide)]; omega⟩).trans e31
  have e32 : q139.1 32 t = a32 := (hk 32 t ⟨⟨rfl, ht.1, ht.2⟩, by rw [et (Or.inl ⟨by decide, by decide⟩) (show eoF 4223 = 312 by decide +kernel) (by decide)]; omega⟩).trans e32
  have e33 : q139.1 33 t = a33 := (hk 33 t ⟨⟨rfl, ht.1, ht.2⟩, by rw [et (Or.inl ⟨by decide, by decide⟩) (show eoF 4351 = 314 by decide +kernel) (by decide)]; omega⟩).trans e33
  have e34 : q139.1 34 t = a34 := (hk 34 t ⟨⟨rfl, ht.1, ht.2⟩, by rw [et (Or.inl ⟨by decide, by decide⟩) (show eoF 4479 = 316 by decide +kernel) (by decide)]; omega⟩).trans e34
  have hkp := hkp.tr hk (by omega)
  refine nn_put (pc := 141) (r := 28) (k := 16) (n' := (320 + t.toNatClampNeg * 45)) g cl_Th ⟨⟨rfl, ht.1, ht.2⟩, by rw [et (Or.inl ⟨by decide, by decide⟩) (show eoF 3711 = 286 by decide +kernel) (by decide)]; omega⟩ (by decide) (Or.inl kn_258) (Or.inr ⟨rfl, hnm, rfl, kn_258⟩) e28 rfl rfl (Or.inl ⟨(Eq.trans (et (t := t) (f := 3600) (v := 319) (Or.inl ⟨by decide, by decide⟩) (by decide +kernel) (by decide)) (by omega)), by omega, (fvR rfl rfl e35)⟩) d_Th_init_141 ?_
  refine nn_aload_n (pc := 144) g.1 d_Th_init_144 rfl (lv_at hl 0 rfl) ?_
  refine nn_sipush (pc := 145) g.1 (v := 201) d_Th_init_145 (by decide) ?_
  refine nn_arr (pc := 148) (r := 36) (i := t) (N := 201) (at0 := .int) (m := (m.1 + 4, m.2 + 804)) g.gn rfl (by decide) ⟨rfl, ht.1, ht.2⟩ (Eq.trans (et (t := t) (f := 4735) (v := 320) (Or.inl ⟨by decide, by decide⟩) (by decide +kernel) (by decide)) (by omega)) (by decide) rfl (by decide) (by decide) (hm.le (by dsimp only; omega) (by dsimp only; omega)) kn_9 d_Th_init_148 fun q148 a36 hk e36 hm => ?_
  have e28 : q148.1 28 t = a28 := (hk 28 t ⟨⟨rfl, ht.1, ht.2⟩, by rw [et (Or.inl ⟨by decide, by decide⟩) (show eoF 3711 = 286 by decide +kernel) (by decide)]; omega⟩).trans e28
  have e19 : q148.1 19 t = a19 := (hk 19 t ⟨⟨rfl, ht.1, ht.2⟩, by rw [et (Or.inl ⟨by decide, by decide⟩) (show eoF 2559 = 288 by decide +kernel) (by decide)]; omega⟩).trans e19
  have e22 : q148.1 22 t = a22 := (hk 22 t ⟨⟨rfl, ht.1, ht.2⟩, by rw [et (Or.inl ⟨by decide, by decide⟩) (show eoF 2943 = 294 by decide +kernel) (by decide)]; omega⟩).trans e22
  have e25 : q148.1 25 t = a25 := (hk 25 t ⟨⟨rfl, ht.1, ht.2⟩, by rw [et (Or.inl ⟨by decide, by decide⟩) (show eoF 3327 = 300 by decide +kernel) (by decide)]; omega⟩).trans e25
  have e29 : q148.1 29 t = a29 := (hk 29 t ⟨⟨rfl, ht.1, ht.2⟩, by rw [et (Or.inl ⟨by decide, by decide⟩) (show eoF 3839 = 306 by decide +kernel) (by decide)]; omega⟩).trans e29
  have e30 : q148.1 30 t = a30 := (hk 30 t ⟨⟨rfl, ht.1, ht.2⟩, by rw [et (Or.inl ⟨by decide, by decide⟩) (show eoF 3967 = 308 by decide +kernel) (by decide)]; omega⟩).trans e30
  have e31 : q148.1 31 t = a31 := (hk 31 t ⟨⟨rfl, ht.1, ht.2⟩, by rw [et (Or.inl ⟨by decide, by decide⟩) (show eoF 4095 = 310 by decide +kernel) (by decide)]; omega⟩).trans e31
  have e32 : q148.1 32 t = a32 := (hk 32 t ⟨⟨rfl, ht.1, ht.2⟩, by rw [et (Or.inl ⟨by decide, by decide⟩) (show eoF 4223 = 312 by decide +kernel) (by decide)]; omega⟩).trans e32
  have e33 : q148.1 33 t = a33 := (hk 33 t ⟨⟨rfl, ht.1, ht.2⟩, by rw [et (Or.inl ⟨by decide, by decide⟩) (show eoF 4351 = 314 by decide +kernel) (by decide)]; omega⟩).trans e33
  have e34 : q148.1 34 t = a34 := (hk 34 t ⟨⟨rfl, ht.1, ht.2⟩, by rw [et (Or.inl ⟨by decide, by decide⟩) (show eoF 4479 = 316 by decide +kernel) (by decide)]; omega⟩).trans e34
  have e35 : q148.1 35 t = a35 := (hk 35 t ⟨⟨rfl, ht.1, ht.2⟩, by rw [et (Or.inl ⟨by decide, by decide⟩) (show eoF 4607 = 318 by decide +kernel) (by decide)]; omega⟩).trans e35
  have hkp := hkp.tr hk (by omega)
  refine nn_put (pc := 150) (r := 28) (k := 17) (n' := (322 + t.toNatClampNeg * 45)) g cl_Th ⟨⟨rfl, ht.1, ht.2⟩, by rw [et (Or.inl ⟨by decide, by decide⟩) (show eoF 3711 = 286 by decide +kernel) (by decide)]; omega⟩ (by decide) (Or.inl kn_259) (Or.inr ⟨rfl, hnm, rfl, kn_259⟩) e28 rfl rfl (Or.inl ⟨(Eq.trans (et (t := t) (f := 3601) (v := 321) (Or.inl ⟨by decide, by decide⟩) (by decide +kernel) (by decide)) (by omega)), by omega, (fvR rfl rfl e36)⟩) d_Th_init_150 ?_
  refine nn_aload_n (pc := 153) g.1 d_Th_init_153 rfl (lv_at hl 0 rfl) ?_
  refine nn_sipush (pc := 154) g.1 (v := 201) d_Th_init_154 (by decide) ?_
  refine nn_arr (pc := 157) (r := 37) (i := t) (N := 201) (at0 := .int) (m := (m.1 + 3, m.2 + 603)) g.gn rfl (by decide) ⟨rfl, ht.1, ht.2⟩ (Eq.trans (et (t := t) (f := 4863) (v := 322) (Or.inl ⟨by decide, by decide⟩) (by decide +kernel) (by decide)) (by omega)) (by decide) rfl (by decide) (by decide) (hm.le (by dsimp only; omega) (by dsimp only; omega)) kn_9 d_Th_init_157 fun q157 a37 hk e37 hm => ?_
  have e28 : q157.1 28 t = a28 := (hk 28 t ⟨⟨rfl, ht.1, ht.2⟩, by rw [et (Or.inl ⟨by decide, by decide⟩) (show eoF 3711 = 286 by decide +kernel) (by decide)]; omega⟩).trans e28
  have e19 : q157.1 19 t = a19 := (hk 19 t ⟨⟨rfl, ht.1, ht.2⟩, by rw [et (Or.inl ⟨by decide, by decide⟩) (show eoF 2559 = 288 by decide +kernel) (by decide)]; omega⟩).trans e19
  have e22 : q157.1 22 t = a22 := (hk 22 t ⟨⟨rfl, ht.1, ht.2⟩, by rw [et (Or.inl ⟨by decide, by decide⟩) (show eoF 2943 = 294 by decide +kernel) (by decide)]; omega⟩).trans e22
  have e25 : q157.1 25 t = a25 := (hk 25 t ⟨⟨rfl, ht.1, ht.2⟩, by rw [et (Or.inl ⟨by decide, by decide⟩) (show eoF 3327 = 300 by decide +kernel) (by decide)]; omega⟩).trans e25
  have e29 : q157.1 29 t = a29 := (hk 29 t ⟨⟨rfl, ht.1, ht.2⟩, by rw [et (Or.inl ⟨by decide, by decide⟩) (show eoF 3839 = 306 by decide +kernel) (by decide)]; omega⟩).trans e29
  have e30 : q157.1 30 t = a30 := (hk 30 t ⟨⟨rfl, ht.1, ht.2⟩, by rw [et (Or.inl ⟨by decide, by decide⟩) (show eoF 3967 = 308 by decide +kernel) (by decide)]; omega⟩).trans e30
  have e31 : q157.1 31 t = a31 := (hk 31 t ⟨⟨rfl, ht.1, ht.2⟩, by rw [et (Or.inl ⟨by decide, by decide⟩) (show eoF 4095 = 310 by decide +kernel) (by decide)]; omega⟩).trans e31
  have e32 : q157.1 32 t = a32 := (hk 32 t ⟨⟨rfl, ht.1, ht.2⟩, by rw [et (Or.inl ⟨by decide, by decide⟩) (show eoF 4223 = 312 by decide +kernel) (by decide)]; omega⟩).trans e32
  have e33 : q157.1 33 t = a33 := (hk 33 t ⟨⟨rfl, ht.1, ht.2⟩, by rw [et (Or.inl ⟨by decide, by decide⟩) (show eoF 4351 = 314 by decide +kernel) (by decide)]; omega⟩).trans e33
  have e34 : q157.1 34 t = a34 := (hk 34 t ⟨⟨rfl, ht.1, ht.2⟩, by rw [et (Or.inl ⟨by decide, by decide⟩) (show eoF 4479 = 316 by decide +kernel) (by decide)]; omega⟩).trans e34
  have e35 : q157.1 35 t = a35 := (hk 35 t ⟨⟨rfl, ht.1, ht.2⟩, by rw [et (Or.inl ⟨by decide, by decide⟩) (show eoF 4607 = 318 by decide +kernel) (by decide)]; omega⟩).trans e35
  have e36 : q157.1 36 t = a36 := (hk 36 t ⟨⟨rfl, ht.1, ht.2⟩, by rw [et (Or.inl ⟨by decide, by decide⟩) (show eoF 4735 = 320 by decide +kernel) (by decide)]; omega⟩).trans e36
  have hkp := hkp.tr hk (by omega)
  refine nn_put (pc := 159) (r := 28) (k := 18) (n' := (324 + t.toNatClampNeg * 45)) g cl_Th ⟨⟨rfl, ht.1, ht.2⟩, by rw [et (Or.inl ⟨by decide, by decide⟩) (show eoF 3711 = 286 by decide +kernel) (by decide)]; omega⟩ (by decide) (Or.inl kn_260) (Or.inr ⟨rfl, hnm, rfl, kn_260⟩) e28 rfl rfl (Or.inl ⟨(Eq.trans (et (t := t) (f := 3602) (v := 323) (Or.inl ⟨by decide, by decide⟩) (by decide +kernel) (by decide)) (by omega)), by omega, (fvR rfl rfl e37)⟩) d_Th_init_159 ?_
  refine nn_aload_n (pc := 162) g.1 d_Th_init_162 rfl (lv_at hl 0 rfl) ?_
  refine nn_sipush (pc := 163) g.1 (v := 201) d_Th_init_163 (by decide) ?_
  refine nn_arr (pc := 166) (r := 38) (i := t) (N := 201) (at0 := .int) (m := (m.1 + 2, m.2 + 402)) g.gn rfl (by decide) ⟨rfl, ht.1, ht.2⟩ (Eq.trans (et (t := t) (f := 4991) (v := 324) (Or.inl ⟨by decide, by decide⟩) (by decide +kernel) (by decide)) (by omega)) (by decide) rfl (by decide) (by decide) (hm.le (by dsimp only; omega) (by dsimp only; omega)) kn_9 d_Th_init_166 fun q166 a38 hk e38 hm => ?_
  have e28 : q166.1 28 t = a28 := (hk 28 t ⟨⟨rfl, ht.1, ht.2⟩, by rw [et (Or.inl ⟨by decide, by decide⟩) (show eoF 3711 = 286 by decide +kernel) (by decide)]; omega⟩).trans e28
  have e19 : q166.1 19 t = a19 := (hk 19 t ⟨⟨rfl, ht.1, ht.2⟩, by rw [et (Or.inl ⟨by decide, by decide⟩) (show eoF 2559 = 288 by decide +kernel) (by decide)]; omega⟩).trans e19
  have e22 : q166.1 22 t = a22 := (hk 22 t ⟨⟨rfl, ht.1, ht.2⟩, by rw [et (Or.inl ⟨by decide, by decide⟩) (show eoF 2943 = 294 by decide +kernel) (by decide)]; omega⟩).trans e22
  have e25 : q166.1 25 t = a25 := (hk 25 t ⟨⟨rfl, ht.1, ht.2⟩, by rw [et (Or.inl ⟨by decide, by decide⟩) (show eoF 3327 = 300 by decide +kernel) (by decide)]; omega⟩).trans e25
  have e29 : q166.1 29 t = a29 := (hk 29 t ⟨⟨rfl, ht.1, ht.2⟩, by rw [et (Or.inl ⟨by decide, by decide⟩) (show eoF 3839 = 306 by decide +kernel) (by decide)]; omega⟩).trans e29
  have e30 : q166.1 30 t = a30 := (hk 30 t ⟨⟨rfl, ht.1, ht.2⟩, by rw [et (Or.inl ⟨by decide, by decide⟩) (show eoF 3967 = 308 by decide +kernel) (by decide)]; omega⟩).trans e30
  have e31 : q166.1 31 t = a31 := (hk 31 t ⟨⟨rfl, ht.1, ht.2⟩, by rw [et (Or.inl ⟨by decide, by decide⟩) (show eoF 4095 = 310 by decide +kernel) (by decide)]; omega⟩).trans e31
  have e32 : q166.1 32 t = a32 := (hk 32 t ⟨⟨rfl, ht.1, ht.2⟩, by rw [et (Or.inl ⟨by decide, by decide⟩) (show eoF 4223 = 312 by decide +kernel) (by decide)]; omega⟩).trans e32
  have e33 : q166.1 33 t = a33 := (hk 33 t ⟨⟨rfl, ht.1, ht.2⟩, by rw [et (Or.inl ⟨by decide, by decide⟩) (show eoF 4351 = 314 by decide +kernel) (by decide)]; omega⟩).trans e33
  have e34 : q166.1 34 t = a34 := (hk 34 t ⟨⟨rfl, ht.1, ht.2⟩, by rw [et (Or.inl ⟨by decide, by decide⟩) (show eoF 4479 = 316 by decide +kernel) (by decide)]; omega⟩).trans e34
  have e35 : q166.1 35 t = a35 := (hk 35 t ⟨⟨rfl, ht.1, ht.2⟩, by rw [et (Or.inl ⟨by decide, by decide⟩) (show eoF 4607 = 318 by decide +kernel) (by decide)]; omega⟩).trans e35
  have e36 : q166.1 36 t = a36 := (hk 36 t ⟨⟨rfl, ht.1, ht.2⟩, by rw [et (Or.inl ⟨by decide, by decide⟩) (show eoF 4735 = 320 by decide +kernel) (by decide)]; omega⟩).trans e36
  have e37 : q166.1 37 t = a37 := (hk 37 t ⟨⟨rfl, ht.1, ht.2⟩, by rw [et (Or.inl ⟨by decide, by decide⟩) (show eoF 4863 = 322 by decide +kernel) (by decide)]; omega⟩).trans e37
  have hkp := hkp.tr hk (by omega)
  refine nn_put (pc := 168) (r := 28) (k := 19) (n' := (326 + t.toNatClampNeg * 45)) g cl_Th ⟨⟨rfl, ht.1, ht.2⟩, by rw [et (Or.inl ⟨by decide, by decide⟩) (show eoF 3711 = 286 by decide +kernel) (by decide)]; omega⟩ (by decide) (Or.inl kn_261) (Or.inr ⟨rfl, hnm, rfl, kn_261⟩) e28 rfl rfl (Or.inl ⟨(Eq.trans (et (t := t) (f := 3603) (v := 325) (Or.inl ⟨by decide, by decide⟩) (by decide +kernel) (by decide)) (by omega)), by omega, (fvR rfl rfl e38)⟩) d_Th_init_168 ?_
  refine nn_aload_n (pc := 171) g.1 d_Th_init_171 rfl (lv_at hl 0 rfl) ?_
  refine nn_sipush (pc := 172) g.1 (v := 201) d_Th_init_172 (by decide) ?_
  refine nn_arr (pc := 175) (r := 39) (i := t) (N := 201) (at0 := .int) (m := (m.1 + 1, m.2 + 201)) g.gn rfl (by decide) ⟨rfl, ht.1, ht.2⟩ (Eq.trans (et (t := t) (f := 5119) (v := 326) (Or.inl ⟨by decide, by decide⟩) (by decide +kernel) (by decide)) (by omega)) (by decide) rfl (by decide) (by decide) (hm.le (by dsimp only; omega) (by dsimp only; omega)) kn_9 d_Th_init_175 fun q175 a39 hk e39 hm => ?_
  have e28 : q175.1 28 t = a28 := (hk 28 t ⟨⟨rfl, ht.1, ht.2⟩, by rw [et (Or.inl ⟨by decide, by decide⟩) (show eoF 3711 = 286 by decide +kernel) (by decide)]; omega⟩).trans e28
  have e19 : q175.1 19 t = a19 := (hk 19 t ⟨⟨rfl, ht.1, ht.2⟩, by rw [et (Or.inl ⟨by decide, by decide⟩) (show eoF 2559 = 288 by decide +kernel) (by decide)]; omega⟩).trans e19
  have e22 : q175.1 22 t = a22 := (hk 22 t ⟨⟨rfl, ht.1, ht.2⟩, by rw [et (Or.inl ⟨by decide, by decide⟩) (show eoF 2943 = 294 by decide +kernel) (by decide)]; omega⟩).trans e22
  have e25 : q175.1 25 t = a25 := (hk 25 t ⟨⟨rfl, ht.1, ht.2⟩, by rw [et (Or.inl ⟨by decide, by decide⟩) (show eoF 3327 = 300 by decide +kernel) (by decide)]; omega⟩).trans e25
  have e29 : q175.1 29 t = a29 := (hk 29 t ⟨⟨rfl, ht.1, ht.2⟩, by rw [et (Or.inl ⟨by decide, by decide⟩) (show eoF 3839 = 306 by decide +kernel) (by decide)]; omega⟩).trans e29
  have e30 : q175.1 30 t = a30 := (hk 30 t ⟨⟨rfl, ht.1, ht.2⟩, by rw [et (Or.inl ⟨by decide, by decide⟩) (show eoF 3967 = 308 by decide +kernel) (by decide)]; omega⟩).trans e30
  have e31 : q175.1 31 t = a31 := (hk 31 t ⟨⟨rfl, ht.1, ht.2⟩, by rw [et (Or.inl ⟨by decide, by decide⟩) (show eoF 4095 = 310 by decide +kernel) (by decide)]; omega⟩).trans e31
  have e32 : q175.1 32 t = a32 := (hk 32 t ⟨⟨rfl, ht.1, ht.2⟩, by rw [et (Or.inl ⟨by decide, by decide⟩) (show eoF 4223 = 312 by decide +kernel) (by decide)]; omega⟩).trans e32
  have e33 : q175.1 33 t = a33 := (hk 33 t ⟨⟨rfl, ht.1, ht.2⟩, by rw [et (Or.inl ⟨by decide, by decide⟩) (show eoF 4351 = 314 by decide +kernel) (by decide)]; omega⟩).trans e33
  have e34 : q175.1 34 t = a34 := (hk 34 t ⟨⟨rfl, ht.1, ht.2⟩, by rw [et (Or.inl ⟨by decide, by decide⟩) (show eoF 4479 = 316 by decide +kernel) (by decide)]; omega⟩).trans e34
  have e35 : q175.1 35 t = a35 := (hk 35 t ⟨⟨rfl, ht.1, ht.2⟩, by rw [et (Or.inl ⟨by decide, by decide⟩) (show eoF 4607 = 318 by decide +kernel) (by decide)]; omega⟩).trans e35
  have e36 : q175.1 36 t = a36 := (hk 36 t ⟨⟨rfl, ht.1, ht.2⟩, by rw [et (Or.inl ⟨by decide, by decide⟩) (show eoF 4735 = 320 by decide +kernel) (by decide)]; omega⟩).trans e36
  have e37 : q175.1 37 t = a37 := (hk 37 t ⟨⟨rfl, ht.1, ht.2⟩, by rw [et (Or.inl ⟨by decide, by decide⟩) (show eoF 4863 = 322 by decide +kernel) (by decide)]; omega⟩).trans e37
  have e38 : q175.1 38 t = a38 := (hk 38 t ⟨⟨rfl, ht.1, ht.2⟩, by rw [et (Or.inl ⟨by decide, by decide⟩) (show eoF 4991 = 324 by decide +kernel) (by decide)]; omega⟩).trans e38
  have hkp := hkp.tr hk (by omega)
  refine nn_put (pc := 177) (r := 28) (k := 20) (n' := (328 + t.toNatClampNeg * 45)) g cl_Th ⟨⟨rfl, ht.1, ht.2⟩, by rw [et (Or.inl ⟨by decide, by decide⟩) (show eoF 3711 = 286 by decide +kernel) (by decide)]; omega⟩ (by decide) (Or.inl kn_262) (Or.inr ⟨rfl, hnm, rfl, kn_262⟩) e28 rfl rfl (Or.inl ⟨(Eq.trans (et (t := t) (f := 3604) (v := 327) (Or.inl ⟨by decide, by decide⟩) (by decide +kernel) (by decide)) (by omega)), by omega, (fvR rfl rfl e39)⟩) d_Th_init_177 ?_
  refine nn_aload_n (pc := 180) g.1 d_Th_init_180 rfl (lv_at hl 0 rfl) ?_
  refine nn_sipush (pc := 181) g.1 (v := 201) d_Th_init_181 (by decide) ?_
  refine nn_arr (pc := 184) (r := 40) (i := t) (N := 201) (at0 := .int) (m := (m.1 + 0, m.2 + 0)) g.gn rfl (by decide) ⟨rfl, ht.1, ht.2⟩ (Eq.trans (et (t := t) (f := 5247) (v := 328) (Or.inl ⟨by decide, by decide⟩) (by decide +kernel) (by decide)) (by omega)) (by decide) rfl (by decide) (by decide) (hm.le (by dsimp only; omega) (by dsimp only; omega)) kn_9 d_Th_init_184 fun q184 a40 hk e40 hm => ?_
  have e28 : q184.1 28 t = a28 := (hk 28 t ⟨⟨rfl, ht.1, ht.2⟩, by rw [et (Or.inl ⟨by decide, by decide⟩) (show eoF 3711 = 286 by decide +kernel) (by decide)]; omega⟩).trans e28
  have e19 : q184.1 19 t = a19 := (hk 19 t ⟨⟨rfl, ht.1, ht.2⟩, by rw [et (Or.inl ⟨by decide, by decide⟩) (show eoF 2559 = 288 by decide +kernel) (by decide)]; omega⟩).trans e19
  have e22 : q184.1 22 t = a22 := (hk 22 t ⟨⟨rfl, ht.1, ht.2⟩, by rw [et (Or.inl ⟨by decide, by decide⟩) (show eoF 2943 = 294 by decide +kernel) (by decide)]; omega⟩).trans e22
  have e25 : q184.1 25 t = a25 := (hk 25 t ⟨⟨rfl, ht.1, ht.2⟩, by rw [et (Or.inl ⟨by decide, by decide⟩) (show eoF 3327 = 300 by decide +kernel) (by decide)]; omega⟩).trans e25
  have e29 : q184.1 29 t = a29 := (hk 29 t ⟨⟨rfl, ht.1, ht.2⟩, by rw [et (Or.inl ⟨by decide, by decide⟩) (show eoF 3839 = 306 by decide +kernel) (by decide)]; omega⟩).trans e29
  have e30 : q184.1 30 t = a30 := (hk 30 t ⟨⟨rfl, ht.1, ht.2⟩, by rw [et (Or.inl ⟨by decide, by decide⟩) (show eoF 3967 = 308 by decide +kernel) (by decide)]; omega⟩).trans e30
  have e31 : q184.1 31 t = a31 := (hk 31 t ⟨⟨rfl, ht.1, ht.2⟩, by rw [et (Or.inl ⟨by decide, by decide⟩) (show eoF 4095 = 310 by decide +kernel) (by decide)]; omega⟩).trans e31
  have e32 : q184.1 32 t = a32 := (hk 32 t ⟨⟨rfl, ht.1, ht.2⟩, by rw [et (Or.inl ⟨by decide, by decide⟩) (show eoF 4223 = 312 by decide +kernel) (by decide)]; omega⟩).trans e32
  have e33 : q184.1 33 t = a33 := (hk 33 t ⟨⟨rfl, ht.1, ht.2⟩, by rw [et (Or.inl ⟨by decide, by decide⟩) (show eoF 4351 = 314 by decide +kernel) (by decide)]; omega⟩).trans e33
  have e34 : q184.1 34 t = a34 := (hk 34 t ⟨⟨rfl, ht.1, ht.2⟩, by rw [et (Or.inl ⟨by decide, by decide⟩) (show eoF 4479 = 316 by decide +kernel) (by decide)]; omega⟩).trans e34
  have e35 : q184.1 35 t = a35 := (hk 35 t ⟨⟨rfl, ht.1, ht.2⟩, by rw [et (Or.inl ⟨by decide, by decide⟩) (show eoF 4607 = 318 by decide +kernel) (by decide)]; omega⟩).trans e35
  have e36 : q184.1 36 t = a36 := (hk 36 t ⟨⟨rfl, ht.1, ht.2⟩, by rw [et (Or.inl ⟨by decide, by decide⟩) (show eoF 4735 = 320 by decide +kernel) (by decide)]; omega⟩).trans e36
  have e37 : q184.1 37 t = a37 := (hk 37 t ⟨⟨rfl, ht.1, ht.2⟩, by rw [et (Or.inl ⟨by decide, by decide⟩) (show eoF 4863 = 322 by decide +kernel) (by decide)]; omega⟩).trans e37
  have e38 : q184.1 38 t = a38 := (hk 38 t ⟨⟨rfl, ht.1, ht.2⟩, by rw [et (Or.inl ⟨by decide, by decide⟩) (show eoF 4991 = 324 by decide +kernel) (by decide)]; omega⟩).trans e38
  have e39 : q184.1 39 t = a39 := (hk 39 t ⟨⟨rfl, ht.1, ht.2⟩, by rw [et (Or.inl ⟨by decide, by decide⟩) (show eoF 5119 = 326 by decide +kernel) (by decide)]; omega⟩).trans e39
  have hkp := hkp.tr hk (by omega)
  refine nn_put (pc := 186) (r := 28) (k := 21) (n' := (330 + t.toNatClampNeg * 45)) g cl_Th ⟨⟨rfl, ht.1, ht.2⟩, by rw [et (Or.inl ⟨by decide, by decide⟩) (show eoF 3711 = 286 by decide +kernel) (by decide)]; omega⟩ (by decide) (Or.inl kn_263) (Or.inr ⟨rfl, hnm, rfl, kn_263⟩) e28 rfl rfl (Or.inl ⟨(Eq.trans (et (t := t) (f := 3605) (v := 329) (Or.inl ⟨by decide, by decide⟩) (by decide +kernel) (by decide)) (by omega)), by omega, (fvR rfl rfl e40)⟩) d_Th_init_186 ?_
  exact nn_ret (pc := 189) g hR hkp (hm.le (by dsimp only; omega) (by dsimp only; omega)) d_Th_init_189
