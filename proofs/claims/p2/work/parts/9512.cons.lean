theorem cn_LM_100 {l : Launch} {P : PP} {q : PL} {m : Nat × Nat} (hm : Rnn P q (m.1 + 43, m.2 + 532488)) {a100 : Nat} (e100 : q.1 100 0 = a100) : CtN l y_LM_init b_LM_init 2 4 83 P q 2 [.ref a100] m 104 := by
  refine ctN_of (by decide) rfl (Nat.le_of_ble_eq_true rfl) fun X ls eP el g hnm hR hl => ?_
  subst eP
  have hkp : Kpp 2 q q := Kpp.rf
  have hl : lv_has ls 2 [(0, .ref a100)] := hl
  refine nn_aload_n (pc := 0) g.1 d_LM_init_0 rfl (lv_at hl 0 rfl) ?_
  refine nn_obj (pc := 1) g.gn kn_0 kn_1 kn_2 ⟨by decide, by decide⟩ hl.1 (Nat.le_of_ble_eq_true rfl) d_LM_init_1 ?_
  refine nn_aload_n (pc := 4) g.1 d_LM_init_4 rfl (lv_at hl 0 rfl) ?_
  refine nn_new (pc := 5) (r := 101) (i := 0) (m := (m.1 + 42, m.2 + 532471)) g.gn cl_Ch (by unfold dvC; decide +kernel) ⟨rfl, by decide, by decide⟩ (by decide +kernel) (hm.le (by dsimp only; omega) (by have z : nfF 101 = 17 := rfl; dsimp only; omega)) kn_3 kn_4 kn_5 d_LM_init_5 fun q5 a101 hk e101 hm => ?_
  have e100 : q5.1 100 0 = a100 := (hk 100 0 ⟨⟨rfl, by decide, by decide⟩, by decide +kernel⟩).trans e100
  have hkp := hkp.tr hk (by decide)
  refine nn_dup (pc := 8) g.1 d_LM_init_8 rfl ?_
  refine nn_call (pc := 9) (rest := [.ref a101, .ref a100]) (m := (m.1 + 33, m.2 + 391395)) (As := []) g.gn ci_Ch_init (Or.inr ⟨"LuaMachine", kxn_1⟩) (cn_Ch_101 (hm.le (by dsimp only; omega) (by dsimp only; omega)) e101) (hm.le (by dsimp only; omega) (by dsimp only; omega)) ⟨by decide, by decide⟩ rfl hl.1 (Nat.le_of_ble_eq_true rfl) d_LM_init_9 rfl fun q9 hk hm => ?_
  have e100 : q9.1 100 0 = a100 := (hk 100 0 ⟨⟨rfl, by decide, by decide⟩, by decide +kernel⟩).trans e100
  have e101 : q9.1 101 0 = a101 := (hk 101 0 ⟨⟨rfl, by decide, by decide⟩, by decide +kernel⟩).trans e101
  have hkp := hkp.tr hk (by decide)
  refine nn_put (pc := 12) (r := 100) (k := 2) (n' := 23) g cl_LM ⟨⟨rfl, by decide, by decide⟩, by decide +kernel⟩ (by decide) (Or.inl kn_24) (Or.inr ⟨rfl, hnm, rfl, kn_24⟩) e100 rfl rfl (Or.inl ⟨(by decide +kernel), rfl, (fvR rfl rfl e101)⟩) d_LM_init_12 ?_
  refine nn_aload_n (pc := 15) g.1 d_LM_init_15 rfl (lv_at hl 0 rfl) ?_
  refine nn_new (pc := 16) (r := 111) (i := 0) (m := (m.1 + 32, m.2 + 391379)) g.gn cl_He (by unfold dvC; decide +kernel) ⟨rfl, by decide, by decide⟩ (by decide +kernel) (hm.le (by dsimp only; omega) (by have z : nfF 111 = 16 := rfl; dsimp only; omega)) kn_25 kn_26 kn_27 d_LM_init_16 fun q16 a111 hk e111 hm => ?_
  have e100 : q16.1 100 0 = a100 := (hk 100 0 ⟨⟨rfl, by decide, by decide⟩, by decide +kernel⟩).trans e100
  have e101 : q16.1 101 0 = a101 := (hk 101 0 ⟨⟨rfl, by decide, by decide⟩, by decide +kernel⟩).trans e101
  have hkp := hkp.tr hk (by decide)
  refine nn_dup (pc := 19) g.1 d_LM_init_19 rfl ?_
  refine nn_call (pc := 20) (rest := [.ref a111, .ref a100]) (m := (m.1 + 24, m.2 + 374155)) (As := []) g.gn ci_He_init (Or.inr ⟨"LuaMachine", kxn_4⟩) (cn_He_111 (hm.le (by dsimp only; omega) (by dsimp only; omega)) e111) (hm.le (by dsimp only; omega) (by dsimp only; omega)) ⟨by decide, by decide⟩ rfl hl.1 (Nat.le_of_ble_eq_true rfl) d_LM_init_20 rfl fun q20 hk hm => ?_
  have e100 : q20.1 100 0 = a100 := (hk 100 0 ⟨⟨rfl, by decide, by decide⟩, by decide +kernel⟩).trans e100
  have e101 : q20.1 101 0 = a101 := (hk 101 0 ⟨⟨rfl, by decide, by decide⟩, by decide +kernel⟩).trans e101
  have e111 : q20.1 111 0 = a111 := (hk 111 0 ⟨⟨rfl, by decide, by decide⟩, by decide +kernel⟩).trans e111
  have hkp := hkp.tr hk (by decide)
  refine nn_put (pc := 23) (r := 100) (k := 3) (n' := 42) g cl_LM ⟨⟨rfl, by decide, by decide⟩, by decide +kernel⟩ (by decide) (Or.inl kn_42) (Or.inr ⟨rfl, hnm, rfl, kn_42⟩) e100 rfl rfl (Or.inl ⟨(by decide +kernel), rfl, (fvR rfl rfl e111)⟩) d_LM_init_23 ?_
  refine nn_new (pc := 26) (r := 120) (i := 0) (m := (m.1 + 23, m.2 + 374146)) g.gn cl_Ta (by unfold dvC; decide +kernel) ⟨rfl, by decide, by decide⟩ (by decide +kernel) (hm.le (by dsimp only; omega) (by have z : nfF 120 = 9 := rfl; dsimp only; omega)) kn_43 kn_44 kn_45 d_LM_init_26 fun q26 a120 hk e120 hm => ?_
  have e100 : q26.1 100 0 = a100 := (hk 100 0 ⟨⟨rfl, by decide, by decide⟩, by decide +kernel⟩).trans e100
  have e101 : q26.1 101 0 = a101 := (hk 101 0 ⟨⟨rfl, by decide, by decide⟩, by decide +kernel⟩).trans e101
  have e111 : q26.1 111 0 = a111 := (hk 111 0 ⟨⟨rfl, by decide, by decide⟩, by decide +kernel⟩).trans e111
  have hkp := hkp.tr hk (by decide)
  refine nn_dup (pc := 29) g.1 d_LM_init_29 rfl ?_
  refine nn_aload_n (pc := 30) g.1 d_LM_init_30 rfl (lv_at hl 0 rfl) ?_
  refine nn_get (pc := 31) (r := 100) (k := 3) (t := 111) g cl_LM ⟨⟨rfl, by decide, by decide⟩, by decide +kernel⟩ (by decide) (Or.inl kn_42) e100 (by decide +kernel) rfl rfl e111 d_LM_init_31 ?_
  refine nn_call (pc := 34) (rest := [.ref a120]) (m := (m.1 + 16, m.2 + 24146)) (As := [.ref a111]) g.gn ci_Ta_init (Or.inl kn_58) (cn_Ta_120 (hm.le (by dsimp only; omega) (by dsimp only; omega)) e120 e111) (hm.le (by dsimp only; omega) (by dsimp only; omega)) ⟨by decide, by decide⟩ rfl hl.1 (Nat.le_of_ble_eq_true rfl) d_LM_init_34 rfl fun q34 hk hm => ?_
  have e100 : q34.1 100 0 = a100 := (hk 100 0 ⟨⟨rfl, by decide, by decide⟩, by decide +kernel⟩).trans e100
  have e101 : q34.1 101 0 = a101 := (hk 101 0 ⟨⟨rfl, by decide, by decide⟩, by decide +kernel⟩).trans e101
  have e111 : q34.1 111 0 = a111 := (hk 111 0 ⟨⟨rfl, by decide, by decide⟩, by decide +kernel⟩).trans e111
  have e120 : q34.1 120 0 = a120 := (hk 120 0 ⟨⟨rfl, by decide, by decide⟩, by decide +kernel⟩).trans e120
  have hkp := hkp.tr hk (by decide)
  refine nn_astore_n (pc := 37) (j := 1) g.1 (lv' := [(1, .ref a120), (0, .ref a100)]) d_LM_init_37 rfl hl (by decide) rfl fun ls hl => ?_
  refine nn_aload_n (pc := 38) g.1 d_LM_init_38 rfl (lv_at hl 1 rfl) ?_
  refine nn_new (pc := 39) (r := 128) (i := 0) (m := (m.1 + 15, m.2 + 24128)) g.gn cl_Ma (by unfold dvC; decide +kernel) ⟨rfl, by decide, by decide⟩ (by decide +kernel) (hm.le (by dsimp only; omega) (by have z : nfF 128 = 18 := rfl; dsimp only; omega)) kn_59 kn_60 kn_61 d_LM_init_39 fun q39 a128 hk e128 hm => ?_
  have e100 : q39.1 100 0 = a100 := (hk 100 0 ⟨⟨rfl, by decide, by decide⟩, by decide +kernel⟩).trans e100
  have e101 : q39.1 101 0 = a101 := (hk 101 0 ⟨⟨rfl, by decide, by decide⟩, by decide +kernel⟩).trans e101
  have e111 : q39.1 111 0 = a111 := (hk 111 0 ⟨⟨rfl, by decide, by decide⟩, by decide +kernel⟩).trans e111
  have e120 : q39.1 120 0 = a120 := (hk 120 0 ⟨⟨rfl, by decide, by decide⟩, by decide +kernel⟩).trans e120
  have hkp := hkp.tr hk (by decide)
  refine nn_dup (pc := 42) g.1 d_LM_init_42 rfl ?_
  refine nn_aload_n (pc := 43) g.1 d_LM_init_43 rfl (lv_at hl 1 rfl) ?_
  refine nn_get (pc := 44) (r := 100) (k := 2) (t := 101) g cl_LM ⟨⟨rfl, by decide, by decide⟩, by decide +kernel⟩ (by decide) (Or.inl kn_24) e100 (by decide +kernel) rfl rfl e101 d_LM_init_44 ?_
  refine nn_aload_n (pc := 47) g.1 d_LM_init_47 rfl (lv_at hl 1 rfl) ?_
  refine nn_get (pc := 48) (r := 100) (k := 3) (t := 111) g cl_LM ⟨⟨rfl, by decide, by decide⟩, by decide +kernel⟩ (by decide) (Or.inl kn_42) e100 (by decide +kernel) rfl rfl e111 d_LM_init_48 ?_
  refine nn_aload_n (pc := 51) g.1 d_LM_init_51 rfl (lv_at hl 0 rfl) ?_
  refine nn_call (pc := 52) (rest := [.ref a128, .ref a100]) (m := (m.1 + 3, m.2 + 20020)) (As := [.ref a101, .ref a111, .ref a120]) g.gn ci_Ma_init (Or.inl kn_80) (cn_Ma_128 (hm.le (by dsimp only; omega) (by dsimp only; omega)) e128 e101 e111 e120) (hm.le (by dsimp only; omega) (by dsimp only; omega)) ⟨by decide, by decide⟩ rfl hl.1 (Nat.le_of_ble_eq_true rfl) d_LM_init_52 rfl fun q52 hk hm => ?_
  have e100 : q52.1 100 0 = a100 := (hk 100 0 ⟨⟨rfl, by decide, by decide⟩, by decide +kernel⟩).trans e100
  have e101 : q52.1 101 0 = a101 := (hk 101 0 ⟨⟨rfl, by decide, by decide⟩, by decide +kernel⟩).trans e101
  have e111 : q52.1 111 0 = a111 := (hk 111 0 ⟨⟨rfl, by decide, by decide⟩, by decide +kernel⟩).trans e111
  have e120 : q52.1 120 0 = a120 := (hk 120 0 ⟨⟨rfl, by decide, by decide⟩, by decide +kernel⟩).trans e120
  have e128 : q52.1 128 0 = a128 := (hk 128 0 ⟨⟨rfl, by decide, by decide⟩, by decide +kernel⟩).trans e128
  have hkp := hkp.tr hk (by decide)
  refine nn_put (pc := 55) (r := 100) (k := 4) (n' := 87) g cl_LM ⟨⟨rfl, by decide, by decide⟩, by decide +kernel⟩ (by decide) (Or.inl kn_81) (Or.inr ⟨rfl, hnm, rfl, kn_81⟩) e100 rfl rfl (Or.inl ⟨(by decide +kernel), rfl, (fvR rfl rfl e128)⟩) d_LM_init_55 ?_
  refine nn_aload_n (pc := 58) g.1 d_LM_init_58 rfl (lv_at hl 1 rfl) ?_
  refine nn_get (pc := 59) (r := 100) (k := 3) (t := 111) g cl_LM ⟨⟨rfl, by decide, by decide⟩, by decide +kernel⟩ (by decide) (Or.inl kn_42) e100 (by decide +kernel) rfl rfl e111 d_LM_init_59 ?_
  refine nn_aload_n (pc := 62) g.1 d_LM_init_62 rfl (lv_at hl 0 rfl) ?_
  refine nn_put (pc := 63) (r := 111) (k := 14) (n' := 88) g cl_He ⟨⟨rfl, by decide, by decide⟩, by decide +kernel⟩ (by decide) (Or.inl kn_82) (Or.inl rfl) e111 rfl rfl (Or.inl ⟨(by decide +kernel), rfl, (fvR rfl rfl e120)⟩) d_LM_init_63 ?_
  refine nn_aload_n (pc := 66) g.1 d_LM_init_66 rfl (lv_at hl 1 rfl) ?_
  refine nn_get (pc := 67) (r := 100) (k := 3) (t := 111) g cl_LM ⟨⟨rfl, by decide, by decide⟩, by decide +kernel⟩ (by decide) (Or.inl kn_42) e100 (by decide +kernel) rfl rfl e111 d_LM_init_67 ?_
  refine nn_aload_n (pc := 70) g.1 d_LM_init_70 rfl (lv_at hl 1 rfl) ?_
  refine nn_get (pc := 71) (r := 100) (k := 4) (t := 128) g cl_LM ⟨⟨rfl, by decide, by decide⟩, by decide +kernel⟩ (by decide) (Or.inl kn_81) e100 (by decide +kernel) rfl rfl e128 d_LM_init_71 ?_
  refine nn_put (pc := 74) (r := 111) (k := 15) (n' := 89) g cl_He ⟨⟨rfl, by decide, by decide⟩, by decide +kernel⟩ (by decide) (Or.inl kn_83) (Or.inl rfl) e111 rfl rfl (Or.inl ⟨(by decide +kernel), rfl, (fvR rfl rfl e128)⟩) d_LM_init_74 ?_
  refine nn_aload_n (pc := 77) g.1 d_LM_init_77 rfl (lv_at hl 1 rfl) ?_
  refine nn_new (pc := 78) (r := 129) (i := 0) (m := (m.1 + 2, m.2 + 20007)) g.gn cl_St (by unfold dvC; decide +kernel) ⟨rfl, by decide, by decide⟩ (by decide +kernel) (hm.le (by dsimp only; omega) (by have z : nfF 129 = 13 := rfl; dsimp only; omega)) kn_84 kn_85 kn_86 d_LM_init_78 fun q78 a129 hk e129 hm => ?_
  have e100 : q78.1 100 0 = a100 := (hk 100 0 ⟨⟨rfl, by decide, by decide⟩, by decide +kernel⟩).trans e100
  have e101 : q78.1 101 0 = a101 := (hk 101 0 ⟨⟨rfl, by decide, by decide⟩, by decide +kernel⟩).trans e101
  have e111 : q78.1 111 0 = a111 := (hk 111 0 ⟨⟨rfl, by decide, by decide⟩, by decide +kernel⟩).trans e111
  have e120 : q78.1 120 0 = a120 := (hk 120 0 ⟨⟨rfl, by decide, by decide⟩, by decide +kernel⟩).trans e120
  have e128 : q78.1 128 0 = a128 := (hk 128 0 ⟨⟨rfl, by decide, by decide⟩, by decide +kernel⟩).trans e128
  have hkp := hkp.tr hk (by decide)
  refine nn_dup (pc := 81) g.1 d_LM_init_81 rfl ?_
  refine nn_aload_n (pc := 82) g.1 d_LM_init_82 rfl (lv_at hl 1 rfl) ?_
  refine nn_get (pc := 83) (r := 100) (k := 4) (t := 128) g cl_LM ⟨⟨rfl, by decide, by decide⟩, by decide +kernel⟩ (by decide) (Or.inl kn_81) e100 (by decide +kernel) rfl rfl e128 d_LM_init_83 ?_
  refine nn_call (pc := 86) (rest := [.ref a129, .ref a100]) (m := (m.1 + 2, m.2 + 20007)) (As := [.ref a128]) g.gn ci_St_init (Or.inl kn_97) (cn_St_129 (hm.le (by dsimp only; omega) (by dsimp only; omega)) e129 e128 e111 e120 e101) (hm.le (by dsimp only; omega) (by dsimp only; omega)) ⟨by decide, by decide⟩ rfl hl.1 (Nat.le_of_ble_eq_true rfl) d_LM_init_86 rfl fun q86 hk hm => ?_
  have e100 : q86.1 100 0 = a100 := (hk 100 0 ⟨⟨rfl, by decide, by decide⟩, by decide +kernel⟩).trans e100
  have e101 : q86.1 101 0 = a101 := (hk 101 0 ⟨⟨rfl, by decide, by decide⟩, by decide +kernel⟩).trans e101
  have e111 : q86.1 111 0 = a111 := (hk 111 0 ⟨⟨rfl, by decide, by decide⟩, by decide +kernel⟩).trans e111
  have e120 : q86.1 120 0 = a120 := (hk 120 0 ⟨⟨rfl, by decide, by decide⟩, by decide +kernel⟩).trans e120
  have e128 : q86.1 128 0 = a128 := (hk 128 0 ⟨⟨rfl, by decide, by decide⟩, by decide +kernel⟩).trans e128
  have e129 : q86.1 129 0 = a129 := (hk 129 0 ⟨⟨rfl, by decide, by decide⟩, by decide +kernel⟩).trans e129
  have hkp := hkp.tr hk (by decide)
  refine nn_put (pc := 89) (r := 100) (k := 5) (n' := 95) g cl_LM ⟨⟨rfl, by decide, by decide⟩, by decide +kernel⟩ (by decide) (Or.inl kn_98) (Or.inr ⟨rfl, hnm, rfl, kn_98⟩) e100 rfl rfl (Or.inl ⟨(by decide +kernel), rfl, (fvR rfl rfl e129)⟩) d_LM_init_89 ?_
  refine nn_aload_n (pc := 92) g.1 d_LM_init_92 rfl (lv_at hl 1 rfl) ?_
  refine nn_new (pc := 93) (r := 130) (i := 0) (m := (m.1 + 1, m.2 + 20000)) g.gn cl_Bu (by unfold dvC; decide +kernel) ⟨rfl, by decide, by decide⟩ (by decide +kernel) (hm.le (by dsimp only; omega) (by have z : nfF 130 = 7 := rfl; dsimp only; omega)) kn_99 kn_100 kn_101 d_LM_init_93 fun q93 a130 hk e130 hm => ?_
  have e100 : q93.1 100 0 = a100 := (hk 100 0 ⟨⟨rfl, by decide, by decide⟩, by decide +kernel⟩).trans e100
  have e101 : q93.1 101 0 = a101 := (hk 101 0 ⟨⟨rfl, by decide, by decide⟩, by decide +kernel⟩).trans e101
  have e111 : q93.1 111 0 = a111 := (hk 111 0 ⟨⟨rfl, by decide, by decide⟩, by decide +kernel⟩).trans e111
  have e120 : q93.1 120 0 = a120 := (hk 120 0 ⟨⟨rfl, by decide, by decide⟩, by decide +kernel⟩).trans e120
  have e128 : q93.1 128 0 = a128 := (hk 128 0 ⟨⟨rfl, by decide, by decide⟩, by decide +kernel⟩).trans e128
  have e129 : q93.1 129 0 = a129 := (hk 129 0 ⟨⟨rfl, by decide, by decide⟩, by decide +kernel⟩).trans e129
  have hkp := hkp.tr hk (by decide)
  refine nn_dup (pc := 96) g.1 d_LM_init_96 rfl ?_
  refine nn_aload_n (pc := 97) g.1 d_LM_init_97 rfl (lv_at hl 1 rfl) ?_
  refine nn_get (pc := 98) (r := 100) (k := 4) (t := 128) g cl_LM ⟨⟨rfl, by decide, by decide⟩, by decide +kernel⟩ (by decide) (Or.inl kn_81) e100 (by decide +kernel) rfl rfl e128 d_LM_init_98 ?_
  obtain ⟨a132, e132⟩ : ∃ a, q93.1 132 0 = a := ⟨_, rfl⟩
  obtain ⟨a135, e135⟩ : ∃ a, q93.1 135 0 = a := ⟨_, rfl⟩
  refine nn_call (pc := 101) (rest := [.ref a130, .ref a100]) (m := (m.1 + 0, m.2 + 0)) (As := [.ref a128]) g.gn ci_Bu_init (Or.inl kn_115) (cn_Bu_130 (hm.le (by dsimp only; omega) (by dsimp only; omega)) e130 e128 e111 e120 e132 e135) (hm.le (by dsimp only; omega) (by dsimp only; omega)) ⟨by decide, by decide⟩ rfl hl.1 (Nat.le_of_ble_eq_true rfl) d_LM_init_101 rfl fun q101 hk hm => ?_
  have e100 : q101.1 100 0 = a100 := (hk 100 0 ⟨⟨rfl, by decide, by decide⟩, by decide +kernel⟩).trans e100
  have e101 : q101.1 101 0 = a101 := (hk 101 0 ⟨⟨rfl, by decide, by decide⟩, by decide +kernel⟩).trans e101
  have e111 : q101.1 111 0 = a111 := (hk 111 0 ⟨⟨rfl, by decide, by decide⟩, by decide +kernel⟩).trans e111
  have e120 : q101.1 120 0 = a120 := (hk 120 0 ⟨⟨rfl, by decide, by decide⟩, by decide +kernel⟩).trans e120
  have e128 : q101.1 128 0 = a128 := (hk 128 0 ⟨⟨rfl, by decide, by decide⟩, by decide +kernel⟩).trans e128
  have e129 : q101.1 129 0 = a129 := (hk 129 0 ⟨⟨rfl, by decide, by decide⟩, by decide +kernel⟩).trans e129
  have e130 : q101.1 130 0 = a130 := (hk 130 0 ⟨⟨rfl, by decide, by decide⟩, by decide +kernel⟩).trans e130
  have e132 : q101.1 132 0 = a132 := (hk 132 0 ⟨⟨rfl, by decide, by decide⟩, by decide +kernel⟩).trans e132
  have e135 : q101.1 135 0 = a135 := (hk 135 0 ⟨⟨rfl, by decide, by decide⟩, by decide +kernel⟩).trans e135
  have hkp := hkp.tr hk (by decide)
  refine nn_put (pc := 104) (r := 100) (k := 6) (n' := 104) g cl_LM ⟨⟨rfl, by decide, by decide⟩, by decide +kernel⟩ (by decide) (Or.inl kn_116) (Or.inr ⟨rfl, hnm, rfl, kn_116⟩) e100 rfl rfl (Or.inl ⟨(by decide +kernel), rfl, (fvR rfl rfl e130)⟩) d_LM_init_104 ?_
  exact nn_ret (pc := 107) g hR hkp (hm.le (by dsimp only; omega) (by dsimp only; omega)) d_LM_init_107
