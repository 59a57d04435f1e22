theorem mo_s2 {X : Cx} {q0 q : PL} {ls : Array Slot} {a0 : Nat} {m : Nat × Nat} (g : Gd X y_Mo_init b_Mo_init 2 none 4 81 R_Mo) (hnm : (xh X).name = "<init>") (hR : RtN X q0 105 m 1772) (hkp : Kpp 105 q0 q) (e0 : q.1 0 0 = a0) (hm : Rnn (xP X) q (m.1 + 781, m.2 + 1399242)) (hl : lv_has ls 2 [(0, .ref a0)]) : WN X q 118 82 ls [] := by
  refine nn_aload_n (pc := 82) g.1 d_Mo_init_82 rfl (lv_at hl 0 rfl) ?_
  refine nn_sipush (pc := 83) g.1 (v := 251) d_Mo_init_83 (by decide) ?_
  refine nn_arr (pc := 86) (r := 47) (i := 0) (N := 251) (at0 := .int) (m := (m.1 + 780, m.2 + 1398991)) g.gn rfl (by decide) ⟨rfl, by decide, by decide⟩ (by decide +kernel) (by decide) rfl (by decide) (by decide) (hm.le (by dsimp only; omega) (by dsimp only; omega)) kn_9 d_Mo_init_86 fun q86 a47 hk e47 hm => ?_
  have e0 : q86.1 0 0 = a0 := (hk 0 0 ⟨⟨rfl, by decide, by decide⟩, by decide +kernel⟩).trans e0
  have hkp := hkp.tr hk (by decide)
  refine nn_put (pc := 88) (r := 0) (k := 11) (n' := 120) g cl_Mo ⟨⟨rfl, by decide, by decide⟩, by decide +kernel⟩ (by decide) (Or.inl kn_133) (Or.inr ⟨rfl, hnm, rfl, kn_133⟩) e0 rfl rfl (Or.inl ⟨(by decide +kernel), rfl, (fvR rfl rfl e47)⟩) d_Mo_init_88 ?_
  refine nn_aload_n (pc := 91) g.1 d_Mo_init_91 rfl (lv_at hl 0 rfl) ?_
  refine nn_sipush (pc := 92) g.1 (v := 251) d_Mo_init_92 (by decide) ?_
  refine nn_arr (pc := 95) (r := 48) (i := 0) (N := 251) (at0 := .int) (m := (m.1 + 779, m.2 + 1398740)) g.gn rfl (by decide) ⟨rfl, by decide, by decide⟩ (by decide +kernel) (by decide) rfl (by decide) (by decide) (hm.le (by dsimp only; omega) (by dsimp only; omega)) kn_9 d_Mo_init_95 fun q95 a48 hk e48 hm => ?_
  have e0 : q95.1 0 0 = a0 := (hk 0 0 ⟨⟨rfl, by decide, by decide⟩, by decide +kernel⟩).trans e0
  have e47 : q95.1 47 0 = a47 := (hk 47 0 ⟨⟨rfl, by decide, by decide⟩, by decide +kernel⟩).trans e47
  have hkp := hkp.tr hk (by decide)
  refine nn_put (pc := 97) (r := 0) (k := 12) (n' := 122) g cl_Mo ⟨⟨rfl, by decide, by decide⟩, by decide +kernel⟩ (by decide) (Or.inl kn_134) (Or.inr ⟨rfl, hnm, rfl, kn_134⟩) e0 rfl rfl (Or.inl ⟨(by decide +kernel), rfl, (fvR rfl rfl e48)⟩) d_Mo_init_97 ?_
  refine nn_aload_n (pc := 100) g.1 d_Mo_init_100 rfl (lv_at hl 0 rfl) ?_
  refine nn_sipush (pc := 101) g.1 (v := 251) d_Mo_init_101 (by decide) ?_
  refine nn_arr (pc := 104) (r := 49) (i := 0) (N := 251) (at0 := .int) (m := (m.1 + 778, m.2 + 1398489)) g.gn rfl (by decide) ⟨rfl, by decide, by decide⟩ (by decide +kernel) (by decide) rfl (by decide) (by decide) (hm.le (by dsimp only; omega) (by dsimp only; omega)) kn_9 d_Mo_init_104 fun q104 a49 hk e49 hm => ?_
  have e0 : q104.1 0 0 = a0 := (hk 0 0 ⟨⟨rfl, by decide, by decide⟩, by decide +kernel⟩).trans e0
  have e47 : q104.1 47 0 = a47 := (hk 47 0 ⟨⟨rfl, by decide, by decide⟩, by decide +kernel⟩).trans e47
  have e48 : q104.1 48 0 = a48 := (hk 48 0 ⟨⟨rfl, by decide, by decide⟩, by decide +kernel⟩).trans e48
  have hkp := hkp.tr hk (by decide)
  refine nn_put (pc := 106) (r := 0) (k := 13) (n' := 124) g cl_Mo ⟨⟨rfl, by decide, by decide⟩, by decide +kernel⟩ (by decide) (Or.inl kn_135) (Or.inr ⟨rfl, hnm, rfl, kn_135⟩) e0 rfl rfl (Or.inl ⟨(by decide +kernel), rfl, (fvR rfl rfl e49)⟩) d_Mo_init_106 ?_
  refine nn_aload_n (pc := 109) g.1 d_Mo_init_109 rfl (lv_at hl 0 rfl) ?_
  refine nn_sipush (pc := 110) g.1 (v := 251) d_Mo_init_110 (by decide) ?_
  refine nn_arr (pc := 113) (r := 50) (i := 0) (N := 251) (at0 := .int) (m := (m.1 + 777, m.2 + 1398238)) g.gn rfl (by decide) ⟨rfl, by decide, by decide⟩ (by decide +kernel) (by decide) rfl (by decide) (by decide) (hm.le (by dsimp only; omega) (by dsimp only; omega)) kn_9 d_Mo_init_113 fun q113 a50 hk e50 hm => ?_
  have e0 : q113.1 0 0 = a0 := (hk 0 0 ⟨⟨rfl, by decide, by decide⟩, by decide +kernel⟩).trans e0
  have e47 : q113.1 47 0 = a47 := (hk 47 0 ⟨⟨rfl, by decide, by decide⟩, by decide +kernel⟩).trans e47
  have e48 : q113.1 48 0 = a48 := (hk 48 0 ⟨⟨rfl, by decide, by decide⟩, by decide +kernel⟩).trans e48
  have e49 : q113.1 49 0 = a49 := (hk 49 0 ⟨⟨rfl, by decide, by decide⟩, by decide +kernel⟩).trans e49
  have hkp := hkp.tr hk (by decide)
  refine nn_put (pc := 115) (r := 0) (k := 14) (n' := 126) g cl_Mo ⟨⟨rfl, by decide, by decide⟩, by decide +kernel⟩ (by decide) (Or.inl kn_136) (Or.inr ⟨rfl, hnm, rfl, kn_136⟩) e0 rfl rfl (Or.inl ⟨(by decide +kernel), rfl, (fvR rfl rfl e50)⟩) d_Mo_init_115 ?_
  refine nn_aload_n (pc := 118) g.1 d_Mo_init_118 rfl (lv_at hl 0 rfl) ?_
  refine nn_sipush (pc := 119) g.1 (v := 251) d_Mo_init_119 (by decide) ?_
  refine nn_arr (pc := 122) (r := 51) (i := 0) (N := 251) (at0 := .int) (m := (m.1 + 776, m.2 + 1397987)) g.gn rfl (by decide) ⟨rfl, by decide, by decide⟩ (by decide +kernel) (by decide) rfl (by decide) (by decide) (hm.le (by dsimp only; omega) (by dsimp only; omega)) kn_9 d_Mo_init_122 fun q122 a51 hk e51 hm => ?_
  have e0 : q122.1 0 0 = a0 := (hk 0 0 ⟨⟨rfl, by decide, by decide⟩, by decide +kernel⟩).trans e0
  have e47 : q122.1 47 0 = a47 := (hk 47 0 ⟨⟨rfl, by decide, by decide⟩, by decide +kernel⟩).trans e47
  have e48 : q122.1 48 0 = a48 := (hk 48 0 ⟨⟨rfl, by decide, by decide⟩, by decide +kernel⟩).trans e48
  have e49 : q122.1 49 0 = a49 := (hk 49 0 ⟨⟨rfl, by decide, by decide⟩, by decide +kernel⟩).trans e49
  have e50 : q122.1 50 0 = a50 := (hk 50 0 ⟨⟨rfl, by decide, by decide⟩, by decide +kernel⟩).trans e50
  have hkp := hkp.tr hk (by decide)
  refine nn_put (pc := 124) (r := 0) (k := 15) (n' := 128) g cl_Mo ⟨⟨rfl, by decide, by decide⟩, by decide +kernel⟩ (by decide) (Or.inl kn_137) (Or.inr ⟨rfl, hnm, rfl, kn_137⟩) e0 rfl rfl (Or.inl ⟨(by decide +kernel), rfl, (fvR rfl rfl e51)⟩) d_Mo_init_124 ?_
  refine nn_aload_n (pc := 127) g.1 d_Mo_init_127 rfl (lv_at hl 0 rfl) ?_
  refine nn_sipush (pc := 128) g.1 (v := 251) d_Mo_init_128 (by decide) ?_
  refine nn_arr (pc := 131) (r := 52) (i := 0) (N := 251) (at0 := .int) (m := (m.1 + 775, m.2 + 1397736)) g.gn rfl (by decide) ⟨rfl, by decide, by decide⟩ (by decide +kernel) (by decide) rfl (by decide) (by decide) (hm.le (by dsimp only; omega) (by dsimp only; omega)) kn_9 d_Mo_init_131 fun q131 a52 hk e52 hm => ?_
  have e0 : q131.1 0 0 = a0 := (hk 0 0 ⟨⟨rfl, by decide, by decide⟩, by decide +kernel⟩).trans e0
  have e47 : q131.1 47 0 = a47 := (hk 47 0 ⟨⟨rfl, by decide, by decide⟩, by decide +kernel⟩).trans e47
  have e48 : q131.1 48 0 = a48 := (hk 48 0 ⟨⟨rfl, by decide, by decide⟩, by decide +kernel⟩).trans e48
  have e49 : q131.1 49 0 = a49 := (hk 49 0 ⟨⟨rfl, by decide, by decide⟩, by decide +kernel⟩).trans e49
  have e50 : q131.1 50 0 = a50 := (hk 50 0 ⟨⟨rfl, by decide, by decide⟩, by decide +kernel⟩).trans e50
  have e51 : q131.1 51 0 = a51 := (hk 51 0 ⟨⟨rfl, by decide, by decide⟩, by decide +kernel⟩).trans e51
  have hkp := hkp.tr hk (by decide)
  refine nn_put (pc := 133) (r := 0) (k := 16) (n' := 130) g cl_Mo ⟨⟨rfl, by decide, by decide⟩, by decide +kernel⟩ (by decide) (Or.inl kn_138) (Or.inr ⟨rfl, hnm, rfl, kn_138⟩) e0 rfl rfl (Or.inl ⟨(by decide +kernel), rfl, (fvR rfl rfl e52)⟩) d_Mo_init_133 ?_
  refine nn_aload_n (pc := 136) g.1 d_Mo_init_136 rfl (lv_at hl 0 rfl) ?_
  refine nn_sipush (pc := 137) g.1 (v := 30200) d_Mo_init_137 (by decide) ?_
  refine nn_arr (pc := 140) (r := 53) (i := 0) (N := 30200) (at0 := .int) (m := (m.1 + 774, m.2 + 1367536)) g.gn rfl (by decide) ⟨rfl, by decide, by decide⟩ (by decide +kernel) (by decide) rfl (by decide) (by decide) (hm.le (by dsimp only; omega) (by dsimp only; omega)) kn_9 d_Mo_init_140 fun q140 a53 hk e53 hm => ?_
  have e0 : q140.1 0 0 = a0 := (hk 0 0 ⟨⟨rfl, by decide, by decide⟩, by decide +kernel⟩).trans e0
  have e47 : q140.1 47 0 = a47 := (hk 47 0 ⟨⟨rfl, by decide, by decide⟩, by decide +kernel⟩).trans e47
  have e48 : q140.1 48 0 = a48 := (hk 48 0 ⟨⟨rfl, by decide, by decide⟩, by decide +kernel⟩).trans e48
  have e49 : q140.1 49 0 = a49 := (hk 49 0 ⟨⟨rfl, by decide, by decide⟩, by decide +kernel⟩).trans e49
  have e50 : q140.1 50 0 = a50 := (hk 50 0 ⟨⟨rfl, by decide, by decide⟩, by decide +kernel⟩).trans e50
  have e51 : q140.1 51 0 = a51 := (hk 51 0 ⟨⟨rfl, by decide, by decide⟩, by decide +kernel⟩).trans e51
  have e52 : q140.1 52 0 = a52 := (hk 52 0 ⟨⟨rfl, by decide, by decide⟩, by decide +kernel⟩).trans e52
  have hkp := hkp.tr hk (by decide)
  refine nn_put (pc := 142) (r := 0) (k := 17) (n' := 132) g cl_Mo ⟨⟨rfl, by decide, by decide⟩, by decide +kernel⟩ (by decide) (Or.inl kn_139) (Or.inr ⟨rfl, hnm, rfl, kn_139⟩) e0 rfl rfl (Or.inl ⟨(by decide +kernel), rfl, (fvR rfl rfl e53)⟩) d_Mo_init_142 ?_
  exact mo_s3 g hnm hR hkp e0 hm hl
theorem mo_s1 {X : Cx} {q0 q : PL} {ls : Array Slot} {a0 : Nat} {m : Nat × Nat} (g : Gd X y_Mo_init b_Mo_init 2 none 4 81 R_Mo) (hnm : (xh X).name = "<init>") (hR : RtN X q0 105 m 1772) (hkp : Kpp 105 q0 q) (e0 : q.1 0 0 = a0) (hm : Rnn (xP X) q (m.1 + 787, m.2 + 1466033)) (hl : lv_has ls 2 [(0, .ref a0)]) : WN X q 105 4 ls [] := by
  refine nn_aload_n (pc := 4) g.1 d_Mo_init_4 rfl (lv_at hl 0 rfl) ?_
  refine nn_ldc (pc := 5) g.gn (v := 65536) kn_121 d_Mo_init_5 ?_
  refine nn_arr (pc := 7) (r := 41) (i := 0) (N := 65536) (at0 := .byte) (m := (m.1 + 786, m.2 + 1400497)) g.gn rfl (by decide) ⟨rfl, by decide, by decide⟩ (by decide +kernel) (by decide) rfl (by decide) (by decide) (hm.le (by dsimp only; omega) (by dsimp only; omega)) kn_12 d_Mo_init_7 fun q7 a41 hk e41 hm => ?_
  have e0 : q7.1 0 0 = a0 := (hk 0 0 ⟨⟨rfl, by decide, by decide⟩, by decide +kernel⟩).trans e0
  have hkp := hkp.tr hk (by decide)
  refine nn_put (pc := 9) (r := 0) (k := 0) (n' := 107) g cl_Mo ⟨⟨rfl, by decide, by decide⟩, by decide +kernel⟩ (by decide) (Or.inl kn_122) (Or.inr ⟨rfl, hnm, rfl, kn_122⟩) e0 rfl rfl (Or.inl ⟨(by decide +kernel), rfl, (fvR rfl rfl e41)⟩) d_Mo_init_9 ?_
  refine nn_aload_n (pc := 12) g.1 d_Mo_init_12 rfl (lv_at hl 0 rfl) ?_
  refine nn_iconst (pc := 13) g.1 (v := 0) d_Mo_init_13 (by decide) ?_
  refine nn_put (pc := 14) (r := 0) (k := 1) (n' := 107) g cl_Mo ⟨⟨rfl, by decide, by decide⟩, by decide +kernel⟩ (by decide) (Or.inl kn_123) (Or.inl rfl) e0 rfl rfl (Or.inr ⟨rfl, fN_dv (Or.inr ⟨by decide +kernel, (by decide), (fvI rfl rfl)⟩)⟩) d_Mo_init_14 ?_
  refine nn_aload_n (pc := 17) g.1 d_Mo_init_17 rfl (lv_at hl 0 rfl) ?_
  refine nn_iconst (pc := 18) g.1 (v := 0) d_Mo_init_18 (by decide) ?_
  refine nn_put (pc := 19) (r := 0) (k := 2) (n' := 107) g cl_Mo ⟨⟨rfl, by decide, by decide⟩, by decide +kernel⟩ (by decide) (Or.inl kn_124) (Or.inl rfl) e0 rfl rfl (Or.inr ⟨rfl, fN_dv (Or.inr ⟨by decide +kernel, (by decide), (fvI rfl rfl)⟩)⟩) d_Mo_init_19 ?_
  refine nn_aload_n (pc := 22) g.1 d_Mo_init_22 rfl (lv_at hl 0 rfl) ?_
  refine nn_iconst (pc := 23) g.1 (v := 0) d_Mo_init_23 (by decide) ?_
  refine nn_put (pc := 24) (r := 0) (k := 3) (n' := 107) g cl_Mo ⟨⟨rfl, by decide, by decide⟩, by decide +kernel⟩ (by decide) (Or.inl kn_125) (Or.inl rfl) e0 rfl rfl (Or.inr ⟨rfl, fN_dv (Or.inr ⟨by decide +kernel, (by decide), (fvI rfl rfl)⟩)⟩) d_Mo_init_24 ?_
  refine nn_aload_n (pc := 27) g.1 d_Mo_init_27 rfl (lv_at hl 0 rfl) ?_
  refine nn_iconst (pc := 28) g.1 (v := (-1)) d_Mo_init_28 (by decide) ?_
  refine nn_put (pc := 29) (r := 0) (k := 4) (n' := 108) g cl_Mo ⟨⟨rfl, by decide, by decide⟩, by decide +kernel⟩ (by decide) (Or.inl kn_126) (Or.inl rfl) e0 rfl rfl (Or.inl ⟨(by decide +kernel), rfl, (fvI rfl rfl)⟩) d_Mo_init_29 ?_
  refine nn_aload_n (pc := 32) g.1 d_Mo_init_32 rfl (lv_at hl 0 rfl) ?_
  refine nn_iconst (pc := 33) g.1 (v := 0) d_Mo_init_33 (by decide) ?_
  refine nn_put (pc := 34) (r := 0) (k := 5) (n' := 108) g cl_Mo ⟨⟨rfl, by decide, by decide⟩, by decide +kernel⟩ (by decide) (Or.inl kn_127) (Or.inl rfl) e0 rfl rfl (Or.inr ⟨rfl, fN_dv (Or.inr ⟨by decide +kernel, (by decide), (fvI rfl rfl)⟩)⟩) d_Mo_init_34 ?_
  refine nn_aload_n (pc := 37) g.1 d_Mo_init_37 rfl (lv_at hl 0 rfl) ?_
  refine nn_sipush (pc := 38) g.1 (v := 251) d_Mo_init_38 (by decide) ?_
  refine nn_arr (pc := 41) (r := 42) (i := 0) (N := 251) (at0 := .int) (m := (m.1 + 785, m.2 + 1400246)) g.gn rfl (by decide) ⟨rfl, by decide, by decide⟩ (by decide +kernel) (by decide) rfl (by decide) (by decide) (hm.le (by dsimp only; omega) (by dsimp only; omega)) kn_9 d_Mo_init_41 fun q41 a42 hk e42 hm => ?_
  have e0 : q41.1 0 0 = a0 := (hk 0 0 ⟨⟨rfl, by decide, by decide⟩, by decide +kernel⟩).trans e0
  have e41 : q41.1 41 0 = a41 := (hk 41 0 ⟨⟨rfl, by decide, by decide⟩, by decide +kernel⟩).trans e41
  have hkp := hkp.tr hk (by decide)
  refine nn_put (pc := 43) (r := 0) (k := 6) (n' := 110) g cl_Mo ⟨⟨rfl, by decide, by decide⟩, by decide +kernel⟩ (by decide) (Or.inl kn_128) (Or.inr ⟨rfl, hnm, rfl, kn_128⟩) e0 rfl rfl (Or.inl ⟨(by decide +kernel), rfl, (fvR rfl rfl e42)⟩) d_Mo_init_43 ?_
  refine nn_aload_n (pc := 46) g.1 d_Mo_init_46 rfl (lv_at hl 0 rfl) ?_
  refine nn_sipush (pc := 47) g.1 (v := 251) d_Mo_init_47 (by decide) ?_
  refine nn_arr (pc := 50) (r := 43) (i := 0) (N := 251) (at0 := .int) (m := (m.1 + 784, m.2 + 1399995)) g.gn rfl (by decide) ⟨rfl, by decide, by decide⟩ (by decide +kernel) (by decide) rfl (by decide) (by decide) (hm.le (by dsimp only; omega) (by dsimp only; omega)) kn_9 d_Mo_init_50 fun q50 a43 hk e43 hm => ?_
  have e0 : q50.1 0 0 = a0 := (hk 0 0 ⟨⟨rfl, by decide, by decide⟩, by decide +kernel⟩).trans e0
  have e41 : q50.1 41 0 = a41 := (hk 41 0 ⟨⟨rfl, by decide, by decide⟩, by decide +kernel⟩).trans e41
  have e42 : q50.1 42 0 = a42 := (hk 42 0 ⟨⟨rfl, by decide, by decide⟩, by decide +kernel⟩).trans e42
  have hkp := hkp.tr hk (by decide)
  refine nn_put (pc := 52) (r := 0) (k := 7) (n' := 112) g cl_Mo ⟨⟨rfl, by decide, by decide⟩, by decide +kernel⟩ (by decide) (Or.inl kn_129) (Or.inr ⟨rfl, hnm, rfl, kn_129⟩) e0 rfl rfl (Or.inl ⟨(by decide +kernel), rfl, (fvR rfl rfl e43)⟩) d_Mo_init_52 ?_
  refine nn_aload_n (pc := 55) g.1 d_Mo_init_55 rfl (lv_at hl 0 rfl) ?_
  refine nn_sipush (pc := 56) g.1 (v := 251) d_Mo_init_56 (by decide) ?_
  refine nn_arr (pc := 59) (r := 44) (i := 0) (N := 251) (at0 := .int) (m := (m.1 + 783, m.2 + 1399744)) g.gn rfl (by decide) ⟨rfl, by decide, by decide⟩ (by decide +kernel) (by decide) rfl (by decide) (by decide) (hm.le (by dsimp only; omega) (by dsimp only; omega)) kn_9 d_Mo_init_59 fun q59 a44 hk e44 hm => ?_
  have e0 : q59.1 0 0 = a0 := (hk 0 0 ⟨⟨rfl, by decide, by decide⟩, by decide +kernel⟩).trans e0
  have e41 : q59.1 41 0 = a41 := (hk 41 0 ⟨⟨rfl, by decide, by decide⟩, by decide +kernel⟩).trans e41
  have e42 : q59.1 42 0 = a42 := (hk 42 0 ⟨⟨rfl, by decide, by decide⟩, by decide +kernel⟩).trans e42
  have e43 : q59.1 43 0 = a43 := (hk 43 0 ⟨⟨rfl, by decide, by decide⟩, by decide +kernel⟩).trans e43
  have hkp := hkp.tr hk (by decide)
  refine nn_put (pc := 61) (r := 0) (k := 8) (n' := 114) g cl_Mo ⟨⟨rfl, by decide, by decide⟩, by decide +kernel⟩ (by decide) (Or.inl kn_130) (Or.inr ⟨rfl, hnm, rfl, kn_130⟩) e0 rfl rfl (Or.inl ⟨(by decide +kernel), rfl, (fvR rfl rfl e44)⟩) d_Mo_init_61 ?_
  refine nn_aload_n (pc := 64) g.1 d_Mo_init_64 rfl (lv_at hl 0 rfl) ?_
  refine nn_sipush (pc := 65) g.1 (v := 251) d_Mo_init_65 (by decide) ?_
  refine nn_arr (pc := 68) (r := 45) (i := 0) (N := 251) (at0 := .int) (m := (m.1 + 782, m.2 + 1399493)) g.gn rfl (by decide) ⟨rfl, by decide, by decide⟩ (by decide +kernel) (by decide) rfl (by decide) (by decide) (hm.le (by dsimp only; omega) (by dsimp only; omega)) kn_9 d_Mo_init_68 fun q68 a45 hk e45 hm => ?_
  have e0 : q68.1 0 0 = a0 := (hk 0 0 ⟨⟨rfl, by decide, by decide⟩, by decide +kernel⟩).trans e0
  have e41 : q68.1 41 0 = a41 := (hk 41 0 ⟨⟨rfl, by decide, by decide⟩, by decide +kernel⟩).trans e41
  have e42 : q68.1 42 0 = a42 := (hk 42 0 ⟨⟨rfl, by decide, by decide⟩, by decide +kernel⟩).trans e42
  have e43 : q68.1 43 0 = a43 := (hk 43 0 ⟨⟨rfl, by decide, by decide⟩, by decide +kernel⟩).trans e43
  have e44 : q68.1 44 0 = a44 := (hk 44 0 ⟨⟨rfl, by decide, by decide⟩, by decide +kernel⟩).trans e44
  have hkp := hkp.tr hk (by decide)
  refine nn_put (pc := 70) (r := 0) (k := 9) (n' := 116) g cl_Mo ⟨⟨rfl, by decide, by decide⟩, by decide +kernel⟩ (by decide) (Or.inl kn_131) (Or.inr ⟨rfl, hnm, rfl, kn_131⟩) e0 rfl rfl (Or.inl ⟨(by decide +kernel), rfl, (fvR rfl rfl e45)⟩) d_Mo_init_70 ?_
  refine nn_aload_n (pc := 73) g.1 d_Mo_init_73 rfl (lv_at hl 0 rfl) ?_
  refine nn_sipush (pc := 74) g.1 (v := 251) d_Mo_init_74 (by decide) ?_
  refine nn_arr (pc := 77) (r := 46) (i := 0) (N := 251) (at0 := .int) (m := (m.1 + 781, m.2 + 1399242)) g.gn rfl (by decide) ⟨rfl, by decide, by decide⟩ (by decide +kernel) (by decide) rfl (by decide) (by decide) (hm.le (by dsimp only; omega) (by dsimp only; omega)) kn_9 d_Mo_init_77 fun q77 a46 hk e46 hm => ?_
  have e0 : q77.1 0 0 = a0 := (hk 0 0 ⟨⟨rfl, by decide, by decide⟩, by decide +kernel⟩).trans e0
  have e41 : q77.1 41 0 = a41 := (hk 41 0 ⟨⟨rfl, by decide, by decide⟩, by decide +kernel⟩).trans e41
  have e42 : q77.1 42 0 = a42 := (hk 42 0 ⟨⟨rfl, by decide, by decide⟩, by decide +kernel⟩).trans e42
  have e43 : q77.1 43 0 = a43 := (hk 43 0 ⟨⟨rfl, by decide, by decide⟩, by decide +kernel⟩).trans e43
  have e44 : q77.1 44 0 = a44 := (hk 44 0 ⟨⟨rfl, by decide, by decide⟩, by decide +kernel⟩).trans e44
  have e45 : q77.1 45 0 = a45 := (hk 45 0 ⟨⟨rfl, by decide, by decide⟩, by decide +kernel⟩).trans e45
  have hkp := hkp.tr hk (by decide)
  refine nn_put (pc := 79) (r := 0) (k := 10) (n' := 118) g cl_Mo ⟨⟨rfl, by decide, by decide⟩, by decide +kernel⟩ (by decide) (Or.inl kn_132) (Or.inr ⟨rfl, hnm, rfl, kn_132⟩) e0 rfl rfl (Or.inl ⟨(by decide +kernel), rfl, (fvR rfl rfl e46)⟩) d_Mo_init_79 ?_
  exact mo_s2 g hnm hR hkp e0 hm hl
theorem cn_Mo_0 {l : Launch} {P : PP} {q : PL} {m : Nat × Nat} (hm : Rnn P q (m.1 + 787, m.2 + 1466033)) {a0 : Nat} (e0 : q.1 0 0 = a0) : CtN l y_Mo_init b_Mo_init 2 4 81 P q 105 [.ref a0] m 1772 := by
  refine ctN_of (by decide) rfl (Nat.le_of_ble_eq_true rfl) fun X ls eP el g hnm hR hl => ?_
  subst eP
  have hkp : Kpp 105 q q := Kpp.rf
  have hl : lv_has ls 2 [(0, .ref a0)] := hl
  refine nn_aload_n (pc := 0) g.1 d_Mo_init_0 rfl (lv_at hl 0 rfl) ?_
  refine nn_obj (pc := 1) g.gn kn_120 kn_1 kn_2 ⟨by decide, by decide⟩ hl.1 (Nat.le_of_ble_eq_true rfl) d_Mo_init_1 ?_
  exact mo_s1 g hnm hR hkp e0 hm hl
