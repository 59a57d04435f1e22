theorem mo_s11 {X : Cx} {q0 q : PL} {ls : Array Slot} {a0 : Nat} {m : Nat × Nat} (g : Gd X y_Mo_init b_Mo_init 2 none 4 81 R_Mo) (hnm : (xh X).name = "<init>") (hR : RtN X q0 105 m 1772) (hkp : Kpp 105 q0 q) (e0 : q.1 0 0 = a0) (hm : Rnn (xP X) q (m.1 + 733, m.2 + 814329)) (hl : lv_has ls 2 [(0, .ref a0)]) : WN X q 272 1013 ls [] := by
  refine nn_aload_n (pc := 1013) g.1 d_Mo_init_1013 rfl (lv_at hl 0 rfl) ?_
  refine nn_bipush (pc := 1014) g.1 (v := 7) d_Mo_init_1014 (by decide) ?_
  refine nn_arr (pc := 1016) (r := 83) (i := 0) (N := 7) (at0 := .int) (m := (m.1 + 732, m.2 + 814322)) g.gn rfl (by decide) ⟨rfl, by decide, by decide⟩ (by decide +kernel) (by decide) rfl (by decide) (by decide) (hm.le (by dsimp only; omega) (by dsimp only; omega)) kn_9 d_Mo_init_1016 fun q1016 a83 hk e83 hm => ?_
  have e0 : q1016.1 0 0 = a0 := (hk 0 0 ⟨⟨rfl, by decide, by decide⟩, by decide +kernel⟩).trans e0
  have hkp := hkp.tr hk (by decide)
  refine nn_put (pc := 1018) (r := 0) (k := 88) (n' := 274) g cl_Mo ⟨⟨rfl, by decide, by decide⟩, by decide +kernel⟩ (by decide) (Or.inl kn_224) (Or.inr ⟨rfl, hnm, rfl, kn_224⟩) e0 rfl rfl (Or.inl ⟨(by decide +kernel), rfl, (fvR rfl rfl e83)⟩) d_Mo_init_1018 ?_
  refine nn_aload_n (pc := 1021) g.1 d_Mo_init_1021 rfl (lv_at hl 0 rfl) ?_
  refine nn_iconst (pc := 1022) g.1 (v := 4) d_Mo_init_1022 (by decide) ?_
  refine nn_arr (pc := 1023) (r := 84) (i := 0) (N := 4) (at0 := .int) (m := (m.1 + 731, m.2 + 814318)) g.gn rfl (by decide) ⟨rfl, by decide, by decide⟩ (by decide +kernel) (by decide) rfl (by decide) (by decide) (hm.le (by dsimp only; omega) (by dsimp only; omega)) kn_9 d_Mo_init_1023 fun q1023 a84 hk e84 hm => ?_
  have e0 : q1023.1 0 0 = a0 := (hk 0 0 ⟨⟨rfl, by decide, by decide⟩, by decide +kernel⟩).trans e0
  have e83 : q1023.1 83 0 = a83 := (hk 83 0 ⟨⟨rfl, by decide, by decide⟩, by decide +kernel⟩).trans e83
  have hkp := hkp.tr hk (by decide)
  refine nn_put (pc := 1025) (r := 0) (k := 89) (n' := 276) g cl_Mo ⟨⟨rfl, by decide, by decide⟩, by decide +kernel⟩ (by decide) (Or.inl kn_225) (Or.inr ⟨rfl, hnm, rfl, kn_225⟩) e0 rfl rfl (Or.inl ⟨(by decide +kernel), rfl, (fvR rfl rfl e84)⟩) d_Mo_init_1025 ?_
  refine nn_aload_n (pc := 1028) g.1 d_Mo_init_1028 rfl (lv_at hl 0 rfl) ?_
  refine nn_bipush (pc := 1029) g.1 (v := 24) d_Mo_init_1029 (by decide) ?_
  refine nn_arr (pc := 1031) (r := 85) (i := 0) (N := 24) (at0 := .int) (m := (m.1 + 730, m.2 + 814294)) g.gn rfl (by decide) ⟨rfl, by decide, by decide⟩ (by decide +kernel) (by decide) rfl (by decide) (by decide) (hm.le (by dsimp only; omega) (by dsimp only; omega)) kn_9 d_Mo_init_1031 fun q1031 a85 hk e85 hm => ?_
  have e0 : q1031.1 0 0 = a0 := (hk 0 0 ⟨⟨rfl, by decide, by decide⟩, by decide +kernel⟩).trans e0
  have e83 : q1031.1 83 0 = a83 := (hk 83 0 ⟨⟨rfl, by decide, by decide⟩, by decide +kernel⟩).trans e83
  have e84 : q1031.1 84 0 = a84 := (hk 84 0 ⟨⟨rfl, by decide, by decide⟩, by decide +kernel⟩).trans e84
  have hkp := hkp.tr hk (by decide)
  refine nn_put (pc := 1033) (r := 0) (k := 90) (n' := 278) g cl_Mo ⟨⟨rfl, by decide, by decide⟩, by decide +kernel⟩ (by decide) (Or.inl kn_226) (Or.inr ⟨rfl, hnm, rfl, kn_226⟩) e0 rfl rfl (Or.inl ⟨(by decide +kernel), rfl, (fvR rfl rfl e85)⟩) d_Mo_init_1033 ?_
  refine nn_aload_n (pc := 1036) g.1 d_Mo_init_1036 rfl (lv_at hl 0 rfl) ?_
  refine nn_bipush (pc := 1037) g.1 (v := 64) d_Mo_init_1037 (by decide) ?_
  refine nn_arr (pc := 1039) (r := 86) (i := 0) (N := 64) (at0 := .byte) (m := (m.1 + 729, m.2 + 814230)) g.gn rfl (by decide) ⟨rfl, by decide, by decide⟩ (by decide +kernel) (by decide) rfl (by decide) (by decide) (hm.le (by dsimp only; omega) (by dsimp only; omega)) kn_12 d_Mo_init_1039 fun q1039 a86 hk e86 hm => ?_
  have e0 : q1039.1 0 0 = a0 := (hk 0 0 ⟨⟨rfl, by decide, by decide⟩, by decide +kernel⟩).trans e0
  have e83 : q1039.1 83 0 = a83 := (hk 83 0 ⟨⟨rfl, by decide, by decide⟩, by decide +kernel⟩).trans e83
  have e84 : q1039.1 84 0 = a84 := (hk 84 0 ⟨⟨rfl, by decide, by decide⟩, by decide +kernel⟩).trans e84
  have e85 : q1039.1 85 0 = a85 := (hk 85 0 ⟨⟨rfl, by decide, by decide⟩, by decide +kernel⟩).trans e85
  have hkp := hkp.tr hk (by decide)
  refine nn_put (pc := 1041) (r := 0) (k := 91) (n' := 280) g cl_Mo ⟨⟨rfl, by decide, by decide⟩, by decide +kernel⟩ (by decide) (Or.inl kn_227) (Or.inr ⟨rfl, hnm, rfl, kn_227⟩) e0 rfl rfl (Or.inl ⟨(by decide +kernel), rfl, (fvR rfl rfl e86)⟩) d_Mo_init_1041 ?_
  refine nn_aload_n (pc := 1044) g.1 d_Mo_init_1044 rfl (lv_at hl 0 rfl) ?_
  refine nn_iconst (pc := 1045) g.1 (v := 0) d_Mo_init_1045 (by decide) ?_
  refine nn_put (pc := 1046) (r := 0) (k := 92) (n' := 280) g cl_Mo ⟨⟨rfl, by decide, by decide⟩, by decide +kernel⟩ (by decide) (Or.inl kn_228) (Or.inl rfl) e0 rfl rfl (Or.inr ⟨rfl, fN_dv (Or.inr ⟨by decide +kernel, (by decide), (fvI rfl rfl)⟩)⟩) d_Mo_init_1046 ?_
  refine nn_aload_n (pc := 1049) g.1 d_Mo_init_1049 rfl (lv_at hl 0 rfl) ?_
  refine nn_ldcw (pc := 1050) g.gn (v := 266800) kn_229 d_Mo_init_1050 ?_
  refine nn_arr (pc := 1053) (r := 87) (i := 0) (N := 266800) (at0 := .byte) (m := (m.1 + 728, m.2 + 547430)) g.gn rfl (by decide) ⟨rfl, by decide, by decide⟩ (by decide +kernel) (by decide) rfl (by decide) (by decide) (hm.le (by dsimp only; omega) (by dsimp only; omega)) kn_12 d_Mo_init_1053 fun q1053 a87 hk e87 hm => ?_
  have e0 : q1053.1 0 0 = a0 := (hk 0 0 ⟨⟨rfl, by decide, by decide⟩, by decide +kernel⟩).trans e0
  have e83 : q1053.1 83 0 = a83 := (hk 83 0 ⟨⟨rfl, by decide, by decide⟩, by decide +kernel⟩).trans e83
  have e84 : q1053.1 84 0 = a84 := (hk 84 0 ⟨⟨rfl, by decide, by decide⟩, by decide +kernel⟩).trans e84
  have e85 : q1053.1 85 0 = a85 := (hk 85 0 ⟨⟨rfl, by decide, by decide⟩, by decide +kernel⟩).trans e85
  have e86 : q1053.1 86 0 = a86 := (hk 86 0 ⟨⟨rfl, by decide, by decide⟩, by decide +kernel⟩).trans e86
  have hkp := hkp.tr hk (by decide)
  refine nn_put (pc := 1055) (r := 0) (k := 93) (n' := 282) g cl_Mo ⟨⟨rfl, by decide, by decide⟩, by decide +kernel⟩ (by decide) (Or.inl kn_230) (Or.inr ⟨rfl, hnm, rfl, kn_230⟩) e0 rfl rfl (Or.inl ⟨(by decide +kernel), rfl, (fvR rfl rfl e87)⟩) d_Mo_init_1055 ?_
  refine nn_aload_n (pc := 1058) g.1 d_Mo_init_1058 rfl (lv_at hl 0 rfl) ?_
  refine nn_sipush (pc := 1059) g.1 (v := 20000) d_Mo_init_1059 (by decide) ?_
  refine nn_arr (pc := 1062) (r := 88) (i := 0) (N := 20000) (at0 := .byte) (m := (m.1 + 727, m.2 + 527430)) g.gn rfl (by decide) ⟨rfl, by decide, by decide⟩ (by decide +kernel) (by decide) rfl (by decide) (by decide) (hm.le (by dsimp only; omega) (by dsimp only; omega)) kn_12 d_Mo_init_1062 fun q1062 a88 hk e88 hm => ?_
  have e0 : q1062.1 0 0 = a0 := (hk 0 0 ⟨⟨rfl, by decide, by decide⟩, by decide +kernel⟩).trans e0
  have e83 : q1062.1 83 0 = a83 := (hk 83 0 ⟨⟨rfl, by decide, by decide⟩, by decide +kernel⟩).trans e83
  have e84 : q1062.1 84 0 = a84 := (hk 84 0 ⟨⟨rfl, by decide, by decide⟩, by decide +kernel⟩).trans e84
  have e85 : q1062.1 85 0 = a85 := (hk 85 0 ⟨⟨rfl, by decide, by decide⟩, by decide +kernel⟩).trans e85
  have e86 : q1062.1 86 0 = a86 := (hk 86 0 ⟨⟨rfl, by decide, by decide⟩, by decide +kernel⟩).trans e86
  have e87 : q1062.1 87 0 = a87 := (hk 87 0 ⟨⟨rfl, by decide, by decide⟩, by decide +kernel⟩).trans e87
  have hkp := hkp.tr hk (by decide)
  refine nn_put (pc := 1064) (r := 0) (k := 94) (n' := 284) g cl_Mo ⟨⟨rfl, by decide, by decide⟩, by decide +kernel⟩ (by decide) (Or.inl kn_231) (Or.inr ⟨rfl, hnm, rfl, kn_231⟩) e0 rfl rfl (Or.inl ⟨(by decide +kernel), rfl, (fvR rfl rfl e88)⟩) d_Mo_init_1064 ?_
  refine nn_aload_n (pc := 1067) g.1 d_Mo_init_1067 rfl (lv_at hl 0 rfl) ?_
  refine nn_iconst (pc := 1068) g.1 (v := 0) d_Mo_init_1068 (by decide) ?_
  refine nn_put (pc := 1069) (r := 0) (k := 95) (n' := 284) g cl_Mo ⟨⟨rfl, by decide, by decide⟩, by decide +kernel⟩ (by decide) (Or.inl kn_232) (Or.inl rfl) e0 rfl rfl (Or.inr ⟨rfl, fN_dv (Or.inr ⟨by decide +kernel, (by decide), (fvI rfl rfl)⟩)⟩) d_Mo_init_1069 ?_
  refine nn_aload_n (pc := 1072) g.1 d_Mo_init_1072 rfl (lv_at hl 0 rfl) ?_
  refine nn_iconst (pc := 1073) g.1 (v := 0) d_Mo_init_1073 (by decide) ?_
  refine nn_put (pc := 1074) (r := 0) (k := 96) (n' := 284) g cl_Mo ⟨⟨rfl, by decide, by decide⟩, by decide +kernel⟩ (by decide) (Or.inl kn_233) (Or.inl rfl) e0 rfl rfl (Or.inr ⟨rfl, fN_dv (Or.inr ⟨by decide +kernel, (by decide), (fvI rfl rfl)⟩)⟩) d_Mo_init_1074 ?_
  exact mo_s12 g hnm hR hkp e0 hm hl
theorem mo_s10 {X : Cx} {q0 q : PL} {ls : Array Slot} {a0 : Nat} {m : Nat × Nat} (g : Gd X y_Mo_init b_Mo_init 2 none 4 81 R_Mo) (hnm : (xh X).name = "<init>") (hR : RtN X q0 105 m 1772) (hkp : Kpp 105 q0 q) (e0 : q.1 0 0 = a0) (hm : Rnn (xP X) q (m.1 + 736, m.2 + 814362)) (hl : lv_has ls 2 [(0, .ref a0)]) : WN X q 255 921 ls [] := by
  refine nn_aload_n (pc := 921) g.1 d_Mo_init_921 rfl (lv_at hl 0 rfl) ?_
  refine nn_bipush (pc := 922) g.1 (v := 7) d_Mo_init_922 (by decide) ?_
  refine nn_anew (pc := 924) (r := 80) (i := 0) (N := 7) (m := (m.1 + 735, m.2 + 814355)) g.gn (by decide) ⟨rfl, by decide, by decide⟩ (by decide +kernel) (by decide) rfl (by decide) (by decide) (fun j hj => hz_80 j hj) (hm.le (by dsimp only; omega) (by dsimp only; omega)) kn_218 kxn_7 d_Mo_init_924 fun q924 a80 hk e80 hm => ?_
  have e0 : q924.1 0 0 = a0 := (hk 0 0 ⟨⟨rfl, by decide, by decide⟩, by decide +kernel⟩).trans e0
  have hkp := hkp.tr hk (by decide)
  refine nn_dup (pc := 927) g.1 d_Mo_init_927 rfl ?_
  refine nn_iconst (pc := 928) g.1 (v := 0) d_Mo_init_928 (by decide) ?_
  refine nn_ldcwS (pc := 929) (t := 46) g.gn (by decide) rfl rfl d_Mo_init_929 ?_
  refine nn_aast (j := 0) (pc := 932) (r := 80) (f := 180000) (fi := 0) g.gn ⟨⟨rfl, by decide, by decide⟩, by decide +kernel⟩ e80 (by decide) (fun H locs _ hS => any_S g.gn (by decide) H locs hS) (by decide) (by decide) (by decide) (Or.inl ⟨rfl, rfl, rfl, rfl, by decide, by decide⟩) (by decide +kernel) d_Mo_init_932 ?_
  refine nn_dup (pc := 933) g.1 d_Mo_init_933 rfl ?_
  refine nn_iconst (pc := 934) g.1 (v := 1) d_Mo_init_934 (by decide) ?_
  refine nn_ldcwS (pc := 935) (t := 47) g.gn (by decide) rfl rfl d_Mo_init_935 ?_
  refine nn_aast (j := 1) (pc := 938) (r := 80) (f := 180001) (fi := 0) g.gn ⟨⟨rfl, by decide, by decide⟩, by decide +kernel⟩ e80 (by decide) (fun H locs _ hS => any_S g.gn (by decide) H locs hS) (by decide) (by decide) (by decide) (Or.inl ⟨rfl, rfl, rfl, rfl, by decide, by decide⟩) (by decide +kernel) d_Mo_init_938 ?_
  refine nn_dup (pc := 939) g.1 d_Mo_init_939 rfl ?_
  refine nn_iconst (pc := 940) g.1 (v := 2) d_Mo_init_940 (by decide) ?_
  refine nn_ldcwS (pc := 941) (t := 48) g.gn (by decide) rfl rfl d_Mo_init_941 ?_
  refine nn_aast (j := 2) (pc := 944) (r := 80) (f := 180002) (fi := 0) g.gn ⟨⟨rfl, by decide, by decide⟩, by decide +kernel⟩ e80 (by decide) (fun H locs _ hS => any_S g.gn (by decide) H locs hS) (by decide) (by decide) (by decide) (Or.inl ⟨rfl, rfl, rfl, rfl, by decide, by decide⟩) (by decide +kernel) d_Mo_init_944 ?_
  refine nn_dup (pc := 945) g.1 d_Mo_init_945 rfl ?_
  refine nn_iconst (pc := 946) g.1 (v := 3) d_Mo_init_946 (by decide) ?_
  refine nn_ldcwS (pc := 947) (t := 49) g.gn (by decide) rfl rfl d_Mo_init_947 ?_
  refine nn_aast (j := 3) (pc := 950) (r := 80) (f := 180003) (fi := 0) g.gn ⟨⟨rfl, by decide, by decide⟩, by decide +kernel⟩ e80 (by decide) (fun H locs _ hS => any_S g.gn (by decide) H locs hS) (by decide) (by decide) (by decide) (Or.inl ⟨rfl, rfl, rfl, rfl, by decide, by decide⟩) (by decide +kernel) d_Mo_init_950 ?_
  refine nn_dup (pc := 951) g.1 d_Mo_init_951 rfl ?_
  refine nn_iconst (pc := 952) g.1 (v := 4) d_Mo_init_952 (by decide) ?_
  refine nn_ldcwS (pc := 953) (t := 50) g.gn (by decide) rfl rfl d_Mo_init_953 ?_
  refine nn_aast (j := 4) (pc := 956) (r := 80) (f := 180004) (fi := 0) g.gn ⟨⟨rfl, by decide, by decide⟩, by decide +kernel⟩ e80 (by decide) (fun H locs _ hS => any_S g.gn (by decide) H locs hS) (by decide) (by decide) (by decide) (Or.inl ⟨rfl, rfl, rfl, rfl, by decide, by decide⟩) (by decide +kernel) d_Mo_init_956 ?_
  refine nn_dup (pc := 957) g.1 d_Mo_init_957 rfl ?_
  refine nn_iconst (pc := 958) g.1 (v := 5) d_Mo_init_958 (by decide) ?_
  refine nn_ldcwS (pc := 959) (t := 51) g.gn (by decide) rfl rfl d_Mo_init_959 ?_
  refine nn_aast (j := 5) (pc := 962) (r := 80) (f := 180005) (fi := 0) g.gn ⟨⟨rfl, by decide, by decide⟩, by decide +kernel⟩ e80 (by decide) (fun H locs _ hS => any_S g.gn (by decide) H locs hS) (by decide) (by decide) (by decide) (Or.inl ⟨rfl, rfl, rfl, rfl, by decide, by decide⟩) (by decide +kernel) d_Mo_init_962 ?_
  refine nn_dup (pc := 963) g.1 d_Mo_init_963 rfl ?_
  refine nn_bipush (pc := 964) g.1 (v := 6) d_Mo_init_964 (by decide) ?_
  refine nn_ldcwS (pc := 966) (t := 52) g.gn (by decide) rfl rfl d_Mo_init_966 ?_
  refine nn_aast (j := 6) (pc := 969) (r := 80) (f := 180006) (fi := 0) g.gn ⟨⟨rfl, by decide, by decide⟩, by decide +kernel⟩ e80 (by decide) (fun H locs _ hS => any_S g.gn (by decide) H locs hS) (by decide) (by decide) (by decide) (Or.inl ⟨rfl, rfl, rfl, rfl, by decide, by decide⟩) (by decide +kernel) d_Mo_init_969 ?_
  refine nn_put (pc := 970) (r := 0) (k := 85) (n' := 264) g cl_Mo ⟨⟨rfl, by decide, by decide⟩, by decide +kernel⟩ (by decide) (Or.inl kn_221) (Or.inr ⟨rfl, hnm, rfl, kn_221⟩) e0 rfl rfl (Or.inl ⟨(by decide +kernel), rfl, (fvR rfl rfl e80)⟩) d_Mo_init_970 ?_
  refine nn_aload_n (pc := 973) g.1 d_Mo_init_973 rfl (lv_at hl 0 rfl) ?_
  refine nn_iconst (pc := 974) g.1 (v := 4) d_Mo_init_974 (by decide) ?_
  refine nn_anew (pc := 975) (r := 81) (i := 0) (N := 4) (m := (m.1 + 734, m.2 + 814351)) g.gn (by decide) ⟨rfl, by decide, by decide⟩ (by decide +kernel) (by decide) rfl (by decide) (by decide) (fun j hj => hz_81 j hj) (hm.le (by dsimp only; omega) (by dsimp only; omega)) kn_218 kxn_7 d_Mo_init_975 fun q975 a81 hk e81 hm => ?_
  have e0 : q975.1 0 0 = a0 := (hk 0 0 ⟨⟨rfl, by decide, by decide⟩, by decide +kernel⟩).trans e0
  have e80 : q975.1 80 0 = a80 := (hk 80 0 ⟨⟨rfl, by decide, by decide⟩, by decide +kernel⟩).trans e80
  have hkp := hkp.tr hk (by decide)
  refine nn_dup (pc := 978) g.1 d_Mo_init_978 rfl ?_
  refine nn_iconst (pc := 979) g.1 (v := 0) d_Mo_init_979 (by decide) ?_
  refine nn_ldcwS (pc := 980) (t := 53) g.gn (by decide) rfl rfl d_Mo_init_980 ?_
  refine nn_aast (j := 0) (pc := 983) (r := 81) (f := 181000) (fi := 0) g.gn ⟨⟨rfl, by decide, by decide⟩, by decide +kernel⟩ e81 (by decide) (fun H locs _ hS => any_S g.gn (by decide) H locs hS) (by decide) (by decide) (by decide) (Or.inl ⟨rfl, rfl, rfl, rfl, by decide, by decide⟩) (by decide +kernel) d_Mo_init_983 ?_
  refine nn_dup (pc := 984) g.1 d_Mo_init_984 rfl ?_
  refine nn_iconst (pc := 985) g.1 (v := 1) d_Mo_init_985 (by decide) ?_
  refine nn_ldcwS (pc := 986) (t := 54) g.gn (by decide) rfl rfl d_Mo_init_986 ?_
  refine nn_aast (j := 1) (pc := 989) (r := 81) (f := 181001) (fi := 0) g.gn ⟨⟨rfl, by decide, by decide⟩, by decide +kernel⟩ e81 (by decide) (fun H locs _ hS => any_S g.gn (by decide) H locs hS) (by decide) (by decide) (by decide) (Or.inl ⟨rfl, rfl, rfl, rfl, by decide, by decide⟩) (by decide +kernel) d_Mo_init_989 ?_
  refine nn_dup (pc := 990) g.1 d_Mo_init_990 rfl ?_
  refine nn_iconst (pc := 991) g.1 (v := 2) d_Mo_init_991 (by decide) ?_
  refine nn_ldcwS (pc := 992) (t := 55) g.gn (by decide) rfl rfl d_Mo_init_992 ?_
  refine nn_aast (j := 2) (pc := 995) (r := 81) (f := 181002) (fi := 0) g.gn ⟨⟨rfl, by decide, by decide⟩, by decide +kernel⟩ e81 (by decide) (fun H locs _ hS => any_S g.gn (by decide) H locs hS) (by decide) (by decide) (by decide) (Or.inl ⟨rfl, rfl, rfl, rfl, by decide, by decide⟩) (by decide +kernel) d_Mo_init_995 ?_
  refine nn_dup (pc := 996) g.1 d_Mo_init_996 rfl ?_
  refine nn_iconst (pc := 997) g.1 (v := 3) d_Mo_init_997 (by decide) ?_
  refine nn_ldcwS (pc := 998) (t := 56) g.gn (by decide) rfl rfl d_Mo_init_998 ?_
  refine nn_aast (j := 3) (pc := 1001) (r := 81) (f := 181003) (fi := 0) g.gn ⟨⟨rfl, by decide, by decide⟩, by decide +kernel⟩ e81 (by decide) (fun H locs _ hS => any_S g.gn (by decide) H locs hS) (by decide) (by decide) (by decide) (Or.inl ⟨rfl, rfl, rfl, rfl, by decide, by decide⟩) (by decide +kernel) d_Mo_init_1001 ?_
  refine nn_put (pc := 1002) (r := 0) (k := 86) (n' := 270) g cl_Mo ⟨⟨rfl, by decide, by decide⟩, by decide +kernel⟩ (by decide) (Or.inl kn_222) (Or.inr ⟨rfl, hnm, rfl, kn_222⟩) e0 rfl rfl (Or.inl ⟨(by decide +kernel), rfl, (fvR rfl rfl e81)⟩) d_Mo_init_1002 ?_
  refine nn_aload_n (pc := 1005) g.1 d_Mo_init_1005 rfl (lv_at hl 0 rfl) ?_
  refine nn_bipush (pc := 1006) g.1 (v := 22) d_Mo_init_1006 (by decide) ?_
  refine nn_arr (pc := 1008) (r := 82) (i := 0) (N := 22) (at0 := .int) (m := (m.1 + 733, m.2 + 814329)) g.gn rfl (by decide) ⟨rfl, by decide, by decide⟩ (by decide +kernel) (by decide) rfl (by decide) (by decide) (hm.le (by dsimp only; omega) (by dsimp only; omega)) kn_9 d_Mo_init_1008 fun q1008 a82 hk e82 hm => ?_
  have e0 : q1008.1 0 0 = a0 := (hk 0 0 ⟨⟨rfl, by decide, by decide⟩, by decide +kernel⟩).trans e0
  have e80 : q1008.1 80 0 = a80 := (hk 80 0 ⟨⟨rfl, by decide, by decide⟩, by decide +kernel⟩).trans e80
  have e81 : q1008.1 81 0 = a81 := (hk 81 0 ⟨⟨rfl, by decide, by decide⟩, by decide +kernel⟩).trans e81
  have hkp := hkp.tr hk (by decide)
  refine nn_put (pc := 1010) (r := 0) (k := 87) (n' := 272) g cl_Mo ⟨⟨rfl, by decide, by decide⟩, by decide +kernel⟩ (by decide) (Or.inl kn_223) (Or.inr ⟨rfl, hnm, rfl, kn_223⟩) e0 rfl rfl (Or.inl ⟨(by decide +kernel), rfl, (fvR rfl rfl e82)⟩) d_Mo_init_1010 ?_
  exact mo_s11 g hnm hR hkp e0 hm hl
theorem mo_s9 {X : Cx} {q0 q : PL} {ls : Array Slot} {a0 : Nat} {m : Nat × Nat} (g : Gd X y_Mo_init b_Mo_init 2 none 4 81 R_Mo) (hnm : (xh X).name = "<init>") (hR : RtN X q0 105 m 1772) (hkp : Kpp 105 q0 q) (e0 : q.1 0 0 = a0) (hm : Rnn (xP X) q (m.1 + 737, m.2 + 814384)) (hl : lv_has ls 2 [(0, .ref a0)]) : WN X q 231 764 ls [] := by
  refine nn_aload_n (pc := 764) g.1 d_Mo_init_764 rfl (lv_at hl 0 rfl) ?_
  refine nn_bipush (pc := 765) g.1 (v := 22) d_Mo_init_765 (by decide) ?_
  refine nn_anew (pc := 767) (r := 79) (i := 0) (N := 22) (m := (m.1 + 736, m.2 + 814362)) g.gn (by decide) ⟨rfl, by decide, by decide⟩ (by decide +kernel) (by decide) rfl (by decide) (by decide) (fun j hj => hz_79 j hj) (hm.le (by dsimp only; omega) (by dsimp only; omega)) kn_218 kxn_7 d_Mo_init_767 fun q767 a79 hk e79 hm => ?_
  have e0 : q767.1 0 0 = a0 := (hk 0 0 ⟨⟨rfl, by decide, by decide⟩, by decide +kernel⟩).trans e0
  have hkp := hkp.tr hk (by decide)
  refine nn_dup (pc := 770) g.1 d_Mo_init_770 rfl ?_
  refine nn_iconst (pc := 771) g.1 (v := 0) d_Mo_init_771 (by decide) ?_
  refine nn_ldcwS (pc := 772) (t := 24) g.gn (by decide) rfl rfl d_Mo_init_772 ?_
  refine nn_aast (j := 0) (pc := 775) (r := 79) (f := 179000) (fi := 0) g.gn ⟨⟨rfl, by decide, by decide⟩, by decide +kernel⟩ e79 (by decide) (fun H locs _ hS => any_S g.gn (by decide) H locs hS) (by decide) (by decide) (by decide) (Or.inl ⟨rfl, rfl, rfl, rfl, by decide, by decide⟩) (by decide +kernel) d_Mo_init_775 ?_
  refine nn_dup (pc := 776) g.1 d_Mo_init_776 rfl ?_
  refine nn_iconst (pc := 777) g.1 (v := 1) d_Mo_init_777 (by decide) ?_
  refine nn_ldcwS (pc := 778) (t := 25) g.gn (by decide) rfl rfl d_Mo_init_778 ?_
  refine nn_aast (j := 1) (pc := 781) (r := 79) (f := 179001) (fi := 0) g.gn ⟨⟨rfl, by decide, by decide⟩, by decide +kernel⟩ e79 (by decide) (fun H locs _ hS => any_S g.gn (by decide) H locs hS) (by decide) (by decide) (by decide) (Or.inl ⟨rfl, rfl, rfl, rfl, by decide, by decide⟩) (by decide +kernel) d_Mo_init_781 ?_
  refine nn_dup (pc := 782) g.1 d_Mo_init_782 rfl ?_
  refine nn_iconst (pc := 783) g.1 (v := 2) d_Mo_init_783 (by decide) ?_
  refine nn_ldcwS (pc := 784) (t := 26) g.gn (by decide) rfl rfl d_Mo_init_784 ?_
  refine nn_aast (j := 2) (pc := 787) (r := 79) (f := 179002) (fi := 0) g.gn ⟨⟨rfl, by decide, by decide⟩, by decide +kernel⟩ e79 (by decide) (fun H locs _ hS => any_S g.gn (by decide) H locs hS) (by decide) (by decide) (by decide) (Or.inl ⟨rfl, rfl, rfl, rfl, by decide, by decide⟩) (by decide +kernel) d_Mo_init_787 ?_
  refine nn_dup (pc := 788) g.1 d_Mo_init_788 rfl ?_
  refine nn_iconst (pc := 789) g.1 (v := 3) d_Mo_init_789 (by decide) ?_
  refine nn_ldcwS (pc := 790) (t := 27) g.gn (by decide) rfl rfl d_Mo_init_790 ?_
  refine nn_aast (j := 3) (pc := 793) (r := 79) (f := 179003) (fi := 0) g.gn ⟨⟨rfl, by decide, by decide⟩, by decide +kernel⟩ e79 (by decide) (fun H locs _ hS => any_S g.gn (by decide) H locs hS) (by decide) (by decide) (by decide) (Or.inl ⟨rfl, rfl, rfl, rfl, by decide, by decide⟩) (by decide +kernel) d_Mo_init_793 ?_
  refine nn_dup (pc := 794) g.1 d_Mo_init_794 rfl ?_
  refine nn_iconst (pc := 795) g.1 (v := 4) d_Mo_init_795 (by decide) ?_
  refine nn_ldcwS (pc := 796) (t := 28) g.gn (by decide) rfl rfl d_Mo_init_796 ?_
  refine nn_aast (j := 4) (pc := 799) (r := 79) (f := 179004) (fi := 0) g.gn ⟨⟨rfl, by decide, by decide⟩, by decide +kernel⟩ e79 (by decide) (fun H locs _ hS => any_S g.gn (by decide) H locs hS) (by decide) (by decide) (by decide) (Or.inl ⟨rfl, rfl, rfl, rfl, by decide, by decide⟩) (by decide +kernel) d_Mo_init_799 ?_
  refine nn_dup (pc := 800) g.1 d_Mo_init_800 rfl ?_
  refine nn_iconst (pc := 801) g.1 (v := 5) d_Mo_init_801 (by decide) ?_
  refine nn_ldcwS (pc := 802) (t := 29) g.gn (by decide) rfl rfl d_Mo_init_802 ?_
  refine nn_aast (j := 5) (pc := 805) (r := 79) (f := 179005) (fi := 0) g.gn ⟨⟨rfl, by decide, by decide⟩, by decide +kernel⟩ e79 (by decide) (fun H locs _ hS => any_S g.gn (by decide) H locs hS) (by decide) (by decide) (by decide) (Or.inl ⟨rfl, rfl, rfl, rfl, by decide, by decide⟩) (by decide +kernel) d_Mo_init_805 ?_
  refine nn_dup (pc := 806) g.1 d_Mo_init_806 rfl ?_
  refine nn_bipush (pc := 807) g.1 (v := 6) d_Mo_init_807 (by decide) ?_
  refine nn_ldcwS (pc := 809) (t := 30) g.gn (by decide) rfl rfl d_Mo_init_809 ?_
  refine nn_aast (j := 6) (pc := 812) (r := 79) (f := 179006) (fi := 0) g.gn ⟨⟨rfl, by decide, by decide⟩, by decide +kernel⟩ e79 (by decide) (fun H locs _ hS => any_S g.gn (by decide) H locs hS) (by decide) (by decide) (by decide) (Or.inl ⟨rfl, rfl, rfl, rfl, by decide, by decide⟩) (by decide +kernel) d_Mo_init_812 ?_
  refine nn_dup (pc := 813) g.1 d_Mo_init_813 rfl ?_
  refine nn_bipush (pc := 814) g.1 (v := 7) d_Mo_init_814 (by decide) ?_
  refine nn_ldcwS (pc := 816) (t := 31) g.gn (by decide) rfl rfl d_Mo_init_816 ?_
  refine nn_aast (j := 7) (pc := 819) (r := 79) (f := 179007) (fi := 0) g.gn ⟨⟨rfl, by decide, by decide⟩, by decide +kernel⟩ e79 (by decide) (fun H locs _ hS => any_S g.gn (by decide) H locs hS) (by decide) (by decide) (by decide) (Or.inl ⟨rfl, rfl, rfl, rfl, by decide, by decide⟩) (by decide +kernel) d_Mo_init_819 ?_
  refine nn_dup (pc := 820) g.1 d_Mo_init_820 rfl ?_
  refine nn_bipush (pc := 821) g.1 (v := 8) d_Mo_init_821 (by decide) ?_
  refine nn_ldcwS (pc := 823) (t := 32) g.gn (by decide) rfl rfl d_Mo_init_823 ?_
  refine nn_aast (j := 8) (pc := 826) (r := 79) (f := 179008) (fi := 0) g.gn ⟨⟨rfl, by decide, by decide⟩, by decide +kernel⟩ e79 (by decide) (fun H locs _ hS => any_S g.gn (by decide) H locs hS) (by decide) (by decide) (by decide) (Or.inl ⟨rfl, rfl, rfl, rfl, by decide, by decide⟩) (by decide +kernel) d_Mo_init_826 ?_
  refine nn_dup (pc := 827) g.1 d_Mo_init_827 rfl ?_
  refine nn_bipush (pc := 828) g.1 (v := 9) d_Mo_init_828 (by decide) ?_
  refine nn_ldcwS (pc := 830) (t := 33) g.gn (by decide) rfl rfl d_Mo_init_830 ?_
  refine nn_aast (j := 9) (pc := 833) (r := 79) (f := 179009) (fi := 0) g.gn ⟨⟨rfl, by decide, by decide⟩, by decide +kernel⟩ e79 (by decide) (fun H locs _ hS => any_S g.gn (by decide) H locs hS) (by decide) (by decide) (by decide) (Or.inl ⟨rfl, rfl, rfl, rfl, by decide, by decide⟩) (by decide +kernel) d_Mo_init_833 ?_
  refine nn_dup (pc := 834) g.1 d_Mo_init_834 rfl ?_
  refine nn_bipush (pc := 835) g.1 (v := 10) d_Mo_init_835 (by decide) ?_
  refine nn_ldcwS (pc := 837) (t := 34) g.gn (by decide) rfl rfl d_Mo_init_837 ?_
  refine nn_aast (j := 10) (pc := 840) (r := 79) (f := 179010) (fi := 0) g.gn ⟨⟨rfl, by decide, by decide⟩, by decide +kernel⟩ e79 (by decide) (fun H locs _ hS => any_S g.gn (by decide) H locs hS) (by decide) (by decide) (by decide) (Or.inl ⟨rfl, rfl, rfl, rfl, by decide, by decide⟩) (by decide +kernel) d_Mo_init_840 ?_
  refine nn_dup (pc := 841) g.1 d_Mo_init_841 rfl ?_
  refine nn_bipush (pc := 842) g.1 (v := 11) d_Mo_init_842 (by decide) ?_
  refine nn_ldcwS (pc := 844) (t := 35) g.gn (by decide) rfl rfl d_Mo_init_844 ?_
  refine nn_aast (j := 11) (pc := 847) (r := 79) (f := 179011) (fi := 0) g.gn ⟨⟨rfl, by decide, by decide⟩, by decide +kernel⟩ e79 (by decide) (fun H locs _ hS => any_S g.gn (by decide) H locs hS) (by decide) (by decide) (by decide) (Or.inl ⟨rfl, rfl, rfl, rfl, by decide, by decide⟩) (by decide +kernel) d_Mo_init_847 ?_
  refine nn_dup (pc := 848) g.1 d_Mo_init_848 rfl ?_
  refine nn_bipush (pc := 849) g.1 (v := 12) d_Mo_init_849 (by decide) ?_
  refine nn_ldcwS (pc := 851) (t := 36) g.gn (by decide) rfl rfl d_Mo_init_851 ?_
  refine nn_aast (j := 12) (pc := 854) (r := 79) (f := 179012) (fi := 0) g.gn ⟨⟨rfl, by decide, by decide⟩, by decide +kernel⟩ e79 (by decide) (fun H locs _ hS => any_S g.gn (by decide) H locs hS) (by decide) (by decide) (by decide) (Or.inl ⟨rfl, rfl, rfl, rfl, by decide, by decide⟩) (by decide +kernel) d_Mo_init_854 ?_
  refine nn_dup (pc := 855) g.1 d_Mo_init_855 rfl ?_
  refine nn_bipush (pc := 856) g.1 (v := 13) d_Mo_init_856 (by decide) ?_
  refine nn_ldcwS (pc := 858) (t := 37) g.gn (by decide) rfl rfl d_Mo_init_858 ?_
  refine nn_aast (j := 13) (pc := 861) (r := 79) (f := 179013) (fi := 0) g.gn ⟨⟨rfl, by decide, by decide⟩, by decide +kernel⟩ e79 (by decide) (fun H locs _ hS => any_S g.gn (by decide) H locs hS) (by decide) (by decide) (by decide) (Or.inl ⟨rfl, rfl, rfl, rfl, by decide, by decide⟩) (by decide +kernel) d_Mo_init_861 ?_
  refine nn_dup (pc := 862) g.1 d_Mo_init_862 rfl ?_
  refine nn_bipush (pc := 863) g.1 (v := 14) d_Mo_init_863 (by decide) ?_
  refine nn_ldcwS (pc := 865) (t := 38) g.gn (by decide) rfl rfl d_Mo_init_865 ?_
  refine nn_aast (j := 14) (pc := 868) (r := 79) (f := 179014) (fi := 0) g.gn ⟨⟨rfl, by decide, by decide⟩, by decide +kernel⟩ e79 (by decide) (fun H locs _ hS => any_S g.gn (by decide) H locs hS) (by decide) (by decide) (by decide) (Or.inl ⟨rfl, rfl, rfl, rfl, by decide, by decide⟩) (by decide +kernel) d_Mo_init_868 ?_
  refine nn_dup (pc := 869) g.1 d_Mo_init_869 rfl ?_
  refine nn_bipush (pc := 870) g.1 (v := 15) d_Mo_init_870 (by decide) ?_
  refine nn_ldcwS (pc := 872) (t := 39) g.gn (by decide) rfl rfl d_Mo_init_872 ?_
  refine nn_aast (j := 15) (pc := 875) (r := 79) (f := 179015) (fi := 0) g.gn ⟨⟨rfl, by decide, by decide⟩, by decide +kernel⟩ e79 (by decide) (fun H locs _ hS => any_S g.gn (by decide) H locs hS) (by decide) (by decide) (by decide) (Or.inl ⟨rfl, rfl, rfl, rfl, by decide, by decide⟩) (by decide +kernel) d_Mo_init_875 ?_
  refine nn_dup (pc := 876) g.1 d_Mo_init_876 rfl ?_
  refine nn_bipush (pc := 877) g.1 (v := 16) d_Mo_init_877 (by decide) ?_
  refine nn_ldcwS (pc := 879) (t := 40) g.gn (by decide) rfl rfl d_Mo_init_879 ?_
  refine nn_aast (j := 16) (pc := 882) (r := 79) (f := 179016) (fi := 0) g.gn ⟨⟨rfl, by decide, by decide⟩, by decide +kernel⟩ e79 (by decide) (fun H locs _ hS => any_S g.gn (by decide) H locs hS) (by decide) (by decide) (by decide) (Or.inl ⟨rfl, rfl, rfl, rfl, by decide, by decide⟩) (by decide +kernel) d_Mo_init_882 ?_
  refine nn_dup (pc := 883) g.1 d_Mo_init_883 rfl ?_
  refine nn_bipush (pc := 884) g.1 (v := 17) d_Mo_init_884 (by decide) ?_
  refine nn_ldcwS (pc := 886) (t := 41) g.gn (by decide) rfl rfl d_Mo_init_886 ?_
  refine nn_aast (j := 17) (pc := 889) (r := 79) (f := 179017) (fi := 0) g.gn ⟨⟨rfl, by decide, by decide⟩, by decide +kernel⟩ e79 (by decide) (fun H locs _ hS => any_S g.gn (by decide) H locs hS) (by decide) (by decide) (by decide) (Or.inl ⟨rfl, rfl, rfl, rfl, by decide, by decide⟩) (by decide +kernel) d_Mo_init_889 ?_
  refine nn_dup (pc := 890) g.1 d_Mo_init_890 rfl ?_
  refine nn_bipush (pc := 891) g.1 (v := 18) d_Mo_init_891 (by decide) ?_
  refine nn_ldcwS (pc := 893) (t := 42) g.gn (by decide) rfl rfl d_Mo_init_893 ?_
  refine nn_aast (j := 18) (pc := 896) (r := 79) (f := 179018) (fi := 0) g.gn ⟨⟨rfl, by decide, by decide⟩, by decide +kernel⟩ e79 (by decide) (fun H locs _ hS => any_S g.gn (by decide) H locs hS) (by decide) (by decide) (by decide) (Or.inl ⟨rfl, rfl, rfl, rfl, by decide, by decide⟩) (by decide +kernel) d_Mo_init_896 ?_
  refine nn_dup (pc := 897) g.1 d_Mo_init_897 rfl ?_
  refine nn_bipush (pc := 898) g.1 (v := 19) d_Mo_init_898 (by decide) ?_
  refine nn_ldcwS (pc := 900) (t := 43) g.gn (by decide) rfl rfl d_Mo_init_900 ?_
  refine nn_aast (j := 19) (pc := 903) (r := 79) (f := 179019) (fi := 0) g.gn ⟨⟨rfl, by decide, by decide⟩, by decide +kernel⟩ e79 (by decide) (fun H locs _ hS => any_S g.gn (by decide) H locs hS) (by decide) (by decide) (by decide) (Or.inl ⟨rfl, rfl, rfl, rfl, by decide, by decide⟩) (by decide +kernel) d_Mo_init_903 ?_
  refine nn_dup (pc := 904) g.1 d_Mo_init_904 rfl ?_
  refine nn_bipush (pc := 905) g.1 (v := 20) d_Mo_init_905 (by decide) ?_
  refine nn_ldcwS (pc := 907) (t := 44) g.gn (by decide) rfl rfl d_Mo_init_907 ?_
  refine nn_aast (j := 20) (pc := 910) (r := 79) (f := 179020) (fi := 0) g.gn ⟨⟨rfl, by decide, by decide⟩, by decide +kernel⟩ e79 (by decide) (fun H locs _ hS => any_S g.gn (by decide) H locs hS) (by decide) (by decide) (by decide) (Or.inl ⟨rfl, rfl, rfl, rfl, by decide, by decide⟩) (by decide +kernel) d_Mo_init_910 ?_
  refine nn_dup (pc := 911) g.1 d_Mo_init_911 rfl ?_
  refine nn_bipush (pc := 912) g.1 (v := 21) d_Mo_init_912 (by decide) ?_
  refine nn_ldcwS (pc := 914) (t := 45) g.gn (by decide) rfl rfl d_Mo_init_914 ?_
  refine nn_aast (j := 21) (pc := 917) (r := 79) (f := 179021) (fi := 0) g.gn ⟨⟨rfl, by decide, by decide⟩, by decide +kernel⟩ e79 (by decide) (fun H locs _ hS => any_S g.gn (by decide) H locs hS) (by decide) (by decide) (by decide) (Or.inl ⟨rfl, rfl, rfl, rfl, by decide, by decide⟩) (by decide +kernel) d_Mo_init_917 ?_
  refine nn_put (pc := 918) (r := 0) (k := 84) (n' := 255) g cl_Mo ⟨⟨rfl, by decide, by decide⟩, by decide +kernel⟩ (by decide) (Or.inl kn_220) (Or.inr ⟨rfl, hnm, rfl, kn_220⟩) e0 rfl rfl (Or.inl ⟨(by decide +kernel), rfl, (fvR rfl rfl e79)⟩) d_Mo_init_918 ?_
  exact mo_s10 g hnm hR hkp e0 hm hl
