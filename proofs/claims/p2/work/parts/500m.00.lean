noncomputable def M_Mo_clear_L129 : (Int32 × (Nat × Nat)) → M ((Int32 × (Nat × Nat)) ⊕ (((Nat × Nat)))) := fun x =>
  oC (33 ≤ x.1)
    (oR (Sum.inr x.2))
    (oB (oK ((0 : Int32) ≤ x.1 ∧ x.1 < (33 : Int32))) fun _ =>
    oB (oPI 3584 x.1 (-1)) fun _ =>
    oR (Sum.inl (x.1 + 1, x.2)))

noncomputable def M_Mo_clear_j61 (ln : Nat × Nat) : M (Unit × (Nat × Nat)) :=
  oB (oPI 33 0 0) fun _ =>
  oB (oPI 34 0 0) fun _ =>
  oB (oPI 35 0 0) fun _ =>
  oB (oPI 36 0 0) fun _ =>
  oB (oPI 37 0 0) fun _ =>
  oB (oPI 38 0 0) fun _ =>
  oB (oPI 39 0 0) fun _ =>
  oB (oPI 40 0 0) fun _ =>
  oB (oPI 41 0 0) fun _ =>
  oB (oPI 54 0 0) fun _ =>
  oB (M_Arr_fill 68 0 0) fun _ =>
  oB (M_Arr_fill___ 58 0 0) fun _ =>
  oB (oW M_Mo_clear_L129 (0, ln)) fun e129 =>
  oB (oPI 898 0 0) fun _ =>
  oB (oPI 1282 0 0) fun _ =>
  oB (oPI 1666 0 0) fun _ =>
  oB (oPI 2050 0 0) fun _ =>
  oB (oPI 64 0 0) fun _ =>
  oB (oPI 75 0 0) fun _ =>
  oB (oPI 73 0 0) fun _ =>
  oB (oPI 80 0 0) fun _ =>
  oB (oPL 81 0 0) fun _ =>
  oB (oPI 95 0 0) fun _ =>
  oB (oPI 74 0 (-1)) fun _ =>
  oB (oK ((0 : Int32) ≤ 0 ∧ 0 < (33 : Int32))) fun _ =>
  oB (oPI 72 0 0) fun _ =>
  oB (oGI 72 0) fun v229 =>
  oB (oK ((0 : Int32) ≤ v229 ∧ v229 < (33 : Int32))) fun _ =>
  oB (oPI 3590 v229 (-1)) fun _ =>
  oB (oPI 92 0 1) fun _ =>
  oR ((), e129)

noncomputable def M_Mo_clear (n0 : Nat × Nat)  : M (Unit × (Nat × Nat)) :=
  oB (oGI 8959 0) fun v1 =>
  oC (v1 = 1)
    (M_Mo_clear_j61 n0)
    (oB (oNw n0 (300000 : Int32).toNatClampNeg) fun m11 =>
    oB (oS fun s => nwR s 69 0 (300000 : Int32).toNatClampNeg) fun _ =>
    oB (oNw m11 (300000 : Int32).toNatClampNeg) fun m20 =>
    oB (oS fun s => nwR s 70 0 (300000 : Int32).toNatClampNeg) fun _ =>
    oB (oNw m20 (300000 : Int32).toNatClampNeg) fun m29 =>
    oB (oS fun s => nwR s 71 0 (300000 : Int32).toNatClampNeg) fun _ =>
    oB (oNw m29 (300000 : Int32).toNatClampNeg) fun m38 =>
    oB (oS fun s => nwR s 72 0 (300000 : Int32).toNatClampNeg) fun _ =>
    oB (oNw m38 (300000 : Int32).toNatClampNeg) fun m47 =>
    oB (oS fun s => nwR s 73 0 (300000 : Int32).toNatClampNeg) fun _ =>
    oB (oNw m47 (300000 : Int32).toNatClampNeg) fun m56 =>
    oB (oS fun s => nwR s 74 0 (300000 : Int32).toNatClampNeg) fun _ =>
    M_Mo_clear_j61 m56)

noncomputable def M_Mo_load__j145 (ln : Nat × Nat) (k0 : Int32) (k1 : Int32) : M (Int32 × (Nat × Nat)) :=
  oB (M_Mo_refuse k1 k0) fun v145 =>
  oC (v145 = 0)
    (oB (oPI 5 0 1) fun _ =>
    oB (oGI 23 0) fun v163 =>
    oR (v163, ln))
    (oB (M_Mo_clear ln) fun v152 =>
    oR (0, v152.2))

noncomputable def M_Mo_load__j119 (ln : Nat × Nat) (k0 : Int32) (k1 : Int32) : M (Int32 × (Nat × Nat)) :=
  oB (M_Mo_refuse k1 k0) fun v119 =>
  oC (v119 = 0)
    (oB (M_Mo_clear ln) fun v128 =>
    oB (M_Mo_begin) fun v134 =>
    oC (v134 = 0)
      (M_Mo_load__j145 v128.2 1 2)
      (M_Mo_load__j145 v128.2 0 2))
    (oR (0, ln))

noncomputable def M_Mo_load__j100 (ln : Nat × Nat) : M (Int32 × (Nat × Nat)) :=
  oB (oPI 1 0 0) fun _ =>
  oB (oGI 3 0) fun v108 =>
  oC (v108 = 0)
    (M_Mo_load__j119 ln 0 1)
    (M_Mo_load__j119 ln 1 1)

noncomputable def M_Mo_load__j89 (ln : Nat × Nat) : M (Int32 × (Nat × Nat)) :=
  oB (oGI 3 0) fun v90 =>
  oC (v90 = 0)
    (oB (M_Mo_lookOver) fun _ =>
    M_Mo_load__j100 ln)
    (M_Mo_load__j100 ln)

noncomputable def M_Mo_load_ (n0 : Nat × Nat)  : M (Int32 × (Nat × Nat)) :=
  oB (oPI 2 0 0) fun _ =>
  oB (oGI 1 0) fun v6 =>
  oB (oPI 5 0 0) fun _ =>
  oB (oPI 3 0 0) fun _ =>
  oB (oPI 4 0 (-1)) fun _ =>
  oB (oPI 28 0 0) fun _ =>
  oB (oPI 23 0 0) fun _ =>
  oB (oPI 24 0 0) fun _ =>
  oB (oPI 25 0 0) fun _ =>
  oB (oPI 26 0 0) fun _ =>
  oB (oPI 27 0 0) fun _ =>
  oB (M_Mo_proto 25 (-1) 1) fun _ =>
  oB (oGI 3 0) fun v62 =>
  oC (v62 = 0)
    (oB (oGI 28 0) fun v69 =>
    oB (oGI 1 0) fun v73 =>
    oC (v69 = v73)
      (M_Mo_load__j89 n0)
      (oB (oGI 28 0) fun v82 =>
      oB (M_Mo_bad 5 v82) fun v85 =>
      M_Mo_load__j89 n0))
    (M_Mo_load__j89 n0)

noncomputable def M_Mo_feed_L60 : (Int32 × Int32 × (Nat × Nat)) → M ((Int32 × Int32 × (Nat × Nat)) ⊕ (((Nat × Nat)))) := fun x =>
  oC (20 ≤ x.2.1)
    (oR (Sum.inr x.2.2))
    (oB (oGI 1 0) fun v73 =>
    oB (oPI 1 0 (v73 + 1)) fun _ =>
    oB (oAI 94 5 x.1 (x.2.1 / 4)) fun v88 =>
    oB (oSI 41 65536 0 v73 (((iushr v88 (24 - (8 * (x.2.1 - x.2.1 / 4 * 4)))).toInt8.toInt32).toInt8.toInt32)) fun _ =>
    oR (Sum.inl (x.1, x.2.1 + 1, x.2.2)))

noncomputable def M_Mo_feed_j22 (l1 : Int32) (l2 : Int32) (l3 : Int32) (l4 : Int32) (l5 : Int32) (ln : Nat × Nat) (k0 : Int32) (k1 : Int32) : M (Int32 × (Nat × Nat)) :=
  oB (M_Mo_refuse k1 k0) fun v22 =>
  oC (v22 = 0)
    (oB (oNw ln (5 : Int32).toNatClampNeg) fun m31 =>
    oB (oS fun s => nwR s 94 0 (5 : Int32).toNatClampNeg) fun _ =>
    oB (oSI 94 5 0 0 l1) fun _ =>
    oB (oSI 94 5 0 1 l2) fun _ =>
    oB (oSI 94 5 0 2 l3) fun _ =>
    oB (oSI 94 5 0 3 l4) fun _ =>
    oB (oSI 94 5 0 4 l5) fun _ =>
    oB (oW M_Mo_feed_L60 (0, 0, m31)) fun e60 =>
    oB (oGI 1 0) fun v109 =>
    oR (v109, e60))
    (oR (0, ln))

noncomputable def M_Mo_feed (n0 : Nat × Nat) (l1 : Int32) (l2 : Int32) (l3 : Int32) (l4 : Int32) (l5 : Int32) : M (Int32 × (Nat × Nat)) :=
  oB (oPI 2 0 0) fun _ =>
  oB (oGI 1 0) fun v8 =>
  oC (v8 ≤ 65516)
    (M_Mo_feed_j22 l1 l2 l3 l4 l5 n0 0 1)
    (M_Mo_feed_j22 l1 l2 l3 l4 l5 n0 1 1)

noncomputable def M_LM_count (l1 : Int32) : M (Int32) :=
  oC (l1 < 0)
    (oR (-1))
    (oC (l1 ≤ 11)
      (oC (l1 = 0)
        (oB (oGI 12800 0) fun v17 =>
        oR v17)
        (oB (oGI 12801 0) fun v22 =>
        oC (v22 = 0)
          (oR 0)
          (oC (l1 = 1)
            (oB (oGI 16641 0) fun v88 =>
            oR v88)
          (oC (l1 = 2)
            (oB (oGI 16393 0) fun v96 =>
            oR v96)
          (oC (l1 = 9)
            (oB (oGI 16392 0) fun v104 =>
            oC (v104 = 0)
              (oB (oGI 16395 0) fun v118 =>
              oB (oPr 148 v118) fun _ =>
              oB (oGI 18948 v118) fun v121 =>
              oR v121)
              (oR 0))
          (oC (l1 = 10)
            (oB (oGI 18050 0) fun v132 =>
            oR v132)
          (oB (oAI 114 15 0 l1) fun v144 =>
          oR v144)))))))
      (oR (-1)))

noncomputable def M_LM_putOnTape_L3 : (Int32 × Int32) → M ((Int32 × Int32) ⊕ ((Unit))) := fun x =>
  oC (x.2 < 0)
    (oR (Sum.inr ()))
    (oB (oGI 12800 0) fun v15 =>
    oB (oSI 108 65536 0 v15 (((x.1 >>> (x.2 &&& 31)).toInt8.toInt32).toInt8.toInt32)) fun _ =>
    oB (oGI 12800 0) fun v25 =>
    oB (oPI 12800 0 (v25 + 1)) fun _ =>
    oR (Sum.inl (x.1, x.2 + (-8))))

noncomputable def M_LM_putOnTape (l1 : Int32) : M (Unit) :=
  oB (oW M_LM_putOnTape_L3 (l1, 24)) fun e3 =>
  oR ()

noncomputable def M_LM_end (l1 : Int32) : M (Int32) :=
  oC (l1 < 0)
    (oF)
    (oB (oGI 12800 0) fun v6 =>
    oC (l1 ≤ v6)
      (oB (oPI 12800 0 l1) fun _ =>
      oR l1)
      (oF))

noncomputable def M_Ch_begin (l1 : Int32) : M (Unit) :=
  oB (oPI 12941 0 l1) fun _ =>
  oB (oPI 12942 0 0) fun _ =>
  oB (oPI 12943 0 0) fun _ =>
  oB (oPI 12944 0 (-1)) fun _ =>
  oB (oPI 12937 0 0) fun _ =>
  oB (oPI 12938 0 0) fun _ =>
  oB (oPI 12939 0 0) fun _ =>
  oB (oPI 12940 0 0) fun _ =>
  oR ()

noncomputable def M_Ch_withoutFullOnes_L2 : (Int32) → M ((Int32) ⊕ ((Int32))) := fun x =>
  oC (x ≤ 0)
    (oR (Sum.inr x))
    (oB (oAI 110 20 0 (x - 1)) fun v13 =>
    oC (v13 = 0)
      (oR (Sum.inl (x + (-1))))
      (oR (Sum.inr x)))

noncomputable def M_Ch_withoutFullOnes (l1 : Int32) : M (Int32) :=
  oB (oW M_Ch_withoutFullOnes_L2 l1) fun e2 =>
  oR e2

noncomputable def M_Ch_refuse (l1 : Int32) (l2 : Int32) : M (Int32) :=
  oB (oPI 12943 0 l1) fun _ =>
  oB (oPI 12944 0 l2) fun _ =>
  oR 0

noncomputable def M_Ch_readNumber_L29 : (Int32 × Int32 × Int32) → M ((Int32 × Int32 × Int32) ⊕ ((Int32 × Int32))) := fun x =>
  oC (x.1 ≤ x.2.2)
    (oR (Sum.inr (x.1, x.2.1)))
    (oB (oGI 12942 0) fun v43 =>
    oB (oAI 108 65536 0 (v43 + x.2.2)) fun v48 =>
    oL ((x.2.1 <<< (8 &&& 31)) ||| (v48 &&& 255)) fun l2_54 =>
    oR (Sum.inl (x.1, l2_54, x.2.2 + 1)))

noncomputable def M_Ch_readNumber (l1 : Int32) : M (Int32) :=
  oB (oGI 12942 0) fun v1 =>
  oB (oGI 12941 0) fun v7 =>
  oC ((v1 + l1) ≤ v7)
    (oB (oW M_Ch_readNumber_L29 (l1, 0, 0)) fun e29 =>
    oB (oGI 12942 0) fun v63 =>
    oB (oPI 12942 0 (v63 + e29.1)) fun _ =>
    oR e29.2)
    (oB (oGI 12942 0) fun v16 =>
    oB (M_Ch_refuse 1 v16) fun v19 =>
    oR (-1))

noncomputable def M_Ch_mostOf (l0 : Int32) (l1 : Int32) : M (Int32) :=
  oC (l1 = 1)
    (oB (oGI 18434 l0) fun v6 =>
    oR v6)
    (oB (oGI 18435 l0) fun v13 =>
    oR v13)

noncomputable def M_Ch_readConstant_j124 (l1 : Int32) (l2 : Int64) : M (Int32) :=
  oB (oGI 12938 0) fun v129 =>
  oB (oSI 105 20000 0 v129 l1.toInt8.toInt32.toInt8.toInt32) fun _ =>
  oB (oGI 12938 0) fun v140 =>
  oB (oSL 106 20000 0 v140 l2) fun _ =>
  oB (oGI 12938 0) fun v147 =>
  oB (oPI 12938 0 (v147 + 1)) fun _ =>
  oR 1

noncomputable def M_Ch_readConstant (l1 : Int32) : M (Int32) :=
  oC (l1 = 3)
    (oB (oGI 12942 0) fun v8 =>
    oB (oGI 12941 0) fun v15 =>
    oC ((v8 + 8) ≤ v15)
      (oB (M_Ch_readNumber 4) fun v33 =>
      oL (v33.toInt64 <<< ((32 : Int32).toInt64 &&& 63)) fun l2_40 =>
      oB (M_Ch_readNumber 4) fun v44 =>
      oL (l2_40 ||| (v44.toInt64 &&& 4294967295)) fun l2_53 =>
      M_Ch_readConstant_j124 l1 l2_53)
      (oB (oGI 12942 0) fun v24 =>
      oB (M_Ch_refuse 1 v24) fun v27 =>
      oB (oK (v27 = 0 ∨ v27 = 1)) fun _ =>
      oR v27))
    (oC (l1 = 4)
      (oB (M_Ch_readNumber 2) fun v64 =>
      oC (0 ≤ v64)
        (oB (oGI 12942 0) fun v77 =>
        oB (oGI 12941 0) fun v84 =>
        oC ((v77 + v64) ≤ v84)
          (oB (oGI 12942 0) fun v101 =>
          oL ((v101.toInt64 <<< ((16 : Int32).toInt64 &&& 63)) ||| v64.toInt64) fun l2_112 =>
          oB (oGI 12942 0) fun v115 =>
          oB (oPI 12942 0 (v115 + v64)) fun _ =>
          M_Ch_readConstant_j124 l1 l2_112)
          (oB (oGI 12942 0) fun v93 =>
          oB (M_Ch_refuse 1 v93) fun v96 =>
          oB (oK (v96 = 0 ∨ v96 = 1)) fun _ =>
          oR v96))
        (oR 0))
      (M_Ch_readConstant_j124 l1 0))

noncomputable def M_Ch_readCode_L55 : (Int32 × Int32) → M ((Int32 × Int32) ⊕ ((Unit) ⊕ (Unit) ⊕ (Unit))) := fun x =>
  oB (oGI 18439 x.1) fun v57 =>
  oC (v57 ≤ x.2)
    (oR (Sum.inr (Sum.inr (Sum.inr ()))))
    (oB (oGI 12942 0) fun v64 =>
    oB (oGI 12941 0) fun v70 =>
    oC ((v64 + 4) ≤ v70)
      (oB (oGI 12938 0) fun v87 =>
      oB (oGI 12939 0) fun v91 =>
      oC ((v87 + v91) < 20000)
        (oB (oGI 12939 0) fun v116 =>
        oB (M_Ch_readNumber 4) fun v121 =>
        oB (oSI 104 20000 0 v116 v121) fun _ =>
        oB (oGI 12939 0) fun v127 =>
        oB (oPI 12939 0 (v127 + 1)) fun _ =>
        oR (Sum.inl (x.1, x.2 + 1)))
        (oR (Sum.inr (Sum.inr (Sum.inl ())))))
      (oR (Sum.inr (Sum.inl ()))))

noncomputable def M_Ch_readCode (l1 : Int32) : M (Int32) :=
  oB (oGI 12939 0) fun v2 =>
  oB (oPI 18440 l1 v2) fun _ =>
  oB (M_Ch_readNumber 2) fun v11 =>
  oB (oPI 18439 l1 v11) fun _ =>
  oB (oGI 18439 l1) fun v18 =>
  oC (0 ≤ v18)
    (oB (oGI 18439 l1) fun v27 =>
    oC (v27 = 0)
      (oB (oGI 12942 0) fun v36 =>
      oB (M_Ch_refuse 2 (v36 - 2)) fun v41 =>
      oB (oK (v41 = 0 ∨ v41 = 1)) fun _ =>
      oR v41)
      (oB (oGI 12942 0) fun v47 =>
      oB (oPI 18441 l1 v47) fun _ =>
      oB (oW M_Ch_readCode_L55 (l1, 0)) fun e55 =>
      Sum.elim
        (fun y55_76 : Unit =>
          oB (oGI 12942 0) fun v79 =>
          oB (M_Ch_refuse 1 v79) fun v82 =>
          oB (oK (v82 = 0 ∨ v82 = 1)) fun _ =>
          oR v82)
        (Sum.elim
          (fun y55_101 : Unit =>
            oB (oGI 12942 0) fun v104 =>
            oB (M_Ch_refuse 4 v104) fun v107 =>
            oB (oK (v107 = 0 ∨ v107 = 1)) fun _ =>
            oR v107)
          (fun y55_141 : Unit =>
            oR 1)) e55))
    (oR 0)

noncomputable def M_Ch_listChildren_L4 : (Int32 × Int32) → M ((Int32 × Int32) ⊕ ((Unit))) := fun x =>
  oB (oGI 12937 0) fun v6 =>
  oC (v6 ≤ x.2)
    (oR (Sum.inr ()))
    (oB (oPz 144 250 x.2) fun _ =>
    oB (oPI 18443 x.2 x.1) fun _ =>
    oB (oPz 144 250 x.2) fun _ =>
    oB (oGI 18442 x.2) fun v29 =>
    oL (x.1 + v29) fun l1_33 =>
    oB (oPz 144 250 x.2) fun _ =>
    oB (oPI 18442 x.2 0) fun _ =>
    oR (Sum.inl (l1_33, x.2 + 1)))

noncomputable def M_Ch_listChildren_L52 : (Int32) → M ((Int32) ⊕ ((Unit))) := fun x =>
  oB (oGI 12937 0) fun v54 =>
  oC (v54 ≤ x)
    (oR (Sum.inr ()))
    (oB (oPz 144 250 x) fun _ =>
    oB (oGI 18444 x) fun v70 =>
    oB (oPz 144 250 v70) fun _ =>
    oB (oGI 18443 v70) fun v80 =>
    oB (oGI 18442 v70) fun v84 =>
    oB (oSI 103 250 0 (v80 + v84) x) fun _ =>
    oB (oGI 18442 v70) fun v92 =>
    oB (oPI 18442 v70 (v92 + 1)) fun _ =>
    oR (Sum.inl (x + 1)))

noncomputable def M_Ch_listChildren  : M (Unit) :=
  oB (oW M_Ch_listChildren_L4 (0, 0)) fun e4 =>
  oB (oW M_Ch_listChildren_L52 1) fun e52 =>
  oR ()

noncomputable def M_Ch_isThere_j92  : M (Int32) :=
  oR 1

noncomputable def M_Ch_isThere_j86 (l0 : Int32) : M (Int32) :=
  oC (l0 = 45)
    (M_Ch_isThere_j92)
    (oR 0)

noncomputable def M_Ch_isThere_j75 (l0 : Int32) (l1 : Int32) : M (Int32) :=
  oC (l0 = 84)
    (oC (l1 ≤ 1)
      (M_Ch_isThere_j92)
      (M_Ch_isThere_j86 l0))
    (M_Ch_isThere_j86 l0)

noncomputable def M_Ch_isThere_j61 (l0 : Int32) (l1 : Int32) (l2 : Int32) : M (Int32) :=
  oC (l0 = 85)
    (oB (oGI 18435 l2) fun v69 =>
    oC (l1 < v69)
      (M_Ch_isThere_j92)
      (M_Ch_isThere_j75 l0 l1))
    (M_Ch_isThere_j75 l0 l1)

noncomputable def M_Ch_isThere (l0 : Int32) (l1 : Int32) (l2 : Int32) : M (Int32) :=
  oC (l0 = 75)
    (oC (256 ≤ l1)
      (oB (oGI 18437 l2) fun v35 =>
      oC (v35 ≤ (l1 - 256))
        (oR 0)
        (oR 1))
      (oB (oGI 18434 l2) fun v15 =>
      oC (v15 ≤ l1)
        (oR 0)
        (oR 1)))
    (oC (l0 = 82)
      (oB (oGI 18434 l2) fun v55 =>
      oC (l1 < v55)
        (M_Ch_isThere_j92)
        (M_Ch_isThere_j61 l0 l1 l2))
      (M_Ch_isThere_j61 l0 l1 l2))

noncomputable def M_Ch_lastOfRow (l0 : Int32) (l1 : Int32) (l2 : Int32) (l3 : Int32) : M (Int32) :=
  oC (l0 = 4)
    (oR (l1 + l2))
  (oC (l0 = 12)
    (oR (l1 + 1))
  (oC (l0 = 30)
    (oR (l1 - 1))
  (oC (l0 = 36)
    (oB (M_Mth_max ((l1 + l2) - 1) ((l1 + l3) - 2)) fun v206 =>
    oR v206)
  (oC (l0 = 37)
    (oR ((l1 + l2) - 1))
  (oC (l0 = 38)
    (oR ((l1 + l2) - 2))
  (oC (l0 = 39)
    (oR (l1 + 3))
  (oC (l0 = 40)
    (oR (l1 + 3))
  (oC (l0 = 41)
    (oR ((l1 + 2) + l3))
  (oC (l0 = 42)
    (oR (l1 + 1))
  (oC (l0 = 43)
    (oR (l1 + l2))
  (oC (l0 = 45)
    (oR ((l1 + l2) - 2))
  (oR 0))))))))))))

noncomputable def M_Ch_usesOpenRow_j40  : M (Int32) :=
  oR 0

noncomputable def M_Ch_usesOpenRow_j36  : M (Int32) :=
  oR 1

noncomputable def M_Ch_usesOpenRow (l0 : Int32) : M (Int32) :=
  oL (l0 &&& 63) fun l1_4 =>
  oC ((iushr l0 (23 : Int32)) = 0)
    (oC (l1_4 = 36)
      (M_Ch_usesOpenRow_j36)
      (oC (l1_4 = 37)
        (M_Ch_usesOpenRow_j36)
        (oC (l1_4 = 38)
          (M_Ch_usesOpenRow_j36)
          (oC (l1_4 = 43)
            (M_Ch_usesOpenRow_j36)
            (M_Ch_usesOpenRow_j40)))))
    (M_Ch_usesOpenRow_j40)

noncomputable def M_Ch_opensRow_j39  : M (Int32) :=
  oR 0

noncomputable def M_Ch_opensRow_j35  : M (Int32) :=
  oR 1

noncomputable def M_Ch_opensRow_j22 (l0 : Int32) (l1 : Int32) : M (Int32) :=
  oC (l1 = 45)
    (oC ((iushr l0 (23 : Int32)) = 0)
      (M_Ch_opensRow_j35)
      (M_Ch_opensRow_j39))
    (M_Ch_opensRow_j39)

noncomputable def M_Ch_opensRow (l0 : Int32) : M (Int32) :=
  oL (l0 &&& 63) fun l1_4 =>
  oC (l1_4 = 36)
    (oC (((iushr l0 (14 : Int32)) &&& 511) = 0)
      (M_Ch_opensRow_j35)
      (M_Ch_opensRow_j22 l0 l1_4))
    (M_Ch_opensRow_j22 l0 l1_4)

noncomputable def M_He_restart_j56 (l1 : Int32) : M ((Int32) ⊕ ((Unit))) :=
  oR (Sum.inl (l1 + 1))

noncomputable def M_He_restart_L31 : (Int32) → M ((Int32) ⊕ ((Unit))) := fun x =>
  oC (32 ≤ x)
    (oR (Sum.inr ()))
    (oB (oNz 148 32 x) fun v42 =>
    oC (v42 = -1)
      (M_He_restart_j56 x)
      (oB (oPz 148 32 x) fun _ =>
      oB (oPI 18950 x (-1)) fun _ =>
      M_He_restart_j56 x))

noncomputable def M_He_restart  : M (Unit) :=
  oB (oPI 14209 0 0) fun _ =>
  oB (oPI 14211 0 0) fun _ =>
  oB (M_Arr_fill_____ 114 0 0 12 0) fun _ =>
  oB (M_Arr_fill 117 0 (-1)) fun _ =>
  oB (oW M_He_restart_L31 0) fun e31 =>
  oR ()

noncomputable def M_Arr_checkLength (l0 : Int32) (l1 : Int32) : M (Unit) :=
  oC (l0 ≤ l1)
    (oR ())
    (oF)

noncomputable def M_Ta_restart  : M (Unit) :=
  oB (oPI 15367 0 0) fun _ =>
  oR ()

noncomputable def M_Ro_clear (l0r : Nat) (l0 : Int32) : M (Unit) :=
  oB (oPI (128 * l0r + 2) l0 0) fun _ =>
  oR ()

noncomputable def M_He_isFull_j31  : M (Int32) :=
  oR 1

noncomputable def M_He_isFull_j35  : M (Int32) :=
  oR 0

noncomputable def M_He_isFull (l1 : Int32) : M (Int32) :=
  oB (oAI 114 15 0 3) fun v5 =>
  oB (oGI 14220 0) fun v7 =>
  oC (v7 ≤ v5)
    (M_He_isFull_j31)
    (oC (l1 = 7)
      (oB (oAI 114 15 0 11) fun v25 =>
      oC (v25 < 32)
        (M_He_isFull_j35)
        (M_He_isFull_j31))
      (M_He_isFull_j35))

noncomputable def M_He_reach (l1 : Int32) (l2 : Int64) : M (Unit) :=
  oC (l1 < 4)
    (oR ())
    (oC (0 ≤ (lg_cmp l2 0))
      (oB (oPz 145 4000 l2.toInt32) fun _ =>
      oB (oGI 18562 l2.toInt32) fun v23 =>
      oC (v23 = 0)
        (oB (oPz 145 4000 l2.toInt32) fun _ =>
        oB (oPI 18562 l2.toInt32 1) fun _ =>
        oC (l1 = 4)
          (oR ())
          (oB (oGI 14219 0) fun v50 =>
          oB (oSI 119 4000 0 v50 l2.toInt32) fun _ =>
          oB (oGI 14219 0) fun v58 =>
          oB (oPI 14219 0 (v58 + 1)) fun _ =>
          oR ()))
        (oR ()))
      (oR ()))

noncomputable def M_He_reachRow_L3 : (Nat × Int32 × Nat × Int32 × Int32 × Int32) → M ((Nat × Int32 × Nat × Int32 × Int32 × Int32) ⊕ ((Unit))) := fun x =>
  oC (x.2.2.2.2.1 ≤ x.2.2.2.2.2)
    (oR (Sum.inr ()))
    (oB (oLn x.1 x.2.1) fun n14 =>
    oB (oAI x.1 n14 x.2.1 x.2.2.2.2.2) fun v14 =>
    oB (oLn x.2.2.1 x.2.2.2.1) fun n18 =>
    oB (oAL x.2.2.1 n18 x.2.2.2.1 x.2.2.2.2.2) fun v18 =>
    oB (M_He_reach v14 v18) fun _ =>
    oR (Sum.inl (x.1, x.2.1, x.2.2.1, x.2.2.2.1, x.2.2.2.2.1, x.2.2.2.2.2 + 1)))

noncomputable def M_He_reachRow (l1r : Nat) (l1 : Int32) (l2r : Nat) (l2 : Int32) (l3 : Int32) (l4 : Int32) : M (Unit) :=
  oB (oW M_He_reachRow_L3 (l1r, l1, l2r, l2, l4, l3)) fun e3 =>
  oR ()

noncomputable def M_He_reachFromCoroutine_L12 : (Int32 × Int32) → M ((Int32 × Int32) ⊕ ((Int32))) := fun x =>
  oB (oGI 18949 x.1) fun v14 =>
  oC (v14 ≤ x.2)
    (oR (Sum.inr x.1))
    (oB (oAI 149 4000 x.1 x.2) fun v26 =>
    oB (oAL 150 4000 x.1 x.2) fun v32 =>
    oB (M_He_reach v26 v32) fun _ =>
    oR (Sum.inl (x.1, x.2 + 1)))

noncomputable def M_He_reachFromCoroutine_L44 : (Int32 × Int32) → M ((Int32 × Int32) ⊕ ((Int32))) := fun x =>
  oB (oGI 18948 x.1) fun v46 =>
  oC (v46 ≤ x.2)
    (oR (Sum.inr x.1))
    (oB (oK ((0 : Int32) ≤ x.2 ∧ x.2 < (200 : Int32))) fun _ =>
    oB (oGI 19457 (x.1 * 200 + x.2)) fun v61 =>
    oB (M_He_reach 6 v61.toInt64) fun _ =>
    oB (oK ((0 : Int32) ≤ x.2 ∧ x.2 < (200 : Int32))) fun _ =>
    oB (oGI 19462 (x.1 * 200 + x.2)) fun v75 =>
    oB (oK ((0 : Int32) ≤ x.2 ∧ x.2 < (200 : Int32))) fun _ =>
    oB (oGL 19463 (x.1 * 200 + x.2)) fun v84 =>
    oB (M_He_reach v75 v84) fun _ =>
    oR (Sum.inl (x.1, x.2 + 1)))

noncomputable def M_He_reachFromCoroutine_L103 : (Int32 × Int32) → M ((Int32 × Int32) ⊕ ((Unit))) := fun x =>
  oC (x.1 < 0)
    (oR (Sum.inr ()))
    (oC (4000 ≤ x.2)
      (oR (Sum.inr ()))
      (oB (M_He_reach 8 x.1.toInt64) fun _ =>
      oB (oPz 145 4000 x.1) fun _ =>
      oB (oGI 18565 x.1) fun v128 =>
      oR (Sum.inl (v128, x.2 + 1))))

noncomputable def M_He_reachFromCoroutine (l1 : Int32) : M (Unit) :=
  oB (oGL 18953 l1) fun v4 =>
  oB (M_He_reach 6 v4) fun _ =>
  oB (oW M_He_reachFromCoroutine_L12 (l1, 0)) fun e12 =>
  oB (oW M_He_reachFromCoroutine_L44 (e12, 0)) fun e44 =>
  oB (oGI 18954 e44) fun v97 =>
  oB (oW M_He_reachFromCoroutine_L103 (v97, 0)) fun e103 =>
  oR ()

noncomputable def M_He_reachFrom_L55 : (Int32 × Int32) → M ((Int32 × Int32) ⊕ ((Unit))) := fun x =>
  oB (oGI 18571 x.1) fun v57 =>
  oB (oGI 18573 x.1) fun v61 =>
  oC ((v57 + v61) ≤ x.2)
    (oR (Sum.inr ()))
    (oB (oAI 121 50000 0 x.2) fun v77 =>
    oB (oAL 122 50000 0 x.2) fun v86 =>
    oB (M_He_reach v77 v86) fun _ =>
    oB (oAI 123 50000 0 x.2) fun v99 =>
    oB (oAL 124 50000 0 x.2) fun v108 =>
    oB (M_He_reach v99 v108) fun _ =>
    oR (Sum.inl (x.1, x.2 + 1)))

noncomputable def M_He_reachFrom_L142 : (Int32 × Int32 × Int32) → M ((Int32 × Int32 × Int32) ⊕ ((Unit))) := fun x =>
  oC (x.2.1 ≤ x.2.2)
    (oR (Sum.inr ()))
    (oB (oGI 18943 x.1) fun v151 =>
    oB (oK (v151 = 1)) fun _ =>
    oB (oLn 147 x.1) fun n155 =>
    oB (oAI 147 n155 x.1 x.2.2) fun v155 =>
    oB (M_He_reach 8 v155.toInt64) fun _ =>
    oR (Sum.inl (x.1, x.2.1, x.2.2 + 1)))

noncomputable def M_He_reachFrom (l1 : Int32) : M (Unit) :=
  oB (oGI 18560 l1) fun v1 =>
  oC (v1 = 5)
    (oB (oGI 18574 l1) fun v43 =>
    oB (M_He_reach 5 v43.toInt64) fun _ =>
    oB (oGI 18571 l1) fun v51 =>
    oB (oW M_He_reachFrom_L55 (l1, v51)) fun e55 =>
    oR ())
  (oC (v1 = 6)
    (oB (oGI 18564 l1) fun v132 =>
    oB (oPz 144 250 v132) fun _ =>
    oB (oGI 18435 v132) fun v136 =>
    oB (oW M_He_reachFrom_L142 (l1, v136, 0)) fun e142 =>
    oR ())
  (oC (v1 = 9)
    (oB (oGI 18564 l1) fun v173 =>
    oB (M_He_reach 7 v173.toInt64) fun _ =>
    oR ())
  (oB (oGI 18564 l1) fun v184 =>
  oC (0 ≤ v184)
    (oB (oGI 18564 l1) fun v210 =>
    oB (oPz 148 32 v210) fun _ =>
    oB (oGI 18566 l1) fun v221 =>
    oB (oAI 149 4000 v210 v221) fun v224 =>
    oB (oGI 18566 l1) fun v230 =>
    oB (oAL 150 4000 v210 v230) fun v233 =>
    oB (M_He_reach v224 v233) fun _ =>
    oR ())
    (oB (oGI 18567 l1) fun v192 =>
    oB (oGL 18568 l1) fun v196 =>
    oB (M_He_reach v192 v196) fun _ =>
    oR ()))))

noncomputable def M_He_dropFromBucket_L54 : (Int32 × Int32 × Int32) → M ((Int32 × Int32 × Int32) ⊕ ((Int32 × Int32))) := fun x =>
  oB (oPz 145 4000 x.2.1) fun _ =>
  oB (oGI 18565 x.2.1) fun v61 =>
  oC (v61 = x.1)
    (oR (Sum.inr (x.1, x.2.1)))
    (oC (4000 ≤ x.2.2)
      (oR (Sum.inr (x.1, x.2.1)))
      (oB (oPz 145 4000 x.2.1) fun _ =>
      oB (oGI 18565 x.2.1) fun v83 =>
      oR (Sum.inl (x.1, v83, x.2.2 + 1))))

noncomputable def M_He_dropFromBucket_j94 (l1 : Int32) (l4 : Int32) : M (Unit) :=
  oB (oPz 145 4000 l4) fun _ =>
  oB (oPz 145 4000 l1) fun _ =>
  oB (oGI 18565 l1) fun v107 =>
  oB (oPI 18565 l4 v107) fun _ =>
  oR ()

noncomputable def M_He_dropFromBucket (l1 : Int32) : M (Unit) :=
  oB (oPz 145 4000 l1) fun _ =>
  oB (oGI 18566 l1) fun v6 =>
  oL ((v6 ^^^ (iushr v6 (15 : Int32))) &&& 4095) fun l3_20 =>
  oB (oAI 117 4096 0 l3_20) fun v26 =>
  oC (v26 = l1)
    (oB (oPz 145 4000 l1) fun _ =>
    oB (oGI 18565 l1) fun v46 =>
    oB (oSI 117 4096 0 l3_20 v46) fun _ =>
    oR ())
    (oB (oW M_He_dropFromBucket_L54 (l1, v26, 0)) fun e54 =>
    M_He_dropFromBucket_j94 e54.1 e54.2)

noncomputable def M_Ta_release (l1 : Int32) : M (Unit) :=
  oB (oGI 18572 l1) fun v1 =>
  oC (v1 ≤ 0)
    (oR ())
    (oB (oGI 18571 l1) fun v12 =>
    oB (oGI 18572 l1) fun v16 =>
    oB (oSI 127 50000 0 v12 (-v16)) fun _ =>
    oB (oAI 114 15 0 6) fun v31 =>
    oB (oGI 18572 l1) fun v33 =>
    oB (oSI 114 15 0 6 (v31 - v33)) fun _ =>
    oR ())

noncomputable def M_He_closeFrom_L8 : (Int32 × Int32 × Int32 × Int32) → M ((Int32 × Int32 × Int32 × Int32) ⊕ ((Int32 × Int32))) := fun x =>
  oC (x.2.2.1 < 0)
    (oR (Sum.inr (x.1, x.2.2.1)))
    (oB (oPz 145 4000 x.2.2.1) fun _ =>
    oB (oGI 18566 x.2.2.1) fun v18 =>
    oC (v18 < x.2.1)
      (oR (Sum.inr (x.1, x.2.2.1)))
      (oC (4000 ≤ x.2.2.2)
        (oR (Sum.inr (x.1, x.2.2.1)))
        (oB (oPz 145 4000 x.2.2.1) fun _ =>
        oB (oGI 18566 x.2.2.1) fun v49 =>
        oB (oAI 149 4000 x.1 v49) fun v52 =>
        oB (oPI 18567 x.2.2.1 v52) fun _ =>
        oB (oGI 18566 x.2.2.1) fun v64 =>
        oB (oAL 150 4000 x.1 v64) fun v67 =>
        oB (oPL 18568 x.2.2.1 v67) fun _ =>
        oB (oPI 18564 x.2.2.1 (-1)) fun _ =>
        oB (oGI 18565 x.2.2.1) fun v79 =>
        oR (Sum.inl (x.1, x.2.1, v79, x.2.2.2 + 1)))))

noncomputable def M_He_closeFrom_j89 (l1 : Int32) (l3 : Int32) : M (Unit) :=
  oB (oPI 18954 l1 l3) fun _ =>
  oR ()

noncomputable def M_He_closeFrom (l1 : Int32) (l2 : Int32) : M (Unit) :=
  oB (oGI 18954 l1) fun v1 =>
  oB (oW M_He_closeFrom_L8 (l1, l2, v1, 0)) fun e8 =>
  M_He_closeFrom_j89 e8.1 e8.2

noncomputable def M_He_takeSlot (n0 : Nat × Nat)  : M (Int32 × (Nat × Nat)) :=
  oB (oGI 14211 0) fun v1 =>
  oC (v1 ≤ 0)
    (oB (oGI 14209 0) fun v28 =>
    oB (oGI 14209 0) fun v34 =>
    oB (oPI 14209 0 (v34 + 1)) fun _ =>
    oB (oNz 145 4000 v28) fun v47 =>
    oC (v47 = -1)
      (oB (oK ((0 : Int32) ≤ v28 ∧ v28 < (4000 : Int32))) fun _ =>
      oB (oKs fun s => gTg s v28) fun _ =>
      oB (oNw n0 (nfF 145)) fun m56 =>
      oB (oS fun s => nwO s 145 v28) fun _ =>
      oR (v28, m56))
      (oR (v28, n0)))
    (oB (oGI 14211 0) fun v9 =>
    oB (oPI 14211 0 (v9 - 1)) fun _ =>
    oB (oGI 14211 0) fun v22 =>
    oB (oAI 113 4000 0 v22) fun v25 =>
    oR (v25, n0))

noncomputable def M_He_isSame_L11 : (Int32 × Nat × Int32 × Int32 × Int32 × Int32) → M ((Int32 × Nat × Int32 × Int32 × Int32 × Int32) ⊕ ((Unit) ⊕ (Unit))) := fun x =>
  oC (x.2.2.2.2.1 ≤ x.2.2.2.2.2)
    (oR (Sum.inr (Sum.inr ())))
    (oB (oLn 146 x.1) fun n20 =>
    oB (oAI 146 n20 x.1 x.2.2.2.2.2) fun v20 =>
    oB (oLn x.2.1 x.2.2.1) fun n26 =>
    oB (oAI x.2.1 n26 x.2.2.1 (x.2.2.2.1 + x.2.2.2.2.2)) fun v26 =>
    oC (v20 = v26)
      (oR (Sum.inl (x.1, x.2.1, x.2.2.1, x.2.2.2.1, x.2.2.2.2.1, x.2.2.2.2.2 + 1)))
      (oR (Sum.inr (Sum.inl ()))))

noncomputable def M_He_isSame (l0 : Int32) (l1r : Nat) (l1 : Int32) (l2 : Int32) (l3 : Int32) : M (Int32) :=
  oB (oLn 146 l0) fun n1 =>
  oC (n1 = l3)
    (oB (oW M_He_isSame_L11 (l0, l1r, l1, l2, l3, 0)) fun e11 =>
    Sum.elim
      (fun y11_30 : Unit =>
        oR 0)
      (fun y11_38 : Unit =>
        oR 1) e11)
    (oR 0)

noncomputable def M_Ta_spread (l0 : Int32) (l1 : Int64) (l3 : Int32) : M (Int32) :=
  oR (((lushr (((l1 * 8) + l0.toInt64) * (-7046029254386353131)) (40 : Int32)).toInt32) &&& (l3 - 1))

noncomputable def M_Ta_append (l1 : Int32) (l2 : Int32) (l3 : Int64) (l5 : Int32) (l6 : Int64) : M (Unit) :=
  oB (oGI 18571 l1) fun v1 =>
  oB (oGI 18573 l1) fun v5 =>
  oL (v1 + v5) fun l8_9 =>
  oB (oGI 18571 l1) fun v12 =>
  oB (oGI 18572 l1) fun v18 =>
  oB (M_Ta_spread l2 l3 v18) fun v21 =>
  oL (v12 + v21) fun l9_25 =>
  oB (oSI 121 50000 0 l8_9 l2.toInt8.toInt32.toInt8.toInt32) fun _ =>
  oB (oSL 122 50000 0 l8_9 l3) fun _ =>
  oB (oSI 123 50000 0 l8_9 l5.toInt8.toInt32.toInt8.toInt32) fun _ =>
  oB (oSL 124 50000 0 l8_9 l6) fun _ =>
  oB (oAI 125 50000 0 l9_25) fun v75 =>
  oB (oSI 126 50000 0 l8_9 v75) fun _ =>
  oB (oGI 18573 l1) fun v84 =>
  oB (oSI 125 50000 0 l9_25 v84) fun _ =>
  oB (oGI 18573 l1) fun v90 =>
  oB (oPI 18573 l1 (v90 + 1)) fun _ =>
  oR ()

noncomputable def M_Ta_closeUp_j176 (l1 : Int32) (l2 : Int32) (l3 : Int32) (l5 : Int32) : M ((Int32 × Int32 × Int32) ⊕ ((Int32))) :=
  oL (l2 + l5) fun l2_180 =>
  oR (Sum.inl (l1, l2_180, l3 + 1))

noncomputable def M_Ta_closeUp_j52 (l1 : Int32) (l2 : Int32) (l3 : Int32) (l4 : Int32) (k0 : Int32) : M ((Int32 × Int32 × Int32) ⊕ ((Int32))) :=
  oC (l4 < 0)
    (M_Ta_closeUp_j176 l1 l2 l3 k0)
    (oB (oCI 121 0 50000 121 0 50000 l2 l1 k0) fun _ =>
    oB (oCL 122 0 50000 122 0 50000 l2 l1 k0) fun _ =>
    oB (oCI 123 0 50000 123 0 50000 l2 l1 k0) fun _ =>
    oB (oCL 124 0 50000 124 0 50000 l2 l1 k0) fun _ =>
    oB (oCI 125 0 50000 125 0 50000 l2 l1 k0) fun _ =>
    oB (oCI 126 0 50000 126 0 50000 l2 l1 k0) fun _ =>
    oB (oSI 127 50000 0 l1 l4) fun _ =>
    oB (oPz 145 4000 l4) fun _ =>
    oB (oPI 18571 l4 l1) fun _ =>
    oL (l1 + k0) fun l1_175 =>
    M_Ta_closeUp_j176 l1_175 l2 l3 k0)

noncomputable def M_Ta_closeUp_L6 : (Int32 × Int32 × Int32) → M ((Int32 × Int32 × Int32) ⊕ ((Int32))) := fun x =>
  oC (50000 ≤ x.2.2)
    (oR (Sum.inr x.1))
    (oB (oGI 15367 0) fun v14 =>
    oC (v14 ≤ x.2.1)
      (oR (Sum.inr x.1))
      (oB (oAI 127 50000 0 x.2.1) fun v25 =>
      oC (0 ≤ v25)
        (oB (oPz 145 4000 v25) fun _ =>
        oB (oGI 18572 v25) fun v49 =>
        M_Ta_closeUp_j52 x.1 x.2.1 x.2.2 v25 v49)
        (M_Ta_closeUp_j52 x.1 x.2.1 x.2.2 v25 (-v25))))

noncomputable def M_Ta_closeUp_j187 (l1 : Int32) : M (Unit) :=
  oB (oPI 15367 0 l1) fun _ =>
  oR ()

noncomputable def M_Ta_closeUp  : M (Unit) :=
  oB (oW M_Ta_closeUp_L6 (0, 0, 0)) fun e6 =>
  M_Ta_closeUp_j187 e6

noncomputable def M_Co_init_L39 : (Int32 × Int32 × (Nat × Nat)) → M ((Int32 × Int32 × (Nat × Nat)) ⊕ (((Nat × Nat)))) := fun x =>
  oC (200 ≤ x.2.1)
    (oR (Sum.inr x.2.2))
    (oB (oGI 19455 x.1) fun v47 =>
    oB (oK (v47 = 1)) fun _ =>
    oB (oK ((0 : Int32) ≤ x.2.1 ∧ x.2.1 < (200 : Int32))) fun _ =>
    oB (oK ((0 : Int32) ≤ x.1 ∧ x.1 < (32 : Int32))) fun _ =>
    oB (oKs fun s => gFm s (x.1 * 200 + x.2.1)) fun _ =>
    oB (oNw x.2.2 (nfF 152)) fun m51 =>
    oB (oS fun s => nwO s 152 (x.1 * 200 + x.2.1)) fun _ =>
    oR (Sum.inl (x.1, x.2.1 + 1, m51)))

noncomputable def M_Co_init (n0 : Nat × Nat) (l0 : Int32) (l1 : Int32) : M (Unit × (Nat × Nat)) :=
  oB (oKs fun s => ¬ prs s 148 l0) fun _ =>
  oB (oNw n0 (4000 : Int32).toNatClampNeg) fun m8 =>
  oB (oS fun s => nwR s 149 l0 (4000 : Int32).toNatClampNeg) fun _ =>
  oB (oKs fun s => ¬ prs s 148 l0) fun _ =>
  oB (oNw m8 (4000 : Int32).toNatClampNeg) fun m17 =>
  oB (oS fun s => nwR s 150 l0 (4000 : Int32).toNatClampNeg) fun _ =>
  oB (oKs fun s => ¬ prs s 148 l0 ∧ ∀ x, x < 200 → gI s 19583 (l0 * 200 + Int32.ofNat x) ≠ 1) fun _ =>
  oB (oNw m17 (200 : Int32).toNatClampNeg) fun m26 =>
  oB (oS fun s => nwR s 151 l0 (200 : Int32).toNatClampNeg) fun _ =>
  oB (oPI 19587 l0 l1) fun _ =>
  oB (oW M_Co_init_L39 (l0, 0, m26)) fun e39 =>
  oR ((), e39)

noncomputable def M_Co_restart (l0 : Int32) (l1 : Int32) (l2 : Int64) : M (Unit) :=
  oB (oPI 18948 l0 0) fun _ =>
  oB (oPI 18949 l0 0) fun _ =>
  oB (oPI 18950 l0 l1) fun _ =>
  oB (oPI 18951 l0 0) fun _ =>
  oB (oPI 18952 l0 0) fun _ =>
  oB (oPL 18953 l0 l2) fun _ =>
  oB (oPI 18954 l0 (-1)) fun _ =>
  oB (oPI 18955 l0 (-1)) fun _ =>
  oR ()

noncomputable def M_Ma_begin (l1 : Int32) : M (Unit) :=
  oB (oPI 18951 l1 1) fun _ =>
  oB (oPI 18952 l1 1) fun _ =>
  oB (oPL 18953 l1 (-1)) fun _ =>
  oR ()

noncomputable def M_Co_push (l0 : Int32) (l1 : Int32) (l2 : Int32) (l3 : Int32) : M (Int32) :=
  oB (oGI 18948 l0) fun v1 =>
  oC (200 ≤ v1)
    (oR 0)
    (oB (oGI 18949 l0) fun v11 =>
    oC ((v11 + l3) ≤ 4000)
      (oB (oGI 18948 l0) fun v29 =>
      oB (oK ((0 : Int32) ≤ v29 ∧ v29 < (200 : Int32))) fun _ =>
      oB (oPI 19456 (l0 * 200 + v29) l1) fun _ =>
      oB (oPI 19457 (l0 * 200 + v29) l2) fun _ =>
      oB (oGI 18949 l0) fun v50 =>
      oB (oPI 19459 (l0 * 200 + v29) v50) fun _ =>
      oB (oPI 19460 (l0 * 200 + v29) 0) fun _ =>
      oB (oPI 19461 (l0 * 200 + v29) 0) fun _ =>
      oB (oPI 19462 (l0 * 200 + v29) 0) fun _ =>
      oB (oPL 19463 (l0 * 200 + v29) 0) fun _ =>
      oB (oGI 18949 l0) fun v82 =>
      oB (oPI 18949 l0 (v82 + l3)) fun _ =>
      oB (oGI 18948 l0) fun v92 =>
      oB (oPI 18948 l0 (v92 + 1)) fun _ =>
      oR 1)
      (oR 0))

noncomputable def M_Ma_raise (l1 : Int32) (l2 : Int64) : M (Unit) :=
  oB (oPI 16399 0 l1) fun _ =>
  oB (oPL 16400 0 l2) fun _ =>
  oB (oPI 16401 0 0) fun _ =>
  oB (oPI 16396 0 5) fun _ =>
  oR ()

noncomputable def M_Co_top (l0 : Int32) : M (Int32) :=
  oB (oGI 18948 l0) fun v5 =>
  oB (oK ((0 : Int32) ≤ (v5 - 1) ∧ (v5 - 1) < (200 : Int32))) fun _ =>
  oR (l0 * 200 + (v5 - 1))

noncomputable def M_LM_fault_j17 (l1 : Int32) : M (Int32) :=
  oC (l1 = 0)
    (oB (oGI 12943 0) fun v25 =>
    oR v25)
    (oB (oGI 12944 0) fun v35 =>
    oR v35)

noncomputable def M_LM_fault (l1 : Int32) : M (Int32) :=
  oC (l1 = 0)
    (M_LM_fault_j17 l1)
    (oC (l1 = 1)
      (M_LM_fault_j17 l1)
      (oF))

noncomputable def M_LM_limit (l1 : Int32) : M (Int32) :=
  oC (l1 < 200)
    (oF)
    (oC (l1 ≤ 4000)
      (oB (oGI 14220 0) fun v26 =>
      oB (oPI 14220 0 l1) fun _ =>
      oR v26)
      (oF))

noncomputable def M_St_decode  : M (Unit) :=
  oB (oGI 16395 0) fun v5 =>
  oB (oPr 148 v5) fun _ =>
  oB (oPI 16516 0 v5) fun _ =>
  oB (oGI 16516 0) fun v13 =>
  oB (oPr 148 v13) fun _ =>
  oB (M_Co_top v13) fun v16 =>
  oB (oPr 152 v16) fun _ =>
  oB (oPI 16517 0 v16) fun _ =>
  oB (oGI 16517 0) fun v24 =>
  oB (oPr 152 v24) fun _ =>
  oB (oGI 19458 v24) fun v27 =>
  oB (oPr 144 v27) fun _ =>
  oB (oPI 16518 0 v27) fun _ =>
  oB (oGI 16517 0) fun v35 =>
  oB (oPr 152 v35) fun _ =>
  oB (oGI 19459 v35) fun v38 =>
  oB (oPI 16519 0 v38) fun _ =>
  oB (oGI 16518 0) fun v52 =>
  oB (oPr 144 v52) fun _ =>
  oB (oGI 18440 v52) fun v55 =>
  oB (oGI 16517 0) fun v59 =>
  oB (oPr 152 v59) fun _ =>
  oB (oGI 19461 v59) fun v62 =>
  oB (oAI 104 20000 0 ((v55 + v62) - 1)) fun v68 =>
  oB (oPI 16520 0 (v68 &&& 63)) fun _ =>
  oB (oPI 16521 0 ((iushr v68 (6 : Int32)) &&& 255)) fun _ =>
  oB (oPI 16522 0 (iushr v68 (23 : Int32))) fun _ =>
  oB (oPI 16523 0 ((iushr v68 (14 : Int32)) &&& 511)) fun _ =>
  oB (oPI 16524 0 (iushr v68 (14 : Int32))) fun _ =>
  oR ()

noncomputable def M_St_upvalue (l1 : Int32) : M (Int32) :=
  oB (oGI 16517 0) fun v8 =>
  oB (oPr 152 v8) fun _ =>
  oB (oGI 19457 v8) fun v11 =>
  oB (oPz 145 4000 v11) fun _ =>
  oB (oGI 18943 v11) fun v15 =>
  oB (oK (v15 = 1)) fun _ =>
  oB (oLn 147 v11) fun n19 =>
  oB (oAI 147 n19 v11 l1) fun v19 =>
  oR v19

noncomputable def M_He_variableKind (l1 : Int32) : M (Int32) :=
  oB (oPz 145 4000 l1) fun _ =>
  oB (oGI 18564 l1) fun v8 =>
  oC (0 ≤ v8)
    (oB (oGI 18564 l1) fun v26 =>
    oB (oPz 148 32 v26) fun _ =>
    oB (oGI 18566 l1) fun v34 =>
    oB (oAI 149 4000 v26 v34) fun v37 =>
    oR v37)
    (oB (oGI 18567 l1) fun v15 =>
    oR v15)

noncomputable def M_He_variableValue (l1 : Int32) : M (Int64) :=
  oB (oPz 145 4000 l1) fun _ =>
  oB (oGI 18564 l1) fun v8 =>
  oC (0 ≤ v8)
    (oB (oGI 18564 l1) fun v26 =>
    oB (oPz 148 32 v26) fun _ =>
    oB (oGI 18566 l1) fun v34 =>
    oB (oAL 150 4000 v26 v34) fun v37 =>
    oR v37)
    (oB (oGL 18568 l1) fun v15 =>
    oR v15)

noncomputable def M_St_kindOf (l1 : Int32) : M (Int32) :=
  oC (256 ≤ l1)
    (oB (oGI 16518 0) fun v32 =>
    oB (oPr 144 v32) fun _ =>
    oB (oGI 18438 v32) fun v35 =>
    oB (oAI 105 20000 0 ((v35 + l1) - 256)) fun v44 =>
    oR v44)
    (oB (oGI 16516 0) fun v8 =>
    oB (oPr 148 v8) fun _ =>
    oB (oGI 16519 0) fun v15 =>
    oB (oAI 149 4000 v8 (v15 + l1)) fun v20 =>
    oR v20)

noncomputable def M_St_valueOf (l1 : Int32) : M (Int64) :=
  oC (256 ≤ l1)
    (oB (oGI 16518 0) fun v32 =>
    oB (oPr 144 v32) fun _ =>
    oB (oGI 18438 v32) fun v35 =>
    oB (oAL 106 20000 0 ((v35 + l1) - 256)) fun v44 =>
    oR v44)
    (oB (oGI 16516 0) fun v8 =>
    oB (oPr 148 v8) fun _ =>
    oB (oGI 16519 0) fun v15 =>
    oB (oAL 150 4000 v8 (v15 + l1)) fun v20 =>
    oR v20)

noncomputable def M_Ro_add (l0r : Nat) (l0 : Int32) (l1 : Int32) (l2 : Int64) : M (Unit) :=
  oB (oGI (128 * l0r + 2) l0) fun v1 =>
  oC (512 ≤ v1)
    (oR ())
    (oB (oGI (128 * l0r + 2) l0) fun v15 =>
    oB (oSI (l0r + 1) 512 l0 v15 l1.toInt8.toInt32.toInt8.toInt32) fun _ =>
    oB (oGI (128 * l0r + 2) l0) fun v26 =>
    oB (oSL (l0r + 2) 512 l0 v26 l2) fun _ =>
    oB (oGI (128 * l0r + 2) l0) fun v33 =>
    oB (oPI (128 * l0r + 2) l0 (v33 + 1)) fun _ =>
    oR ())

noncomputable def M_St_set (l1 : Int32) (l2 : Int32) (l3 : Int64) : M (Unit) :=
  oB (oGI 16516 0) fun v1 =>
  oB (oPr 148 v1) fun _ =>
  oB (oGI 16519 0) fun v8 =>
  oB (oSI 149 4000 v1 (v8 + l1) l2.toInt8.toInt32.toInt8.toInt32) fun _ =>
  oB (oGI 16516 0) fun v17 =>
  oB (oPr 148 v17) fun _ =>
  oB (oGI 16519 0) fun v24 =>
  oB (oSL 150 4000 v17 (v24 + l1) l3) fun _ =>
  oR ()

noncomputable def M_He_setVariable (l1 : Int32) (l2 : Int32) (l3 : Int64) : M (Unit) :=
  oB (oPz 145 4000 l1) fun _ =>
  oB (oGI 18564 l1) fun v10 =>
  oC (0 ≤ v10)
    (oB (oGI 18564 l1) fun v37 =>
    oB (oPz 148 32 v37) fun _ =>
    oB (oGI 18566 l1) fun v46 =>
    oB (oSI 149 4000 v37 v46 l2.toInt8.toInt32.toInt8.toInt32) fun _ =>
    oB (oGI 18564 l1) fun v58 =>
    oB (oPz 148 32 v58) fun _ =>
    oB (oGI 18566 l1) fun v67 =>
    oB (oSL 150 4000 v58 v67 l3) fun _ =>
    oR ())
    (oB (oPI 18567 l1 l2) fun _ =>
    oB (oPL 18568 l1 l3) fun _ =>
    oR ())

noncomputable def M_St_shifted (l0 : Int64) (l2 : Int64) : M (Int64) :=
  oC ((lg_cmp l2 (-64)) ≤ 0)
    (oR 0)
    (oC ((lg_cmp l2 64) < 0)
      (oC ((lg_cmp l2 0) < 0)
        (oR (lushr l0 ((-l2).toInt32)))
        (oR (l0 <<< (l2.toInt32.toInt64 &&& 63))))
      (oR 0))

noncomputable def M_St_isTrue (l1 : Int32) : M (Int32) :=
  oB (M_St_kindOf l1) fun v2 =>
  oC (v2 ≤ 1)
    (oR 0)
    (oR 1)

noncomputable def M_St_jump  : M (Unit) :=
  oB (oGI 16517 0) fun v1 =>
  oB (oPr 152 v1) fun _ =>
  oB (oGI 19461 v1) fun v5 =>
  oB (oGI 16524 0) fun v9 =>
  oB (oPI 19461 v1 (v5 + (v9 - 131071))) fun _ =>
  oR ()

noncomputable def M_St_decide_j30 (k0 : Int32) (k1 : Int32) (k2 : Int32) : M (Unit) :=
  oB (oPI 19461 k2 (k1 + k0)) fun _ =>
  oR ()

noncomputable def M_St_decide_j22 (k0 : Int32) (k1 : Int32) (k2 : Int32) (k3 : Int32) : M (Unit) :=
  oC (k1 = k0)
    (M_St_decide_j30 0 k2 k3)
    (M_St_decide_j30 1 k2 k3)

noncomputable def M_St_decide (l1 : Int32) : M (Unit) :=
  oB (oGI 16517 0) fun v1 =>
  oB (oPr 152 v1) fun _ =>
  oB (oGI 19461 v1) fun v5 =>
  oB (oGI 16521 0) fun v10 =>
  oC (v10 = 1)
    (M_St_decide_j22 1 l1 v5 v1)
    (M_St_decide_j22 0 l1 v5 v1)

noncomputable def M_St_compared_L10 : (Int32 × Int32 × Int32 × Int32) → M ((Int32 × Int32 × Int32 × Int32) ⊕ ((Int32 × Int32 × Int32) ⊕ (Int32 × Int32))) := fun x =>
  oC (x.2.2.1 ≤ x.2.2.2)
    (oR (Sum.inr (Sum.inr (x.1, x.2.1))))
    (oB (oLn 146 x.1) fun n17 =>
    oB (oAI 146 n17 x.1 x.2.2.2) fun v17 =>
    oB (oLn 146 x.2.1) fun n20 =>
    oB (oAI 146 n20 x.2.1 x.2.2.2) fun v20 =>
    oC (v17 = v20)
      (oR (Sum.inl (x.1, x.2.1, x.2.2.1, x.2.2.2 + 1)))
      (oR (Sum.inr (Sum.inl (x.1, x.2.1, x.2.2.2)))))

noncomputable def M_St_compared (l0 : Int32) (l1 : Int32) : M (Int32) :=
  oB (oLn 146 l0) fun n1 =>
  oB (oLn 146 l1) fun n3 =>
  oB (M_Mth_min n1 n3) fun v4 =>
  oB (oW M_St_compared_L10 (l0, l1, v4, 0)) fun e10 =>
  Sum.elim
    (fun y10_24 : Int32 × Int32 × Int32 =>
      oB (oLn 146 y10_24.1) fun n26 =>
      oB (oAI 146 n26 y10_24.1 y10_24.2.2) fun v26 =>
      oB (oLn 146 y10_24.2.1) fun n33 =>
      oB (oAI 146 n33 y10_24.2.1 y10_24.2.2) fun v33 =>
      oR ((v26 &&& 255) - (v33 &&& 255)))
    (fun y10_46 : Int32 × Int32 =>
      oB (oLn 146 y10_46.1) fun n47 =>
      oB (oLn 146 y10_46.2) fun n49 =>
      oR (n47 - n49)) e10

noncomputable def M_Co_pop (l0 : Int32) : M (Unit) :=
  oB (oGI 18948 l0) fun v2 =>
  oB (oPI 18948 l0 (v2 - 1)) fun _ =>
  oB (oGI 18948 l0) fun v16 =>
  oB (oK ((0 : Int32) ≤ v16 ∧ v16 < (200 : Int32))) fun _ =>
  oB (oGI 19459 (l0 * 200 + v16)) fun v20 =>
  oB (oPI 18949 l0 v20) fun _ =>
  oR ()

noncomputable def M_St_takeFurther_j167 (l1 : Int32) (l2 : Int32) (k0 : Int64) (k1 : Int32) (k2 : Int32) : M ((Int32 × Int32) ⊕ ((Unit))) :=
  oB (M_St_set k2 k1 k0) fun _ =>
  oR (Sum.inl (l1, l2 + 1))

noncomputable def M_St_takeFurther_j148 (l1 : Int32) (l2 : Int32) (l3 : Int32) (k0 : Int32) (k1 : Int32) : M ((Int32 × Int32) ⊕ ((Unit))) :=
  oC (l3 = 0)
    (M_St_takeFurther_j167 l1 l2 0 k0 k1)
    (oB (oGI 16516 0) fun v153 =>
    oB (oPr 148 v153) fun _ =>
    oB (oAL 150 4000 v153 (l1 + l2)) fun v162 =>
    M_St_takeFurther_j167 l1 l2 v162 k0 k1)

noncomputable def M_St_takeFurther_j121 (l1 : Int32) (l2 : Int32) (k0 : Int32) : M ((Int32 × Int32) ⊕ ((Unit))) :=
  oB (oGI 16521 0) fun v124 =>
  oC (k0 = 0)
    (M_St_takeFurther_j148 l1 l2 k0 0 (v124 + l2))
    (oB (oGI 16516 0) fun v134 =>
    oB (oPr 148 v134) fun _ =>
    oB (oAI 149 4000 v134 (l1 + l2)) fun v143 =>
    M_St_takeFurther_j148 l1 l2 k0 v143 (v124 + l2))

noncomputable def M_St_takeFurther_L95 : (Int32 × Int32) → M ((Int32 × Int32) ⊕ ((Unit))) := fun x =>
  oB (oGI 16522 0) fun v97 =>
  oC ((v97 - 1) ≤ x.2)
    (oR (Sum.inr ()))
    (oB (oGI 16517 0) fun v107 =>
    oB (oPr 152 v107) fun _ =>
    oB (oGI 19460 v107) fun v110 =>
    oC (v110 ≤ x.2)
      (M_St_takeFurther_j121 x.1 x.2 0)
      (M_St_takeFurther_j121 x.1 x.2 1))

noncomputable def M_St_takeFurther_L43 : (Int32 × Int32) → M ((Int32 × Int32) ⊕ ((Unit))) := fun x =>
  oB (oGI 16517 0) fun v45 =>
  oB (oPr 152 v45) fun _ =>
  oB (oGI 19460 v45) fun v48 =>
  oC (v48 ≤ x.2)
    (oR (Sum.inr ()))
    (oB (oGI 16516 0) fun v62 =>
    oB (oPr 148 v62) fun _ =>
    oB (oAI 149 4000 v62 (x.1 + x.2)) fun v71 =>
    oB (oGI 16516 0) fun v73 =>
    oB (oPr 148 v73) fun _ =>
    oB (oAL 150 4000 v73 (x.1 + x.2)) fun v82 =>
    oB (M_Ro_add 138 0 v71 v82) fun _ =>
    oR (Sum.inl (x.1, x.2 + 1)))

noncomputable def M_St_takeFurther  : M (Unit) :=
  oB (oGI 16519 0) fun v1 =>
  oB (oGI 16518 0) fun v5 =>
  oB (oPr 144 v5) fun _ =>
  oB (oGI 18434 v5) fun v8 =>
  oL (v1 + v8) fun l1_12 =>
  oB (oGI 16522 0) fun v14 =>
  oC (v14 = 0)
    (oB (oGI 16521 0) fun v25 =>
    oB (oPI 16390 0 v25) fun _ =>
    oB (M_Ro_clear 138 0) fun _ =>
    oB (oW M_St_takeFurther_L43 (l1_12, 0)) fun e43 =>
    oR ())
    (oB (oW M_St_takeFurther_L95 (l1_12, 0)) fun e95 =>
    oR ())

noncomputable def M_Ro_addFirst (l0r : Nat) (l0 : Int32) (l1 : Int32) (l2 : Int64) : M (Unit) :=
  oB (oGI (128 * l0r + 2) l0) fun v1 =>
  oC (512 ≤ v1)
    (oR ())
    (oB (oGI (128 * l0r + 2) l0) fun v21 =>
    oB (oCI (l0r + 1) l0 512 (l0r + 1) l0 512 0 1 v21) fun _ =>
    oB (oGI (128 * l0r + 2) l0) fun v38 =>
    oB (oCL (l0r + 2) l0 512 (l0r + 2) l0 512 0 1 v38) fun _ =>
    oB (oSI (l0r + 1) 512 l0 0 l1.toInt8.toInt32.toInt8.toInt32) fun _ =>
    oB (oSL (l0r + 2) 512 l0 0 l2) fun _ =>
    oB (oGI (128 * l0r + 2) l0) fun v61 =>
    oB (oPI (128 * l0r + 2) l0 (v61 + 1)) fun _ =>
    oR ())

noncomputable def M_Ma_coroutineOf (l1 : Int32) : M (Int32) :=
  oB (oPz 145 4000 l1) fun _ =>
  oB (oGI 18564 l1) fun v16 =>
  oB (oPz 148 32 v16) fun _ =>
  oR v16

noncomputable def M_Ro_takeAll (l0r : Nat) (l0 : Int32) (l1r : Nat) (l1 : Int32) : M (Unit) :=
  oB (oGI (128 * l1r + 2) l1) fun v11 =>
  oB (oCI (l1r + 1) l1 512 (l0r + 1) l0 512 0 0 v11) fun _ =>
  oB (oGI (128 * l1r + 2) l1) fun v28 =>
  oB (oCL (l1r + 2) l1 512 (l0r + 2) l0 512 0 0 v28) fun _ =>
  oB (oGI (128 * l1r + 2) l1) fun v36 =>
  oB (oPI (128 * l0r + 2) l0 v36) fun _ =>
  oB (oPI (128 * l1r + 2) l1 0) fun _ =>
  oR ()

noncomputable def M_Bu_printByte (l1 : Int32) : M (Unit) :=
  oB (oGI 16641 0) fun v1 =>
  oC (20000 ≤ v1)
    (oR ())
    (oB (oGI 16641 0) fun v15 =>
    oB (oSI 131 20000 0 v15 l1.toInt8.toInt32.toInt8.toInt32) fun _ =>
    oB (oGI 16641 0) fun v23 =>
    oB (oPI 16641 0 (v23 + 1)) fun _ =>
    oR ())

noncomputable def M_Bu_printBytes (l1r : Nat) (l1 : Int32) (l2 : Int32) : M (Unit) :=
  oB (oGI 16641 0) fun v5 =>
  oB (M_Mth_min l2 (20000 - v5)) fun v9 =>
  oB (oGI 16641 0) fun v20 =>
  oB (oLn l1r l1) fun n24a =>
  oB (oCI l1r l1 n24a 131 0 20000 0 v20 v9) fun _ =>
  oB (oGI 16641 0) fun v29 =>
  oB (oPI 16641 0 (v29 + v9)) fun _ =>
  oR ()

noncomputable def M_He_numberOf (l1 : Int64) : M (Int64) :=
  oC (0 ≤ (lg_cmp l1 0))
    (oB (oPz 145 4000 l1.toInt32) fun _ =>
    oB (oGI 18561 l1.toInt32) fun v21 =>
    oR v21.toInt64)
    (oR ((-1) - l1))

noncomputable def M_Ro_kindAt (l0r : Nat) (l0 : Int32) (l1 : Int32) : M (Int32) :=
  oB (oGI (128 * l0r + 2) l0) fun v2 =>
  oC (v2 ≤ l1)
    (oR 0)
    (oB (oAI (l0r + 1) 512 l0 l1) fun v13 =>
    oR v13)

noncomputable def M_Ro_valueAt (l0r : Nat) (l0 : Int32) (l1 : Int32) : M (Int64) :=
  oB (oGI (128 * l0r + 2) l0) fun v2 =>
  oC (v2 ≤ l1)
    (oR 0)
    (oB (oAL (l0r + 2) 512 l0 l1) fun v13 =>
    oR v13)

noncomputable def M_Bu_typeOf (l0 : Int32) : M (Int32) :=
  oC (1 < l0)
    (oR (l0 - 1))
    (oR l0)

noncomputable def M_Ro_dropFirst (l0r : Nat) (l0 : Int32) (l1 : Int32) : M (Unit) :=
  oB (oGI (128 * l0r + 2) l0) fun v2 =>
  oB (M_Mth_max 0 (v2 - l1)) fun v7 =>
  oB (oGI (128 * l0r + 2) l0) fun v16 =>
  oB (oCI (l0r + 1) l0 512 (l0r + 1) l0 512 (v16 - v7) 0 v7) fun _ =>
  oB (oGI (128 * l0r + 2) l0) fun v35 =>
  oB (oCL (l0r + 2) l0 512 (l0r + 2) l0 512 (v35 - v7) 0 v7) fun _ =>
  oB (oPI (128 * l0r + 2) l0 v7) fun _ =>
  oR ()

noncomputable def M_Bu_addEntry_j38 (k0 : Int64) (k1 : Int32) : M (Unit) :=
  oB (M_Ro_add 135 0 k1 k0) fun _ =>
  oR ()

noncomputable def M_Bu_addEntry_j21 (l1 : Int32) (k0 : Int32) : M (Unit) :=
  oC (0 ≤ l1)
    (oB (oAL 124 50000 0 l1) fun v37 =>
    M_Bu_addEntry_j38 v37 k0)
    (M_Bu_addEntry_j38 0 k0)

noncomputable def M_Bu_addEntry (l1 : Int32) : M (Unit) :=
  oC (0 ≤ l1)
    (oB (oAI 123 50000 0 l1) fun v20 =>
    M_Bu_addEntry_j21 l1 v20)
    (M_Bu_addEntry_j21 l1 0)

noncomputable def M_Bu_bytesOfFirst  : M (Int32) :=
  oB (M_Ro_valueAt 132 0 0) fun v12 =>
  oB (oPz 145 4000 v12.toInt32) fun _ =>
  oB (oGI 18815 v12.toInt32) fun v17 =>
  oB (oK (v17 = 1)) fun _ =>
  oR v12.toInt32

noncomputable def M_Bu_addTruth_j13 (k0 : Int32) : M (Unit) :=
  oB (M_Ro_add 135 0 k0 0) fun _ =>
  oR ()

noncomputable def M_Bu_addTruth (l1 : Int32) : M (Unit) :=
  oC (l1 = 0)
    (M_Bu_addTruth_j13 1)
    (M_Bu_addTruth_j13 2)

noncomputable def M_Bu_isNumberSign_j37  : M (Int32) :=
  oR 0

noncomputable def M_Bu_isNumberSign  : M (Int32) :=
  oB (M_Ro_kindAt 132 0 0) fun v5 =>
  oC (v5 = 4)
    (oB (M_Bu_bytesOfFirst) fun v15 =>
    oB (oPr 146 v15) fun _ =>
    oB (oLn 146 v15) fun n20 =>
    oC (n20 = 1)
      (oB (oLn 146 v15) fun n27 =>
      oB (oAI 146 n27 v15 0) fun v27 =>
      oC (v27 = 35)
        (oR 1)
        (M_Bu_isNumberSign_j37))
      (M_Bu_isNumberSign_j37))
    (oR 0)

noncomputable def M_Bu_fromFront (l0 : Int64) (l2 : Int32) : M (Int64) :=
  oC ((lg_cmp l0 0) < 0)
    (oC (0 ≤ (lg_cmp l0 ((-l2).toInt64)))
      (oR ((l2.toInt64 + l0) + 1))
      (oR 0))
    (oR l0)

noncomputable def M_Ma_backToResumer (l1 : Int32) : M (Int32) :=
  oB (oGI 16395 0) fun v1 =>
  oB (oPr 148 v1) fun _ =>
  oB (oGI 18955 v1) fun v14 =>
  oB (oPz 148 32 v14) fun _ =>
  oB (oPI 16395 0 v14) fun _ =>
  oB (oPI 18951 v1 l1) fun _ =>
  oB (oPI 18955 v1 (-1)) fun _ =>
  oB (oGI 16395 0) fun v32 =>
  oB (oPr 148 v32) fun _ =>
  oB (oPI 18951 v32 1) fun _ =>
  oB (oGI 16395 0) fun v40 =>
  oB (oPr 148 v40) fun _ =>
  oB (M_Co_top v40) fun v43 =>
  oB (oPr 152 v43) fun _ =>
  oB (oGI 19456 v43) fun v46 =>
  oB (oGI 16395 0) fun v51 =>
  oB (oPr 148 v51) fun _ =>
  oB (M_Co_pop v51) fun _ =>
  oR v46

noncomputable def M_Bu_tellRunning_j39 (k0 : Int32) : M (Unit) :=
  oB (M_Bu_addTruth k0) fun _ =>
  oR ()

noncomputable def M_Bu_tellRunning  : M (Unit) :=
  oB (oGI 16395 0) fun v10 =>
  oB (oPr 148 v10) fun _ =>
  oB (oGI 18950 v10) fun v13 =>
  oB (M_Ro_add 135 0 7 v13.toInt64) fun _ =>
  oB (oGI 16395 0) fun v25 =>
  oB (oPr 148 v25) fun _ =>
  oB (oGI 18955 v25) fun v28 =>
  oC (0 ≤ v28)
    (M_Bu_tellRunning_j39 0)
    (M_Bu_tellRunning_j39 1)

noncomputable def M_Ma_give (l1 : Int32) (l2 : Int64) : M (Unit) :=
  oB (M_Ro_clear 135 0) fun _ =>
  oB (M_Ro_add 135 0 l1 l2) fun _ =>
  oB (oPI 16396 0 3) fun _ =>
  oR ()

noncomputable def M_St_setAll_L2 : (Int32 × Int32 × Int32) → M ((Int32 × Int32 × Int32) ⊕ ((Unit))) := fun x =>
  oC (x.2.1 ≤ x.2.2)
    (oR (Sum.inr ()))
    (oB (M_Ro_kindAt 135 0 x.2.2) fun v19 =>
    oB (M_Ro_valueAt 135 0 x.2.2) fun v30 =>
    oB (M_St_set (x.1 + x.2.2) v19 v30) fun _ =>
    oR (Sum.inl (x.1, x.2.1, x.2.2 + 1)))

noncomputable def M_St_setAll (l1 : Int32) (l2 : Int32) : M (Unit) :=
  oB (oW M_St_setAll_L2 (l1, l2, 0)) fun e2 =>
  oR ()

noncomputable def M_St_isText_j10  : M (Int32) :=
  oR 1

noncomputable def M_St_isText (l0 : Int32) : M (Int32) :=
  oC (l0 = 4)
    (M_St_isText_j10)
    (oC (l0 = 3)
      (M_St_isText_j10)
      (oR 0))

noncomputable def M_St_forgetJoined  : M (Unit) :=
  oB (oGI 16517 0) fun v1 =>
  oB (oPr 152 v1) fun _ =>
  oB (oPI 19462 v1 0) fun _ =>
  oB (oGI 16517 0) fun v9 =>
  oB (oPr 152 v9) fun _ =>
  oB (oPL 19463 v9 0) fun _ =>
  oR ()

noncomputable def M_Ma_empty (l1 : Int32) : M (Unit) :=
  oB (M_He_closeFrom l1 0) fun _ =>
  oB (oPI 18948 l1 0) fun _ =>
  oB (oPI 18949 l1 0) fun _ =>
  oR ()

noncomputable def M_Ma_endWithError  : M (Unit) :=
  oB (oGI 16395 0) fun v1 =>
  oB (oPr 148 v1) fun _ =>
  oB (oPI 18951 v1 3) fun _ =>
  oB (M_Ro_clear 141 0) fun _ =>
  oB (oGI 16399 0) fun v20 =>
  oB (oGL 16400 0) fun v24 =>
  oB (M_Ro_add 141 0 v20 v24) fun _ =>
  oB (oPI 16392 0 2) fun _ =>
  oB (oPI 16396 0 0) fun _ =>
  oR ()

noncomputable def M_Ma_giveError  : M (Unit) :=
  oB (M_Ma_give 1 0) fun _ =>
  oB (oGI 16399 0) fun v11 =>
  oB (oGL 16400 0) fun v15 =>
  oB (M_Ro_add 135 0 v11 v15) fun _ =>
  oR ()

noncomputable def M_LM_hasNoResult_j25  : M (Int32) :=
  oR 1

noncomputable def M_LM_hasNoResult (l1 : Int32) : M (Int32) :=
  oB (oGI 12801 0) fun v1 =>
  oC (v1 = 0)
    (M_LM_hasNoResult_j25)
    (oC (l1 < 0)
      (M_LM_hasNoResult_j25)
      (oB (oGI 18050 0) fun v19 =>
      oC (l1 < v19)
        (oR 0)
        (M_LM_hasNoResult_j25)))

noncomputable def M_LM_value (l1 : Int32) : M (Int64) :=
  oB (M_LM_hasNoResult l1) fun v2 =>
  oC (v2 = 0)
    (oB (oAI 142 512 0 l1) fun v27 =>
    oB (oAL 143 512 0 l1) fun v40 =>
    oC (v27 = 4)
      (oB (oPz 145 4000 v40.toInt32) fun _ =>
      oB (oGI 18815 v40.toInt32) fun v57 =>
      oB (oK (v57 = 1)) fun _ =>
      oB (oLn 146 v40.toInt32) fun n60 =>
      oR n60.toInt64)
      (oC (v27 ≤ 4)
        (oR v40)
        (oB (M_He_numberOf v40) fun v73 =>
        oR v73)))
    (oF)

noncomputable def M_LM_byteOf (l1 : Int32) (l2 : Int32) : M (Int32) :=
  oB (M_LM_hasNoResult l1) fun v2 =>
  oC (v2 = 0)
    (oB (oAI 142 512 0 l1) fun v27 =>
    oC (v27 = 4)
      (oB (oAL 143 512 0 l1) fun v58 =>
      oB (oPz 145 4000 v58.toInt32) fun _ =>
      oB (oGI 18815 v58.toInt32) fun v61 =>
      oB (oK (v61 = 1)) fun _ =>
      oC (l2 < 0)
        (oF)
        (oB (oLn 146 v58.toInt32) fun n71 =>
        oC (l2 < n71)
          (oB (oLn 146 v58.toInt32) fun n85 =>
          oB (oAI 146 n85 v58.toInt32 l2) fun v85 =>
          oR (v85 &&& 255))
          (oF)))
      (oF))
    (oF)

noncomputable def M_LM_output (l1 : Int32) : M (Int32) :=
  oB (oGI 12801 0) fun v1 =>
  oC (v1 = 0)
    (oF)
    (oC (l1 < 0)
      (oF)
      (oB (oGI 16641 0) fun v16 =>
      oC (l1 < v16)
        (oB (oAI 131 20000 0 l1) fun v38 =>
        oR (v38 &&& 255))
        (oF)))

noncomputable def M_LM_feed (l1 : Int32) (l2 : Int32) (l3 : Int32) (l4 : Int32) (l5 : Int32) : M (Int32) :=
  oB (oGI 12800 0) fun v1 =>
  oC ((v1 + 20) ≤ 65536)
    (oB (M_LM_putOnTape l1) fun _ =>
    oB (M_LM_putOnTape l2) fun _ =>
    oB (M_LM_putOnTape l3) fun _ =>
    oB (M_LM_putOnTape l4) fun _ =>
    oB (M_LM_putOnTape l5) fun _ =>
    oB (oGI 12800 0) fun v48 =>
    oR v48)
    (oF)

noncomputable def M_Ch_readHead_j68  : M (Int32) :=
  oB (oGI 12942 0) fun v71 =>
  oB (M_Ch_refuse 2 (v71 - 1)) fun v76 =>
  oB (oK (v76 = 0 ∨ v76 = 1)) fun _ =>
  oR v76

noncomputable def M_Ch_readHead_j127  : M (Int32) :=
  oB (oGI 12942 0) fun v130 =>
  oB (M_Ch_refuse 2 (v130 - 1)) fun v135 =>
  oB (oK (v135 = 0 ∨ v135 = 1)) fun _ =>
  oR v135

noncomputable def M_Ch_readHead_j178  : M (Int32) :=
  oB (oGI 12942 0) fun v181 =>
  oB (M_Ch_refuse 2 (v181 - 1)) fun v186 =>
  oB (oK (v186 = 0 ∨ v186 = 1)) fun _ =>
  oR v186

noncomputable def M_Ch_readHead_j80 (l1 : Int32) (l2 : Int32) : M (Int32) :=
  oB (M_Ch_readNumber 1) fun v83 =>
  oB (oPI 18434 l1 v83) fun _ =>
  oB (oGI 18434 l1) fun v90 =>
  oC (0 ≤ v90)
    (oB (oGI 18434 l1) fun v99 =>
    oC (v99 < 2)
      (M_Ch_readHead_j127)
      (oB (oGI 18434 l1) fun v107 =>
      oC (250 < v107)
        (M_Ch_readHead_j127)
        (oB (oGI 18434 l1) fun v117 =>
        oB (oGI 18432 l1) fun v121 =>
        oC (v121 ≤ v117)
          (oB (M_Ch_readNumber 1) fun v142 =>
          oB (oPI 18435 l1 v142) fun _ =>
          oB (oGI 18435 l1) fun v149 =>
          oC (0 ≤ v149)
            (oB (oGI 18435 l1) fun v158 =>
            oC (60 < v158)
              (M_Ch_readHead_j178)
              (oC (l2 = 0)
                (oR 1)
                (oB (oGI 18435 l1) fun v171 =>
                oC (v171 = 1)
                  (oR 1)
                  (M_Ch_readHead_j178))))
            (oR 0))
          (M_Ch_readHead_j127))))
    (oR 0)

noncomputable def M_Ch_readHead_j12 (l1 : Int32) (k0 : Int32) : M (Int32) :=
  oB (M_Ch_readNumber 1) fun v16 =>
  oB (oPI 18432 l1 v16) fun _ =>
  oB (oGI 18432 l1) fun v23 =>
  oC (0 ≤ v23)
    (oB (M_Ch_readNumber 1) fun v34 =>
    oB (oPI 18433 l1 v34) fun _ =>
    oB (oGI 18433 l1) fun v41 =>
    oC (0 ≤ v41)
      (oB (oGI 18433 l1) fun v50 =>
      oC (1 < v50)
        (M_Ch_readHead_j68)
        (oC (k0 = 0)
          (M_Ch_readHead_j80 l1 k0)
          (oB (oGI 18433 l1) fun v62 =>
          oC (v62 = 0)
            (M_Ch_readHead_j68)
            (M_Ch_readHead_j80 l1 k0))))
      (oR 0))
    (oR 0)

noncomputable def M_Ch_readHead (l1 : Int32) : M (Int32) :=
  oB (oGI 18444 l1) fun v1 =>
  oC (0 ≤ v1)
    (M_Ch_readHead_j12 l1 0)
    (M_Ch_readHead_j12 l1 1)

noncomputable def M_Ch_readUpvalues_j127 (l1 : Int32) (l2 : Int32) (k0 : Int32) (k1 : Int32) : M ((Int32 × Int32) ⊕ ((Unit) ⊕ (Unit) ⊕ (Unit) ⊕ (Unit) ⊕ (Unit))) :=
  oB (oSI 107 15000 0 k1 k0) fun _ =>
  oB (oGI 12940 0) fun v130 =>
  oB (oPI 12940 0 (v130 + 1)) fun _ =>
  oR (Sum.inl (l1, l2 + 1))

noncomputable def M_Ch_readUpvalues_j105 (l1 : Int32) (l2 : Int32) (l3 : Int32) (l4 : Int32) : M ((Int32 × Int32) ⊕ ((Unit) ⊕ (Unit) ⊕ (Unit) ⊕ (Unit) ⊕ (Unit))) :=
  oB (oGI 12940 0) fun v110 =>
  oC (l3 = 1)
    (M_Ch_readUpvalues_j127 l1 l2 l4 v110)
    (M_Ch_readUpvalues_j127 l1 l2 ((-1) - l4) v110)

noncomputable def M_Ch_readUpvalues_j54 (l1 : Int32) (l2 : Int32) (l3 : Int32) : M ((Int32 × Int32) ⊕ ((Unit) ⊕ (Unit) ⊕ (Unit) ⊕ (Unit) ⊕ (Unit))) :=
  oB (M_Ch_readNumber 1) fun v56 =>
  oC (0 ≤ v56)
    (oB (oGI 18444 l1) fun v69 =>
    oC (v69 < 0)
      (M_Ch_readUpvalues_j105 l1 l2 l3 v56)
      (oB (oGI 18444 l1) fun v82 =>
      oB (oPz 144 250 v82) fun _ =>
      oB (M_Ch_mostOf v82 l3) fun v87 =>
      oC (v56 < v87)
        (M_Ch_readUpvalues_j105 l1 l2 l3 v56)
        (oR (Sum.inr (Sum.inr (Sum.inr (Sum.inr (Sum.inl ()))))))))
    (oR (Sum.inr (Sum.inr (Sum.inr (Sum.inl ())))))

noncomputable def M_Ch_readUpvalues_L10 : (Int32 × Int32) → M ((Int32 × Int32) ⊕ ((Unit) ⊕ (Unit) ⊕ (Unit) ⊕ (Unit) ⊕ (Unit))) := fun x =>
  oB (oGI 18435 x.1) fun v12 =>
  oC (v12 ≤ x.2)
    (oR (Sum.inr (Sum.inr (Sum.inr (Sum.inr (Sum.inr ()))))))
    (oB (M_Ch_readNumber 1) fun v20 =>
    oC (0 ≤ v20)
      (oB (oGI 18444 x.1) fun v31 =>
      oC (v31 < 0)
        (M_Ch_readUpvalues_j54 x.1 x.2 v20)
        (oC (v20 ≤ 1)
          (M_Ch_readUpvalues_j54 x.1 x.2 v20)
          (oR (Sum.inr (Sum.inr (Sum.inl ()))))))
      (oR (Sum.inr (Sum.inl ()))))

noncomputable def M_Ch_readUpvalues (l1 : Int32) : M (Int32) :=
  oB (oGI 12940 0) fun v2 =>
  oB (oPI 18436 l1 v2) fun _ =>
  oB (oW M_Ch_readUpvalues_L10 (l1, 0)) fun e10 =>
  Sum.elim
    (fun y10_28 : Unit =>
      oR 0)
    (Sum.elim
      (fun y10_42 : Unit =>
        oB (oGI 12942 0) fun v45 =>
        oB (M_Ch_refuse 2 (v45 - 1)) fun v50 =>
        oB (oK (v50 = 0 ∨ v50 = 1)) fun _ =>
        oR v50)
      (Sum.elim
        (fun y10_66 : Unit =>
          oR 0)
        (Sum.elim
          (fun y10_93 : Unit =>
            oB (oGI 12942 0) fun v96 =>
            oB (M_Ch_refuse 2 (v96 - 1)) fun v101 =>
            oB (oK (v101 = 0 ∨ v101 = 1)) fun _ =>
            oR v101)
          (fun y10_144 : Unit =>
            oR 1)))) e10

noncomputable def M_Ch_readConstants_L28 : (Int32 × Int32) → M ((Int32 × Int32) ⊕ ((Unit) ⊕ (Unit) ⊕ (Unit) ⊕ (Unit) ⊕ (Unit))) := fun x =>
  oB (oGI 18437 x.1) fun v30 =>
  oC (v30 ≤ x.2)
    (oR (Sum.inr (Sum.inr (Sum.inr (Sum.inr (Sum.inr ()))))))
    (oB (M_Ch_readNumber 1) fun v38 =>
    oC (0 ≤ v38)
      (oB (oGI 12938 0) fun v49 =>
      oB (oGI 12939 0) fun v53 =>
      oC ((v49 + v53) < 20000)
        (oC (v38 ≤ 4)
          (oB (M_Ch_readConstant v38) fun v94 =>
          oC (v94 = 0)
            (oR (Sum.inr (Sum.inr (Sum.inr (Sum.inr (Sum.inl ()))))))
            (oR (Sum.inl (x.1, x.2 + 1))))
          (oR (Sum.inr (Sum.inr (Sum.inr (Sum.inl ()))))))
        (oR (Sum.inr (Sum.inr (Sum.inl ())))))
      (oR (Sum.inr (Sum.inl ()))))

noncomputable def M_Ch_readConstants (l1 : Int32) : M (Int32) :=
  oB (oGI 12938 0) fun v2 =>
  oB (oPI 18438 l1 v2) fun _ =>
  oB (M_Ch_readNumber 2) fun v11 =>
  oB (oPI 18437 l1 v11) fun _ =>
  oB (oGI 18437 l1) fun v18 =>
  oC (0 ≤ v18)
    (oB (oW M_Ch_readConstants_L28 (l1, 0)) fun e28 =>
    Sum.elim
      (fun y28_46 : Unit =>
        oR 0)
      (Sum.elim
        (fun y28_63 : Unit =>
          oB (oGI 12942 0) fun v66 =>
          oB (M_Ch_refuse 4 (v66 - 1)) fun v71 =>
          oB (oK (v71 = 0 ∨ v71 = 1)) fun _ =>
          oR v71)
        (Sum.elim
          (fun y28_80 : Unit =>
            oB (oGI 12942 0) fun v83 =>
            oB (M_Ch_refuse 2 (v83 - 1)) fun v88 =>
            oB (oK (v88 = 0 ∨ v88 = 1)) fun _ =>
            oR v88)
          (Sum.elim
            (fun y28_100 : Unit =>
              oR 0)
            (fun y28_108 : Unit =>
              oR 1)))) e28)
    (oR 0)

noncomputable def M_Ch_namesWhatIsThere (l0 : Int32) (l1 : Int32) : M (Int32) :=
  oL (l1 &&& 63) fun l2_4 =>
  oL ((iushr l1 (6 : Int32)) &&& 255) fun l3_13 =>
  oL (iushr l1 (23 : Int32)) fun l4_18 =>
  oL ((iushr l1 (14 : Int32)) &&& 511) fun l5_28 =>
  oB (oK ((0 : Int32) ≤ l2_4 ∧ l2_4 < stLI 57)) fun _ =>
  oB (M_Ch_isThere (stC 57 l2_4) l3_13 l0) fun v38 =>
  oC (v38 = 0)
    (oR 0)
    (oB (oK ((0 : Int32) ≤ l2_4 ∧ l2_4 < stLI 58)) fun _ =>
    oB (M_Ch_isThere (stC 58 l2_4) l4_18 l0) fun v53 =>
    oC (v53 = 0)
      (oR 0)
      (oB (oK ((0 : Int32) ≤ l2_4 ∧ l2_4 < stLI 59)) fun _ =>
      oB (M_Ch_isThere (stC 59 l2_4) l5_28 l0) fun v68 =>
      oC (v68 = 0)
        (oR 0)
        (oB (M_Ch_lastOfRow l2_4 l3_13 l4_18 l5_28) fun v80 =>
        oB (oGI 18434 l0) fun v84 =>
        oC (v80 < v84)
          (oC (l2_4 = 1)
            (oB (oGI 18437 l0) fun v149 =>
            oC (v149 ≤ (iushr l1 (14 : Int32)))
              (oR 0)
              (oR 1))
          (oC (l2_4 = 29)
            (oC (l5_28 ≤ l4_18)
              (oR 0)
              (oR 1))
          (oC (l2_4 = 41)
            (oC (l5_28 ≤ 0)
              (oR 0)
              (oR 1))
          (oC (l2_4 = 43)
            (oC (l5_28 ≤ 0)
              (oR 0)
              (oR 1))
          (oC (l2_4 = 44)
            (oB (oGI 18442 l0) fun v201 =>
            oC (v201 ≤ (iushr l1 (14 : Int32)))
              (oR 0)
              (oR 1))
          (oR 1))))))
          (oR 0))))

noncomputable def M_Ch_mayBeReached_j33  : M (Int32) :=
  oR 0

noncomputable def M_Ch_mayBeReached (l1 : Int32) (l2 : Int32) : M (Int32) :=
  oC (l2 < 0)
    (M_Ch_mayBeReached_j33)
    (oB (oGI 18439 l1) fun v6 =>
    oC (v6 ≤ l2)
      (M_Ch_mayBeReached_j33)
      (oB (oGI 18440 l1) fun v17 =>
      oB (oAI 104 20000 0 (v17 + l2)) fun v22 =>
      oB (M_Ch_usesOpenRow v22) fun v23 =>
      oC (v23 = 0)
        (oR 1)
        (M_Ch_mayBeReached_j33)))

noncomputable def M_Ch_keepsOpenRows_j108  : M (Int32) :=
  oR 0

noncomputable def M_Ch_keepsOpenRows_j80 (l3 : Int32) (l4 : Int32) (k0 : Int32) (k1 : Int32) : M (Int32) :=
  oL (k1 + k0) fun l5_81 =>
  oB (M_Ch_usesOpenRow l4) fun v85 =>
  oC (v85 = 0)
    (M_Ch_keepsOpenRows_j108)
    (oC (((iushr l3 (6 : Int32)) &&& 255) < l5_81)
      (M_Ch_keepsOpenRows_j108)
      (oR 1))

noncomputable def M_Ch_keepsOpenRows_j32 (l1 : Int32) (l2 : Int32) (l3 : Int32) : M (Int32) :=
  oB (M_Ch_opensRow l3) fun v33 =>
  oC (v33 = 0)
    (oR 1)
    (oB (oGI 18440 l1) fun v46 =>
    oB (oAI 104 20000 0 ((v46 + l2) + 1)) fun v53 =>
    oC ((v53 &&& 63) = 38)
      (M_Ch_keepsOpenRows_j80 l3 v53 0 ((iushr v53 (6 : Int32)) &&& 255))
      (M_Ch_keepsOpenRows_j80 l3 v53 1 ((iushr v53 (6 : Int32)) &&& 255)))

noncomputable def M_Ch_keepsOpenRows (l1 : Int32) (l2 : Int32) (l3 : Int32) : M (Int32) :=
  oB (M_Ch_usesOpenRow l3) fun v1 =>
  oC (v1 = 0)
    (M_Ch_keepsOpenRows_j32 l1 l2 l3)
    (oC (l2 = 0)
      (oR 0)
      (oB (oGI 18440 l1) fun v16 =>
      oB (oAI 104 20000 0 ((v16 + l2) - 1)) fun v23 =>
      oB (M_Ch_opensRow v23) fun v24 =>
      oC (v24 = 0)
        (oR 0)
        (M_Ch_keepsOpenRows_j32 l1 l2 l3)))

