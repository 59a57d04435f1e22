noncomputable def M_He_sweep_j148 (l1 : Int32) : M ((Int32) ⊕ ((Unit))) :=
  oR (Sum.inl (l1 + 1))

noncomputable def M_He_sweep_j113 (l1 : Int32) (l2 : Int32) : M ((Int32) ⊕ ((Unit))) :=
  oB (oPI 18560 l2 0) fun _ =>
  oB (oGI 14211 0) fun v123 =>
  oB (oSI 113 4000 0 v123 l1) fun _ =>
  oB (oGI 14211 0) fun v130 =>
  oB (oPI 14211 0 (v130 + 1)) fun _ =>
  oB (oAI 114 15 0 3) fun v144 =>
  oB (oSI 114 15 0 3 (v144 - 1)) fun _ =>
  M_He_sweep_j148 l1

noncomputable def M_He_sweep_L2 : (Int32) → M ((Int32) ⊕ ((Unit))) := fun x =>
  oB (oGI 14209 0) fun v4 =>
  oC (v4 ≤ x)
    (oR (Sum.inr ()))
    (oB (oPz 145 4000 x) fun _ =>
    oB (oGI 18560 x) fun v18 =>
    oC (v18 = 0)
      (M_He_sweep_j148 x)
      (oB (oGI 18562 x) fun v25 =>
      oC (v25 = 0)
        (oB (oGI 18560 x) fun v32 =>
        oC (v32 = 4)
          (oB (M_He_dropFromBucket x) fun _ =>
          M_He_sweep_j113 x x)
          (oB (oGI 18560 x) fun v48 =>
          oC (v48 = 5)
            (oB (M_Ta_release x) fun _ =>
            M_He_sweep_j113 x x)
            (oB (oGI 18560 x) fun v67 =>
            oC (v67 = 7)
              (oB (oGI 18564 x) fun v81 =>
              oB (oPz 148 32 v81) fun _ =>
              oB (M_He_closeFrom v81 0) fun _ =>
              oB (oGI 18564 x) fun v94 =>
              oB (oPz 148 32 v94) fun _ =>
              oB (oPI 18950 v94 (-1)) fun _ =>
              oB (oAI 114 15 0 11) fun v109 =>
              oB (oSI 114 15 0 11 (v109 - 1)) fun _ =>
              M_He_sweep_j113 x x)
              (M_He_sweep_j113 x x))))
        (M_He_sweep_j148 x)))

noncomputable def M_He_sweep  : M (Unit) :=
  oB (oW M_He_sweep_L2 0) fun e2 =>
  oR ()

noncomputable def M_Ta_find_j98 (l2 : Int32) (l3 : Int64) (l5 : Int32) (l7 : Int32) (l8 : Int32) : M ((Int32 × Int64 × Int32 × Int32 × Int32) ⊕ ((Int32) ⊕ (Unit))) :=
  oB (oAI 126 50000 0 l8) fun v104 =>
  oR (Sum.inl (l2, l3, l5, v104, l7 + 1))

noncomputable def M_Ta_find_L47 : (Int32 × Int64 × Int32 × Int32 × Int32) → M ((Int32 × Int64 × Int32 × Int32 × Int32) ⊕ ((Int32) ⊕ (Unit))) := fun x =>
  oC (x.2.2.2.1 < 0)
    (oR (Sum.inr (Sum.inr ())))
    (oB (oGI 18572 x.2.2.1) fun v56 =>
    oC (v56 ≤ x.2.2.2.2)
      (oR (Sum.inr (Sum.inr ())))
      (oB (oGI 18571 x.2.2.1) fun v64 =>
      oL (v64 + x.2.2.2.1) fun l8_70 =>
      oB (oAL 122 50000 0 l8_70) fun v78 =>
      oC ((lg_cmp v78 x.2.1) = 0)
        (oB (oAI 121 50000 0 l8_70) fun v90 =>
        oC (v90 = x.1)
          (oR (Sum.inr (Sum.inl l8_70)))
          (M_Ta_find_j98 x.1 x.2.1 x.2.2.1 x.2.2.2.2 l8_70))
        (M_Ta_find_j98 x.1 x.2.1 x.2.2.1 x.2.2.2.2 l8_70)))

noncomputable def M_Ta_find (l1 : Int32) (l2 : Int32) (l3 : Int64) : M (Int32) :=
  oB (oPz 145 4000 l1) fun _ =>
  oB (oGI 18572 l1) fun v13 =>
  oC (v13 = 0)
    (oR (-1))
    (oB (oGI 18571 l1) fun v27 =>
    oB (oGI 18572 l1) fun v34 =>
    oB (M_Ta_spread l2 l3 v34) fun v37 =>
    oB (oAI 125 50000 0 (v27 + v37)) fun v41 =>
    oB (oW M_Ta_find_L47 (l2, l3, l1, v41, 0)) fun e47 =>
    Sum.elim
      (fun y47_95 : Int32 =>
        oR y47_95)
      (fun y47_113 : Unit =>
        oR (-1)) e47)

noncomputable def M_Ta_dropDead_j94 (l1 : Int32) (l2 : Int32) (l4 : Int32) : M ((Int32 × Int32 × Int32) ⊕ ((Unit))) :=
  oR (Sum.inl (l1, l2, l4 + 1))

noncomputable def M_Ta_dropDead_L36 : (Int32 × Int32 × Int32) → M ((Int32 × Int32 × Int32) ⊕ ((Unit))) := fun x =>
  oC (x.2.1 ≤ x.2.2)
    (oR (Sum.inr ()))
    (oB (oGI 18571 x.1) fun v43 =>
    oL (v43 + x.2.2) fun l5_49 =>
    oB (oAI 123 50000 0 l5_49) fun v57 =>
    oC (v57 = 0)
      (M_Ta_dropDead_j94 x.1 x.2.1 x.2.2)
      (oB (oAI 121 50000 0 l5_49) fun v69 =>
      oB (oAL 122 50000 0 l5_49) fun v76 =>
      oB (oAI 123 50000 0 l5_49) fun v83 =>
      oB (oAL 124 50000 0 l5_49) fun v90 =>
      oB (M_Ta_append x.1 v69 v76 v83 v90) fun _ =>
      M_Ta_dropDead_j94 x.1 x.2.1 x.2.2))

noncomputable def M_Ta_dropDead (l1 : Int32) : M (Unit) :=
  oB (oGI 18573 l1) fun v1 =>
  oB (oGI 18571 l1) fun v6 =>
  oB (oGI 18572 l1) fun v10 =>
  oL (v6 + v10) fun l3_14 =>
  oB (oGI 18571 l1) fun v20 =>
  oB (M_Arr_fill_____ 125 0 v20 l3_14 (-1)) fun _ =>
  oB (oPI 18573 l1 0) fun _ =>
  oB (oW M_Ta_dropDead_L36 (l1, v1, 0)) fun e36 =>
  oR ()

noncomputable def M_Ta_moveTo_L116 : (Int32 × Int32 × Int32 × Int32) → M ((Int32 × Int32 × Int32 × Int32) ⊕ ((Unit))) := fun x =>
  oC ((x.2.1 + x.2.2.1) ≤ x.2.2.2)
    (oR (Sum.inr ()))
    (oB (oAI 121 50000 0 x.2.2.2) fun v134 =>
    oB (oAL 122 50000 0 x.2.2.2) fun v141 =>
    oB (oAI 123 50000 0 x.2.2.2) fun v148 =>
    oB (oAL 124 50000 0 x.2.2.2) fun v155 =>
    oB (M_Ta_append x.1 v134 v141 v148 v155) fun _ =>
    oR (Sum.inl (x.1, x.2.1, x.2.2.1, x.2.2.2 + 1)))

noncomputable def M_Ta_moveTo_j56 (l1 : Int32) (l2 : Int32) (l3 : Int32) (l4 : Int32) (l5 : Int32) : M (Unit) :=
  oB (oGI 15367 0) fun v58 =>
  oB (oPI 18571 l3 v58) fun _ =>
  oB (oPI 18572 l3 l2) fun _ =>
  oB (oPI 18573 l3 0) fun _ =>
  oB (oGI 15367 0) fun v79 =>
  oB (oSI 127 50000 0 v79 l1) fun _ =>
  oB (oGI 15367 0) fun v89 =>
  oB (oGI 15367 0) fun v93 =>
  oB (M_Arr_fill_____ 125 0 v89 (v93 + l2) (-1)) fun _ =>
  oB (oGI 15367 0) fun v104 =>
  oB (oPI 15367 0 (v104 + l2)) fun _ =>
  oB (oW M_Ta_moveTo_L116 (l3, l4, l5, l4)) fun e116 =>
  oR ()

noncomputable def M_Ta_moveTo_j15 (l1 : Int32) (l2 : Int32) : M (Unit) :=
  oB (oPz 145 4000 l1) fun _ =>
  oB (oGI 18571 l1) fun v26 =>
  oB (oGI 18573 l1) fun v32 =>
  oB (oGI 18572 l1) fun v38 =>
  oC (v38 ≤ 0)
    (M_Ta_moveTo_j56 l1 l2 l1 v26 v32)
    (oB (oGI 18572 l1) fun v51 =>
    oB (oSI 127 50000 0 v26 (-v51)) fun _ =>
    M_Ta_moveTo_j56 l1 l2 l1 v26 v32)

noncomputable def M_Ta_moveTo (l1 : Int32) (l2 : Int32) : M (Unit) :=
  oB (oGI 15367 0) fun v1 =>
  oC ((v1 + l2) ≤ 50000)
    (M_Ta_moveTo_j15 l1 l2)
    (oB (M_Ta_closeUp) fun _ =>
    M_Ta_moveTo_j15 l1 l2)

noncomputable def M_Ma_fail_j19 (k0 : Int32) : M (Unit) :=
  oB (oK (k0 = 0 ∨ k0 = 1)) fun _ =>
  oB (oPI 16401 0 k0) fun _ =>
  oR ()

noncomputable def M_Ma_fail (l1 : Int32) : M (Unit) :=
  oB (M_Ma_raise 3 l1.toInt64) fun _ =>
  oC (l1 = 11)
    (M_Ma_fail_j19 1)
    (M_Ma_fail_j19 0)

noncomputable def M_Ta_findEvent_j72  : M (Int32) :=
  oR (-1)

noncomputable def M_Ta_findEvent (l1 : Int32) (l2 : Int64) (l4 : Int32) : M (Int32) :=
  oC (l1 = 5)
    (oB (oPz 145 4000 l2.toInt32) fun _ =>
    oB (oGI 18574 l2.toInt32) fun v17 =>
    oC (0 ≤ v17)
      (oB (oAI 115 57 0 (24 + l4)) fun v45 =>
      oB (M_Ta_find v17 4 v45.toInt64) fun v47 =>
      oC (v47 < 0)
        (M_Ta_findEvent_j72)
        (oB (oAI 123 50000 0 v47) fun v63 =>
        oC (v63 = 0)
          (M_Ta_findEvent_j72)
          (oR v47)))
      (oR (-1)))
    (oR (-1))

noncomputable def M_Ma_callEntry (l1 : Int32) (l2 : Int32) (l3 : Int64) (l5 : Int32) (l6 : Int64) : M (Unit) :=
  oB (oAI 123 50000 0 l1) fun v9 =>
  oB (oPI 16397 0 v9) fun _ =>
  oB (oAL 124 50000 0 l1) fun v22 =>
  oB (oPL 16398 0 v22) fun _ =>
  oB (M_Ro_clear 132 0) fun _ =>
  oB (M_Ro_add 132 0 l2 l3) fun _ =>
  oB (M_Ro_add 132 0 l5 l6) fun _ =>
  oB (oPI 16396 0 1) fun _ =>
  oR ()

noncomputable def M_St_read_j94 (l4 : Int32) (l5 : Int64) (l7 : Int32) (l8 : Int64) (l10 : Int32) : M ((Int32 × Int64 × Int32 × Int64 × Int32) ⊕ ((Unit) ⊕ (Int32) ⊕ (Unit) ⊕ (Int32 × Int64 × Int32 × Int64 × Int32) ⊕ (Unit))) :=
  oB (M_Ta_findEvent l7 l8 0) fun v103 =>
  oC (0 ≤ v103)
    (oB (oAI 123 50000 0 v103) fun v133 =>
    oC (v133 = 6)
      (oR (Sum.inr (Sum.inr (Sum.inr (Sum.inr (Sum.inl (l4, l5, l7, l8, v103)))))))
      (oB (oAI 123 50000 0 v103) fun v166 =>
      oB (oAL 124 50000 0 v103) fun v178 =>
      oR (Sum.inl (l4, l5, v166, v178, l10 + 1))))
    (oR (Sum.inr (Sum.inr (Sum.inr (Sum.inl ())))))

noncomputable def M_St_read_L9 : (Int32 × Int64 × Int32 × Int64 × Int32) → M ((Int32 × Int64 × Int32 × Int64 × Int32) ⊕ ((Unit) ⊕ (Int32) ⊕ (Unit) ⊕ (Int32 × Int64 × Int32 × Int64 × Int32) ⊕ (Unit))) := fun x =>
  oC (100 ≤ x.2.2.2.2)
    (oR (Sum.inr (Sum.inr (Sum.inr (Sum.inr (Sum.inr ()))))))
    (oC (x.2.2.1 = 5)
      (oB (M_Ta_find x.2.2.2.1.toInt32 x.1 x.2.1) fun v42 =>
      oC (v42 < 0)
        (M_St_read_j94 x.1 x.2.1 x.2.2.1 x.2.2.2.1 x.2.2.2.2)
        (oB (oAI 123 50000 0 v42) fun v61 =>
        oC (v61 = 0)
          (M_St_read_j94 x.1 x.2.1 x.2.2.1 x.2.2.2.1 x.2.2.2.2)
          (oR (Sum.inr (Sum.inr (Sum.inl v42))))))
      (oR (Sum.inr (Sum.inl ()))))

noncomputable def M_St_read (l1 : Int32) (l2 : Int64) (l4 : Int32) (l5 : Int64) : M (Unit) :=
  oB (oW M_St_read_L9 (l4, l5, l1, l2, 0)) fun e9 =>
  Sum.elim
    (fun y9_22 : Unit =>
      oB (M_Ma_fail 2) fun _ =>
      oR ())
    (Sum.elim
      (fun y9_65 : Int32 =>
        oB (oGI 16521 0) fun v67 =>
        oB (oAI 123 50000 0 y9_65) fun v79 =>
        oB (oAL 124 50000 0 y9_65) fun v89 =>
        oB (M_St_set v67 v79 v89) fun _ =>
        oR ())
      (Sum.elim
        (fun y9_113 : Unit =>
          oB (oGI 16521 0) fun v115 =>
          oB (M_St_set v115 0 0) fun _ =>
          oR ())
        (Sum.elim
          (fun y9_139 : Int32 × Int64 × Int32 × Int64 × Int32 =>
            oB (M_Ma_callEntry y9_139.2.2.2.2 y9_139.2.2.1 y9_139.2.2.2.1 y9_139.1 y9_139.2.1) fun _ =>
            oR ())
          (fun y9_187 : Unit =>
            oB (M_Ma_fail 4) fun _ =>
            oR ())))) e9

noncomputable def M_St_callsEither_j51 (l8 : Int32) : M (Int32) :=
  oC (l8 < 0)
    (oR 0)
    (oR 1)

noncomputable def M_St_callsEither_j31 (l2 : Int32) (l3 : Int64) (l5 : Int32) (l6 : Int64) (l8 : Int32) : M (Int32) :=
  oC (l8 < 0)
    (M_St_callsEither_j51 l8)
    (oB (M_Ma_callEntry l8 l2 l3 l5 l6) fun _ =>
    M_St_callsEither_j51 l8)

noncomputable def M_St_callsEither (l1 : Int32) (l2 : Int32) (l3 : Int64) (l5 : Int32) (l6 : Int64) : M (Int32) :=
  oB (M_Ta_findEvent l2 l3 l1) fun v7 =>
  oC (0 ≤ v7)
    (M_St_callsEither_j31 l2 l3 l5 l6 v7)
    (oB (M_Ta_findEvent l5 l6 l1) fun v26 =>
    M_St_callsEither_j31 l2 l3 l5 l6 v26)

noncomputable def M_St_reckoned (l1 : Int64) (l3 : Int64) : M (Int64) :=
  oB (oGI 16520 0) fun v1 =>
  oC (v1 = 13)
    (oR (l1 + l3))
  (oC (v1 = 14)
    (oR (l1 - l3))
  (oC (v1 = 15)
    (oR (l1 * l3))
  (oC (v1 = 16)
    (oC ((lg_cmp l3 0) = 0)
      (oR 0)
      (oB (M_Mth_floorMod l1 l3) fun v88 =>
      oR v88))
  (oC (v1 = 19)
    (oC ((lg_cmp l3 0) = 0)
      (oR 0)
      (oB (M_Mth_floorDiv l1 l3) fun v104 =>
      oR v104))
  (oC (v1 = 20)
    (oR (l1 &&& l3))
  (oC (v1 = 21)
    (oR (l1 ||| l3))
  (oC (v1 = 22)
    (oR (l1 ^^^ l3))
  (oC (v1 = 23)
    (oB (M_St_shifted l1 l3) fun v122 =>
    oR v122)
  (oB (M_St_shifted l1 (-l3)) fun v129 =>
  oR v129)))))))))

noncomputable def M_Ta_border_L15 : (Int32 × Int32 × Int32) → M ((Int32 × Int32 × Int32) ⊕ ((Int32) ⊕ (Int32))) := fun x =>
  oB (oGI 18572 x.2.1) fun v17 =>
  oC (v17 ≤ x.2.2)
    (oR (Sum.inr (Sum.inr x.2.1)))
    (oB (M_Ta_find x.1 3 ((x.2.2 + 1).toInt64)) fun v30 =>
    oC (v30 < 0)
      (oR (Sum.inr (Sum.inr x.2.1)))
      (oB (oAI 123 50000 0 v30) fun v46 =>
      oC (v46 = 0)
        (oR (Sum.inr (Sum.inl x.2.1)))
        (oB (oPI 18575 x.2.1 (x.2.2 + 1)) fun _ =>
        oR (Sum.inl (x.1, x.2.1, x.2.2 + 1)))))

noncomputable def M_Ta_border_j66 (l2 : Int32) : M (Int32) :=
  oB (oGI 18575 l2) fun v67 =>
  oR v67

noncomputable def M_Ta_border (l1 : Int32) : M (Int32) :=
  oB (oPz 145 4000 l1) fun _ =>
  oB (oGI 18575 l1) fun v11 =>
  oB (oW M_Ta_border_L15 (l1, l1, v11)) fun e15 =>
  Sum.elim
    (fun y15_50 : Int32 =>
      M_Ta_border_j66 y15_50)
    (fun y15_66 : Int32 =>
      M_Ta_border_j66 y15_66) e15

noncomputable def M_St_equal_j85 (l7 : Int32) : M (Unit) :=
  oB (M_St_decide l7) fun _ =>
  oR ()

noncomputable def M_St_equal_j54 (l1 : Int32) (l2 : Int32) (l3 : Int64) (l5 : Int64) (k0 : Int32) : M (Unit) :=
  oC (k0 = 0)
    (oC (l1 = 5)
      (oC (l2 = 5)
        (oB (M_St_callsEither 17 l1 l3 l2 l5) fun v79 =>
        oC (v79 = 0)
          (M_St_equal_j85 k0)
          (oR ()))
        (M_St_equal_j85 k0))
      (M_St_equal_j85 k0))
    (M_St_equal_j85 k0)

noncomputable def M_St_equal_j53 (l1 : Int32) (l2 : Int32) (l3 : Int64) (l5 : Int64) : M (Unit) :=
  M_St_equal_j54 l1 l2 l3 l5 0

noncomputable def M_St_equal  : M (Unit) :=
  oB (oGI 16522 0) fun v2 =>
  oB (M_St_kindOf v2) fun v5 =>
  oB (oGI 16523 0) fun v11 =>
  oB (M_St_kindOf v11) fun v14 =>
  oB (oGI 16522 0) fun v20 =>
  oB (M_St_valueOf v20) fun v23 =>
  oB (oGI 16523 0) fun v29 =>
  oB (M_St_valueOf v29) fun v32 =>
  oC (v5 = v14)
    (oC ((lg_cmp v23 v32) = 0)
      (M_St_equal_j54 v5 v14 v23 v32 1)
      (M_St_equal_j53 v5 v14 v23 v32))
    (M_St_equal_j53 v5 v14 v23 v32)

noncomputable def M_St_order_j171 (l1 : Int32) (l2 : Int32) (l3 : Int64) (l5 : Int64) : M (Unit) :=
  oB (oGI 16520 0) fun v175 =>
  oB (M_St_callsEither ((18 + v175) - 32) l1 l3 l2 l5) fun v187 =>
  oC (v187 = 0)
    (oB (M_Ma_fail 3) fun _ =>
    oR ())
    (oR ())

noncomputable def M_St_order_j165 (k0 : Int32) : M (Unit) :=
  oB (M_St_decide k0) fun _ =>
  oR ()

noncomputable def M_St_order_j90 (l1 : Int32) (l2 : Int32) (l3 : Int64) (l5 : Int64) : M (Unit) :=
  oC (l1 = 4)
    (oC (l2 = 4)
      (oB (oPz 145 4000 l3.toInt32) fun _ =>
      oB (oGI 18815 l3.toInt32) fun v110 =>
      oB (oK (v110 = 1)) fun _ =>
      oB (oPz 145 4000 l5.toInt32) fun _ =>
      oB (oGI 18815 l5.toInt32) fun v124 =>
      oB (oK (v124 = 1)) fun _ =>
      oB (M_St_compared l3.toInt32 l5.toInt32) fun v127 =>
      oB (oGI 16520 0) fun v134 =>
      oC (v134 = 32)
        (oC (0 ≤ v127)
          (M_St_order_j165 0)
          (M_St_order_j165 1))
        (oC (0 < v127)
          (M_St_order_j165 0)
          (M_St_order_j165 1)))
      (M_St_order_j171 l1 l2 l3 l5))
    (M_St_order_j171 l1 l2 l3 l5)

noncomputable def M_St_order_j84 (k0 : Int32) : M (Unit) :=
  oB (M_St_decide k0) fun _ =>
  oR ()

noncomputable def M_St_order  : M (Unit) :=
  oB (oGI 16522 0) fun v2 =>
  oB (M_St_kindOf v2) fun v5 =>
  oB (oGI 16523 0) fun v11 =>
  oB (M_St_kindOf v11) fun v14 =>
  oB (oGI 16522 0) fun v20 =>
  oB (M_St_valueOf v20) fun v23 =>
  oB (oGI 16523 0) fun v29 =>
  oB (M_St_valueOf v29) fun v32 =>
  oC (v5 = 3)
    (oC (v14 = 3)
      (oB (oGI 16520 0) fun v49 =>
      oC (v49 = 32)
        (oC (0 ≤ (lg_cmp v23 v32))
          (M_St_order_j84 0)
          (M_St_order_j84 1))
        (oC (0 < (lg_cmp v23 v32))
          (M_St_order_j84 0)
          (M_St_order_j84 1)))
      (M_St_order_j90 v5 v14 v23 v32))
    (M_St_order_j90 v5 v14 v23 v32)

noncomputable def M_St_gather_L70 : (Nat × Int32 × Int32 × Int32 × Int32) → M ((Nat × Int32 × Int32 × Int32 × Int32) ⊕ ((Nat × Int32 × Int32))) := fun x =>
  oC (x.2.2.1 ≤ x.2.2.2.2)
    (oR (Sum.inr (x.1, x.2.1, x.2.2.2.1)))
    (oB (M_St_kindOf x.2.2.2.2) fun v81 =>
    oB (M_St_valueOf x.2.2.2.2) fun v87 =>
    oB (M_Ro_add x.1 x.2.1 v81 v87) fun _ =>
    oR (Sum.inl (x.1, x.2.1, x.2.2.1, x.2.2.2.1, x.2.2.2.2 + 1)))

noncomputable def M_St_gather_L102 : (Nat × Int32 × Int32 × Int32) → M ((Nat × Int32 × Int32 × Int32) ⊕ ((Unit))) := fun x =>
  oC (x.2.2.1 ≤ x.2.2.2)
    (oR (Sum.inr ()))
    (oB (oAI 139 512 0 x.2.2.2) fun v122 =>
    oB (oAL 140 512 0 x.2.2.2) fun v135 =>
    oB (M_Ro_add x.1 x.2.1 v122 v135) fun _ =>
    oR (Sum.inl (x.1, x.2.1, x.2.2.1, x.2.2.2 + 1)))

noncomputable def M_St_gather_j37 (l1r : Nat) (l1 : Int32) (l2 : Int32) (l4 : Int32) (k0 : Int32) : M (Int32) :=
  oC (((l4 - l2) + k0) ≤ 250)
    (oB (M_Ro_clear l1r l1) fun _ =>
    oB (oW M_St_gather_L70 (l1r, l1, l4, k0, l2)) fun e70 =>
    oB (oW M_St_gather_L102 (e70.1, e70.2.1, e70.2.2, 0)) fun e102 =>
    oB (M_Ro_clear 138 0) fun _ =>
    oR 1)
    (oB (M_Ma_fail 7) fun _ =>
    oR 0)

noncomputable def M_St_gather_j17 (l1r : Nat) (l1 : Int32) (l2 : Int32) (l3 : Int32) (k0 : Int32) : M (Int32) :=
  oC (0 ≤ l3)
    (M_St_gather_j37 l1r l1 l2 k0 0)
    (oB (oGI 17666 0) fun v30 =>
    M_St_gather_j37 l1r l1 l2 k0 v30)

noncomputable def M_St_gather (l1r : Nat) (l1 : Int32) (l2 : Int32) (l3 : Int32) : M (Int32) :=
  oC (0 ≤ l3)
    (M_St_gather_j17 l1r l1 l2 l3 (l2 + l3))
    (oB (oGI 16390 0) fun v8 =>
    M_St_gather_j17 l1r l1 l2 l3 v8)

noncomputable def M_Ma_leave  : M (Unit) :=
  oB (oGI 16395 0) fun v5 =>
  oB (oPr 148 v5) fun _ =>
  oB (oGI 16395 0) fun v9 =>
  oB (oPr 148 v9) fun _ =>
  oB (M_Co_top v9) fun v12 =>
  oB (oPr 152 v12) fun _ =>
  oB (oGI 19459 v12) fun v15 =>
  oB (M_He_closeFrom v5 v15) fun _ =>
  oB (oGI 16395 0) fun v22 =>
  oB (oPr 148 v22) fun _ =>
  oB (M_Co_pop v22) fun _ =>
  oR ()

noncomputable def M_St_hasLoopNumbers_j42  : M (Int32) :=
  oB (M_Ma_fail 3) fun _ =>
  oR 0

noncomputable def M_St_hasLoopNumbers  : M (Int32) :=
  oB (oGI 16521 0) fun v2 =>
  oB (M_St_kindOf v2) fun v5 =>
  oC (v5 = 3)
    (oB (oGI 16521 0) fun v14 =>
    oB (M_St_kindOf (v14 + 1)) fun v19 =>
    oC (v19 = 3)
      (oB (oGI 16521 0) fun v28 =>
      oB (M_St_kindOf (v28 + 2)) fun v33 =>
      oC (v33 = 3)
        (oR 1)
        (M_St_hasLoopNumbers_j42))
      (M_St_hasLoopNumbers_j42))
    (M_St_hasLoopNumbers_j42)

noncomputable def M_Ma_goOnWith (l1 : Int32) : M (Unit) :=
  oB (oGI 16395 0) fun v1 =>
  oB (oPr 148 v1) fun _ =>
  oB (oPI 18951 v1 2) fun _ =>
  oB (oGI 16395 0) fun v10 =>
  oB (oPr 148 v10) fun _ =>
  oB (oGI 18947 v10) fun v13 =>
  oB (oPI 18955 l1 v13) fun _ =>
  oB (oPI 16395 0 l1) fun _ =>
  oB (oGI 18952 l1) fun v25 =>
  oC (v25 = 0)
    (oB (oPI 16397 0 6) fun _ =>
    oB (oGL 18953 l1) fun v63 =>
    oB (oPL 16398 0 v63) fun _ =>
    oB (M_Ma_begin l1) fun _ =>
    oB (oPI 16396 0 1) fun _ =>
    oR ())
    (oB (oPI 18951 l1 1) fun _ =>
    oB (M_Ro_takeAll 135 0 132 0) fun _ =>
    oB (oPI 16396 0 3) fun _ =>
    oR ())

noncomputable def M_Bu_addMade (l1 : Int32) (l2 : Int32) : M (Unit) :=
  oC (0 ≤ l2)
    (oB (M_Ro_add 135 0 l1 l2.toInt64) fun _ =>
    oR ())
    (oB (M_Ma_fail (-l2)) fun _ =>
    oR ())

noncomputable def M_Bu_callProtected  : M (Unit) :=
  oB (oGI 16395 0) fun v4 =>
  oB (oPr 148 v4) fun _ =>
  oB (M_Co_push v4 1 (-1) 0) fun v10 =>
  oC (v10 = 0)
    (oB (M_Ma_fail 4) fun _ =>
    oR ())
    (oB (M_Ro_kindAt 132 0 0) fun v34 =>
    oB (oPI 16397 0 v34) fun _ =>
    oB (M_Ro_valueAt 132 0 0) fun v49 =>
    oB (oPL 16398 0 v49) fun _ =>
    oB (M_Ro_dropFirst 132 0 1) fun _ =>
    oB (oPI 16396 0 1) fun _ =>
    oR ())

noncomputable def M_Bu_hasTable_j20  : M (Int32) :=
  oB (M_Ro_kindAt 132 0 0) fun v25 =>
  oC (v25 = 5)
    (oR 1)
    (oR 0)

noncomputable def M_Bu_hasTable  : M (Int32) :=
  oB (M_Ro_kindAt 132 0 0) fun v5 =>
  oC (v5 = 5)
    (M_Bu_hasTable_j20)
    (oB (M_Ma_fail 2) fun _ =>
    M_Bu_hasTable_j20)

noncomputable def M_Bu_getMetatable_j62 (l1 : Int32) (k0 : Int32) : M (Unit) :=
  oC (l1 < 0)
    (oC (k0 < 0)
      (oB (M_Ro_add 135 0 0 0) fun _ =>
      oR ())
      (oB (M_Ro_add 135 0 5 k0.toInt64) fun _ =>
      oR ()))
    (oB (M_Bu_addEntry l1) fun _ =>
    oR ())

noncomputable def M_Bu_getMetatable  : M (Unit) :=
  oB (M_Ro_kindAt 132 0 0) fun v9 =>
  oB (M_Ro_valueAt 132 0 0) fun v17 =>
  oB (M_Ta_findEvent v9 v17 21) fun v22 =>
  oB (M_Ro_kindAt 132 0 0) fun v31 =>
  oC (v31 = 5)
    (oB (M_Ro_valueAt 132 0 0) fun v50 =>
    oB (oPz 145 4000 v50.toInt32) fun _ =>
    oB (oGI 18574 v50.toInt32) fun v55 =>
    M_Bu_getMetatable_j62 v22 v55)
    (M_Bu_getMetatable_j62 v22 (-1))

noncomputable def M_Bu_readRaw  : M (Unit) :=
  oB (M_Bu_hasTable) fun v1 =>
  oC (v1 = 0)
    (oR ())
    (oB (M_Ro_valueAt 132 0 0) fun v17 =>
    oB (M_Ro_kindAt 132 0 1) fun v26 =>
    oB (M_Ro_valueAt 132 0 1) fun v34 =>
    oB (M_Ta_find v17.toInt32 v26 v34) fun v37 =>
    oB (M_Bu_addEntry v37) fun _ =>
    oR ())

noncomputable def M_Bu_measureRaw  : M (Unit) :=
  oB (M_Ro_kindAt 132 0 0) fun v5 =>
  oC (v5 = 4)
    (oB (M_Bu_bytesOfFirst) fun v18 =>
    oB (oPr 146 v18) fun _ =>
    oB (oLn 146 v18) fun n21 =>
    oB (M_Ro_add 135 0 3 n21.toInt64) fun _ =>
    oR ())
    (oB (M_Bu_hasTable) fun v30 =>
    oC (v30 = 0)
      (oR ())
      (oB (M_Ro_valueAt 132 0 0) fun v50 =>
      oB (M_Ta_border v50.toInt32) fun v54 =>
      oB (M_Ro_add 135 0 3 v54.toInt64) fun _ =>
      oR ()))

noncomputable def M_Bu_compareRaw_j45 (k0 : Int32) : M (Unit) :=
  oB (M_Bu_addTruth k0) fun _ =>
  oR ()

noncomputable def M_Bu_compareRaw_j44  : M (Unit) :=
  M_Bu_compareRaw_j45 0

noncomputable def M_Bu_compareRaw  : M (Unit) :=
  oB (M_Ro_kindAt 132 0 0) fun v6 =>
  oB (M_Ro_kindAt 132 0 1) fun v14 =>
  oC (v6 = v14)
    (oB (M_Ro_valueAt 132 0 0) fun v25 =>
    oB (M_Ro_valueAt 132 0 1) fun v33 =>
    oC ((lg_cmp v25 v33) = 0)
      (M_Bu_compareRaw_j45 1)
      (M_Bu_compareRaw_j44))
    (M_Bu_compareRaw_j44)

noncomputable def M_Bu_next_L93 : (Int32 × Int32) → M ((Int32 × Int32) ⊕ ((Int32) ⊕ (Unit))) := fun x =>
  oB (oGI 18571 x.1) fun v96 =>
  oB (oGI 18573 x.1) fun v100 =>
  oC ((v96 + v100) ≤ x.2)
    (oR (Sum.inr (Sum.inr ())))
    (oB (oAI 123 50000 0 x.2) fun v116 =>
    oC (v116 = 0)
      (oR (Sum.inl (x.1, x.2 + 1)))
      (oR (Sum.inr (Sum.inl x.2))))

noncomputable def M_Bu_next_j90 (l2 : Int32) (l3 : Int32) : M (Unit) :=
  oB (oW M_Bu_next_L93 (l2, l3)) fun e93 =>
  Sum.elim
    (fun y93_120 : Int32 =>
      oB (oAI 121 50000 0 y93_120) fun v133 =>
      oB (oAL 122 50000 0 y93_120) fun v143 =>
      oB (M_Ro_add 135 0 v133 v143) fun _ =>
      oB (M_Bu_addEntry y93_120) fun _ =>
      oR ())
    (fun y93_160 : Unit =>
      oB (M_Ro_add 135 0 0 0) fun _ =>
      oR ()) e93

noncomputable def M_Bu_next  : M (Unit) :=
  oB (M_Bu_hasTable) fun v1 =>
  oC (v1 = 0)
    (oR ())
    (oB (M_Ro_valueAt 132 0 0) fun v13 =>
    oB (oPz 145 4000 v13.toInt32) fun _ =>
    oB (oGI 18571 v13.toInt32) fun v29 =>
    oB (M_Ro_kindAt 132 0 1) fun v38 =>
    oC (v38 = 0)
      (M_Bu_next_j90 v13.toInt32 v29)
      (oB (M_Ro_kindAt 132 0 1) fun v54 =>
      oB (M_Ro_valueAt 132 0 1) fun v62 =>
      oB (M_Ta_find v13.toInt32 v54 v62) fun v65 =>
      oC (0 ≤ v65)
        (oL (v65 + 1) fun l3_89 =>
        M_Bu_next_j90 v13.toInt32 l3_89)
        (oB (M_Ma_fail 6) fun _ =>
        oR ())))

noncomputable def M_Bu_select_j55  : M (Unit) :=
  oB (M_Ma_fail 7) fun _ =>
  oR ()

noncomputable def M_Bu_select  : M (Unit) :=
  oB (M_Ro_valueAt 132 0 0) fun v5 =>
  oB (M_Bu_isNumberSign) fun v10 =>
  oC (v10 = 0)
    (oB (M_Ro_kindAt 132 0 0) fun v42 =>
    oC (v42 = 3)
      (oC (0 < (lg_cmp v5 0))
        (oB (oGI 16898 0) fun v76 =>
        oB (M_Mth_min_ v5 v76.toInt64) fun v80 =>
        oB (M_Ro_dropFirst 132 0 v80.toInt32) fun _ =>
        oB (M_Ro_takeAll 135 0 132 0) fun _ =>
        oR ())
        (M_Bu_select_j55))
      (M_Bu_select_j55))
    (oB (oGI 16898 0) fun v25 =>
    oB (M_Ro_add 135 0 3 ((v25 - 1).toInt64)) fun _ =>
    oR ())

noncomputable def M_Bu_hasString_j57 (l1 : Int32) (l3 : Int32) (k0 : Int32) : M ((Int32 × Int32 × Int32) ⊕ ((Int32))) :=
  oR (Sum.inl (l1, k0, l3 + 1))

noncomputable def M_Bu_hasString_j56 (l1 : Int32) (l3 : Int32) : M ((Int32 × Int32 × Int32) ⊕ ((Int32))) :=
  M_Bu_hasString_j57 l1 l3 0

noncomputable def M_Bu_hasString_j52 (l1 : Int32) (l3 : Int32) : M ((Int32 × Int32 × Int32) ⊕ ((Int32))) :=
  M_Bu_hasString_j57 l1 l3 1

noncomputable def M_Bu_hasString_L20 : (Int32 × Int32 × Int32) → M ((Int32 × Int32 × Int32) ⊕ ((Int32))) := fun x =>
  oC (x.1 < x.2.2)
    (oR (Sum.inr x.2.1))
    (oC (x.2.1 = 0)
      (M_Bu_hasString_j56 x.1 x.2.2)
      (oB (M_Ro_kindAt 132 0 x.2.2) fun v34 =>
      oC (v34 = 0)
        (M_Bu_hasString_j52 x.1 x.2.2)
        (oB (M_Ro_kindAt 132 0 x.2.2) fun v45 =>
        oC (v45 = 3)
          (M_Bu_hasString_j52 x.1 x.2.2)
          (M_Bu_hasString_j56 x.1 x.2.2))))

noncomputable def M_Bu_hasString_j17 (l1 : Int32) (k0 : Int32) : M (Int32) :=
  oB (oW M_Bu_hasString_L20 (l1, k0, 1)) fun e20 =>
  oC (e20 = 0)
    (oB (M_Ma_fail 3) fun _ =>
    oB (oK (e20 = 0 ∨ e20 = 1)) fun _ =>
    oR e20)
    (oB (oK (e20 = 0 ∨ e20 = 1)) fun _ =>
    oR e20)

noncomputable def M_Bu_hasString (l1 : Int32) : M (Int32) :=
  oB (M_Ro_kindAt 132 0 0) fun v5 =>
  oC (v5 = 4)
    (M_Bu_hasString_j17 l1 1)
    (M_Bu_hasString_j17 l1 0)

noncomputable def M_Bu_tellByte_j57  : M (Unit) :=
  oB (M_Ro_add 135 0 0 0) fun _ =>
  oR ()

noncomputable def M_Bu_tellByte_j42 (l1 : Int32) (k0 : Int64) : M (Unit) :=
  oC ((lg_cmp k0 1) < 0)
    (M_Bu_tellByte_j57)
    (oB (oLn 146 l1) fun n51 =>
    oC ((lg_cmp k0 n51.toInt64) ≤ 0)
      (oB (oLn 146 l1) fun n79 =>
      oB (oAI 146 n79 l1 (k0.toInt32 - 1)) fun v79 =>
      oB (M_Ro_add 135 0 3 ((v79 &&& 255).toInt64)) fun _ =>
      oR ())
      (M_Bu_tellByte_j57))

noncomputable def M_Bu_tellByte  : M (Unit) :=
  oB (M_Bu_hasString 1) fun v2 =>
  oC (v2 = 0)
    (oR ())
    (oB (M_Bu_bytesOfFirst) fun v10 =>
    oB (oPr 146 v10) fun _ =>
    oB (M_Ro_kindAt 132 0 1) fun v19 =>
    oC (v19 = 0)
      (M_Bu_tellByte_j42 v10 1)
      (oB (M_Ro_valueAt 132 0 1) fun v34 =>
      oB (oLn 146 v10) fun n38 =>
      oB (M_Bu_fromFront v34 n38) fun v39 =>
      M_Bu_tellByte_j42 v10 v39))

noncomputable def M_Bu_measure  : M (Unit) :=
  oB (M_Bu_hasString 0) fun v2 =>
  oC (v2 = 0)
    (oR ())
    (oB (M_Bu_bytesOfFirst) fun v14 =>
    oB (oPr 146 v14) fun _ =>
    oB (oLn 146 v14) fun n17 =>
    oB (M_Ro_add 135 0 3 n17.toInt64) fun _ =>
    oR ())

noncomputable def M_Bu_hasFunction_j21  : M (Int32) :=
  oB (M_Ro_kindAt 132 0 0) fun v26 =>
  oC (v26 = 6)
    (oR 1)
    (oR 0)

noncomputable def M_Bu_hasFunction  : M (Int32) :=
  oB (M_Ro_kindAt 132 0 0) fun v5 =>
  oC (v5 = 6)
    (M_Bu_hasFunction_j21)
    (oB (M_Ma_fail 1) fun _ =>
    M_Bu_hasFunction_j21)

noncomputable def M_Bu_hasCoroutine_j21  : M (Int32) :=
  oB (M_Ro_kindAt 132 0 0) fun v26 =>
  oC (v26 = 7)
    (oR 1)
    (oR 0)

noncomputable def M_Bu_hasCoroutine  : M (Int32) :=
  oB (M_Ro_kindAt 132 0 0) fun v5 =>
  oC (v5 = 7)
    (M_Bu_hasCoroutine_j21)
    (oB (M_Ma_fail 2) fun _ =>
    M_Bu_hasCoroutine_j21)

noncomputable def M_Ma_giveWithTrue  : M (Unit) :=
  oB (M_Ro_addFirst 135 0 2 0) fun _ =>
  oB (oGI 17282 0) fun v13 =>
  oC (v13 ≤ 250)
    (oB (oPI 16396 0 3) fun _ =>
    oR ())
    (oB (M_Ma_fail 7) fun _ =>
    oR ())

noncomputable def M_Bu_tellStatus  : M (Unit) :=
  oB (M_Bu_hasCoroutine) fun v1 =>
  oC (v1 = 0)
    (oR ())
    (oB (M_Ro_valueAt 132 0 0) fun v16 =>
    oB (M_Ma_coroutineOf v16.toInt32) fun v20 =>
    oB (oPr 148 v20) fun _ =>
    oB (oGI 18951 v20) fun v39 =>
    oB (oAI 115 57 0 (53 + v39)) fun v43 =>
    oB (M_Ro_add 135 0 4 v43.toInt64) fun _ =>
    oR ())

noncomputable def M_St_finish_j235  : M (Unit) :=
  oB (M_Ro_clear 135 0) fun _ =>
  oR ()

noncomputable def M_St_finish_j154 (k0 : Int32) : M (Unit) :=
  oB (M_St_decide k0) fun _ =>
  M_St_finish_j235

noncomputable def M_St_finish  : M (Unit) :=
  oB (M_St_decode) fun _ =>
  oB (oPI 16396 0 0) fun _ =>
  oB (oGI 16520 0) fun v21 =>
  oC (v21 = 8 ∨ v21 = 10)
    (M_St_finish_j235)
  (oC (v21 = 29)
    (oB (oGI 16517 0) fun v104 =>
    oB (oPr 152 v104) fun _ =>
    oB (M_Ro_kindAt 135 0 0) fun v109 =>
    oB (oPI 19462 v104 v109) fun _ =>
    oB (oGI 16517 0) fun v116 =>
    oB (oPr 152 v116) fun _ =>
    oB (M_Ro_valueAt 135 0 0) fun v121 =>
    oB (oPL 19463 v116 v121) fun _ =>
    oB (oPI 16396 0 6) fun _ =>
    M_St_finish_j235)
  (oC (v21 = 31 ∨ v21 = 32 ∨ v21 = 33)
    (oB (M_Ro_kindAt 135 0 0) fun v142 =>
    oC (v142 ≤ 1)
      (M_St_finish_j154 0)
      (M_St_finish_j154 1))
  (oC (v21 = 36)
    (oB (oGI 16523 0) fun v161 =>
    oC (v161 = 0)
      (oB (oGI 16521 0) fun v172 =>
      oB (oPI 16390 0 v172) fun _ =>
      oB (M_Ro_takeAll 138 0 135 0) fun _ =>
      M_St_finish_j235)
      (oB (oGI 16521 0) fun v194 =>
      oB (oGI 16523 0) fun v198 =>
      oB (M_St_setAll v194 (v198 - 1)) fun _ =>
      M_St_finish_j235))
  (oC (v21 = 41)
    (oB (oGI 16521 0) fun v211 =>
    oB (oGI 16523 0) fun v217 =>
    oB (M_St_setAll (v211 + 3) v217) fun _ =>
    M_St_finish_j235)
  (oB (oGI 16521 0) fun v228 =>
  oB (M_St_setAll v228 1) fun _ =>
  M_St_finish_j235)))))

noncomputable def M_Ma_endAll_L2 : (Int32) → M ((Int32) ⊕ ((Unit))) := fun x =>
  oC (32 ≤ x)
    (oR (Sum.inr ()))
    (oB (oGI 16395 0) fun v9 =>
    oB (oPr 148 v9) fun _ =>
    oB (oGI 18955 v9) fun v12 =>
    oC (v12 < 0)
      (oR (Sum.inr ()))
      (oB (oGI 16395 0) fun v20 =>
      oB (oPr 148 v20) fun _ =>
      oB (M_Ma_empty v20) fun _ =>
      oB (oGI 16395 0) fun v27 =>
      oB (oPr 148 v27) fun _ =>
      oB (oGI 18955 v27) fun v40 =>
      oB (oPz 148 32 v40) fun _ =>
      oB (oPI 16395 0 v40) fun _ =>
      oB (oPI 18951 v27 3) fun _ =>
      oB (oPI 18955 v27 (-1)) fun _ =>
      oR (Sum.inl (x + 1))))

noncomputable def M_Ma_endAll_j63  : M (Unit) :=
  oB (oGI 16395 0) fun v65 =>
  oB (oPr 148 v65) fun _ =>
  oB (M_Ma_empty v65) fun _ =>
  oB (M_Ma_endWithError) fun _ =>
  oR ()

noncomputable def M_Ma_endAll  : M (Unit) :=
  oB (oW M_Ma_endAll_L2 0) fun e2 =>
  M_Ma_endAll_j63

noncomputable def M_LM_kind (l1 : Int32) : M (Int32) :=
  oB (M_LM_hasNoResult l1) fun v2 =>
  oC (v2 = 0)
    (oB (oAI 142 512 0 l1) fun v27 =>
    oR v27)
    (oF)

noncomputable def M_Ch_readPrototype_j22 (l1 : Int32) (l2 : Int32) (ln : Nat × Nat) : M (Int32 × (Nat × Nat)) :=
  oB (oPz 144 250 l1) fun _ =>
  oB (oPI 18444 l1 l2) fun _ =>
  oB (oPI 12937 0 (l1 + 1)) fun _ =>
  oB (M_Ch_readHead l1) fun v43 =>
  oC (v43 = 0)
    (oR (0, ln))
    (oB (M_Ch_readUpvalues l1) fun v51 =>
    oC (v51 = 0)
      (oR (0, ln))
      (oB (M_Ch_readConstants l1) fun v59 =>
      oC (v59 = 0)
        (oR (0, ln))
        (oB (M_Ch_readCode l1) fun v67 =>
        oC (v67 = 0)
          (oR (0, ln))
          (oB (M_Ch_readNumber 1) fun v78 =>
          oB (oPI 18442 l1 v78) fun _ =>
          oB (oGI 18442 l1) fun v85 =>
          oC (v85 < 0)
            (oR (0, ln))
            (oR (1, ln))))))

noncomputable def M_Ch_readPrototype (n0 : Nat × Nat) (l1 : Int32) (l2 : Int32) : M (Int32 × (Nat × Nat)) :=
  oB (oNz 144 250 l1) fun v5 =>
  oC (v5 = -1)
    (oB (oK ((0 : Int32) ≤ l1 ∧ l1 < (250 : Int32))) fun _ =>
    oB (oKs fun s => gPr s l1) fun _ =>
    oB (oNw n0 (nfF 144)) fun m14 =>
    oB (oS fun s => nwO s 144 l1) fun _ =>
    M_Ch_readPrototype_j22 l1 l2 m14)
    (M_Ch_readPrototype_j22 l1 l2 n0)

noncomputable def M_Ch_goesWhereItMay_j206  : M (Int32) :=
  oR 1

noncomputable def M_Ch_goesWhereItMay_j182 (l1 : Int32) (l2 : Int32) (l3 : Int32) (l5 : Int32) : M (Int32) :=
  oC (l5 = 0)
    (M_Ch_goesWhereItMay_j206)
    (oB (M_Ch_mayBeReached l1 (((l2 + 1) + (iushr l3 (14 : Int32))) - 131071)) fun v200 =>
    oC (v200 = 0)
      (oR 0)
      (M_Ch_goesWhereItMay_j206))

noncomputable def M_Ch_goesWhereItMay_j164 (l1 : Int32) (l2 : Int32) (l3 : Int32) (l5 : Int32) (l7 : Int32) : M (Int32) :=
  oC (l7 = 0)
    (M_Ch_goesWhereItMay_j182 l1 l2 l3 l5)
    (oB (M_Ch_mayBeReached l1 (l2 + 2)) fun v174 =>
    oC (v174 = 0)
      (oR 0)
      (M_Ch_goesWhereItMay_j182 l1 l2 l3 l5))

noncomputable def M_Ch_goesWhereItMay_j136 (l1 : Int32) (l2 : Int32) (l3 : Int32) (l5 : Int32) (l6 : Int32) (l7 : Int32) : M (Int32) :=
  oC (l6 = 0)
    (M_Ch_goesWhereItMay_j164 l1 l2 l3 l5 l7)
    (oB (oGI 18440 l1) fun v146 =>
    oB (oAI 104 20000 0 ((v146 + l2) + 1)) fun v153 =>
    oC ((v153 &&& 63) = 30)
      (M_Ch_goesWhereItMay_j164 l1 l2 l3 l5 l7)
      (oR 0))

noncomputable def M_Ch_goesWhereItMay_j117 (l1 : Int32) (l2 : Int32) (l3 : Int32) (l5 : Int32) (l6 : Int32) (l7 : Int32) (k0 : Int32) : M (Int32) :=
  oC (k0 = 0)
    (M_Ch_goesWhereItMay_j136 l1 l2 l3 l5 l6 l7)
    (oB (oGI 18439 l1) fun v128 =>
    oC ((l2 + 1) < v128)
      (M_Ch_goesWhereItMay_j136 l1 l2 l3 l5 l6 l7)
      (oR 0))

noncomputable def M_Ch_goesWhereItMay_j116 (l1 : Int32) (l2 : Int32) (l3 : Int32) (l5 : Int32) (l6 : Int32) (l7 : Int32) : M (Int32) :=
  M_Ch_goesWhereItMay_j117 l1 l2 l3 l5 l6 l7 0

noncomputable def M_Ch_goesWhereItMay_j89 (l1 : Int32) (l2 : Int32) (l3 : Int32) (l4 : Int32) (l5 : Int32) (l6 : Int32) (k0 : Int32) : M (Int32) :=
  oC (l4 = 30)
    (M_Ch_goesWhereItMay_j116 l1 l2 l3 l5 l6 k0)
    (oC (l4 = 37)
      (M_Ch_goesWhereItMay_j116 l1 l2 l3 l5 l6 k0)
      (oC (l4 = 38)
        (M_Ch_goesWhereItMay_j116 l1 l2 l3 l5 l6 k0)
        (M_Ch_goesWhereItMay_j117 l1 l2 l3 l5 l6 k0 1)))

noncomputable def M_Ch_goesWhereItMay_j84 (l1 : Int32) (l2 : Int32) (l3 : Int32) (l4 : Int32) (l5 : Int32) (l6 : Int32) : M (Int32) :=
  M_Ch_goesWhereItMay_j89 l1 l2 l3 l4 l5 l6 1

noncomputable def M_Ch_goesWhereItMay_j88 (l1 : Int32) (l2 : Int32) (l3 : Int32) (l4 : Int32) (l5 : Int32) (l6 : Int32) : M (Int32) :=
  M_Ch_goesWhereItMay_j89 l1 l2 l3 l4 l5 l6 0

noncomputable def M_Ch_goesWhereItMay_j60 (l1 : Int32) (l2 : Int32) (l3 : Int32) (l4 : Int32) (l5 : Int32) (k0 : Int32) : M (Int32) :=
  oC (k0 = 0)
    (oC (l4 = 3)
      (oC (((iushr l3 (14 : Int32)) &&& 511) = 0)
        (M_Ch_goesWhereItMay_j88 l1 l2 l3 l4 l5 k0)
        (M_Ch_goesWhereItMay_j84 l1 l2 l3 l4 l5 k0))
      (M_Ch_goesWhereItMay_j88 l1 l2 l3 l4 l5 k0))
    (M_Ch_goesWhereItMay_j84 l1 l2 l3 l4 l5 k0)

noncomputable def M_Ch_goesWhereItMay_j59 (l1 : Int32) (l2 : Int32) (l3 : Int32) (l4 : Int32) (l5 : Int32) : M (Int32) :=
  M_Ch_goesWhereItMay_j60 l1 l2 l3 l4 l5 0

noncomputable def M_Ch_goesWhereItMay_j39 (l1 : Int32) (l2 : Int32) (l3 : Int32) (l4 : Int32) (k0 : Int32) : M (Int32) :=
  oC (l4 ≤ 30)
    (M_Ch_goesWhereItMay_j59 l1 l2 l3 l4 k0)
    (oC (36 ≤ l4)
      (M_Ch_goesWhereItMay_j59 l1 l2 l3 l4 k0)
      (M_Ch_goesWhereItMay_j60 l1 l2 l3 l4 k0 1))

noncomputable def M_Ch_goesWhereItMay_j34 (l1 : Int32) (l2 : Int32) (l3 : Int32) (l4 : Int32) : M (Int32) :=
  M_Ch_goesWhereItMay_j39 l1 l2 l3 l4 1

noncomputable def M_Ch_goesWhereItMay (l1 : Int32) (l2 : Int32) (l3 : Int32) : M (Int32) :=
  oL (l3 &&& 63) fun l4_4 =>
  oC (l4_4 = 30)
    (M_Ch_goesWhereItMay_j34 l1 l2 l3 l4_4)
    (oC (l4_4 = 39)
      (M_Ch_goesWhereItMay_j34 l1 l2 l3 l4_4)
      (oC (l4_4 = 40)
        (M_Ch_goesWhereItMay_j34 l1 l2 l3 l4_4)
        (oC (l4_4 = 42)
          (M_Ch_goesWhereItMay_j34 l1 l2 l3 l4_4)
          (M_Ch_goesWhereItMay_j39 l1 l2 l3 l4_4 0))))

noncomputable def M_He_clean_L12 : (Int32) → M ((Int32) ⊕ ((Unit))) := fun x =>
  oB (oGI 14209 0) fun v14 =>
  oC (v14 ≤ x)
    (oR (Sum.inr ()))
    (oB (oPz 145 4000 x) fun _ =>
    oB (oPz 145 4000 x) fun _ =>
    oB (oGI 18563 x) fun v32 =>
    oB (oK (v32 = 0 ∨ v32 = 1)) fun _ =>
    oB (oPI 18562 x v32) fun _ =>
    oR (Sum.inl (x + 1)))

noncomputable def M_He_clean_L72 : (Int32 × Int32) → M ((Int32 × Int32) ⊕ ((Int32))) := fun x =>
  oC (32 ≤ x.2)
    (oR (Sum.inr x.1))
    (oB (oGI 18955 x.1) fun v79 =>
    oC (v79 < 0)
      (oR (Sum.inr x.1))
      (oB (oGI 18950 x.1) fun v89 =>
      oB (M_He_reach 7 v89.toInt64) fun _ =>
      oB (oGI 18955 x.1) fun v101 =>
      oB (oPz 148 32 v101) fun _ =>
      oR (Sum.inl (v101, x.2 + 1))))

noncomputable def M_He_clean_j299 (l2 : Int32) : M ((Int32) ⊕ ((Unit))) :=
  oR (Sum.inl (l2 + 1))

noncomputable def M_He_clean_L230 : (Int32) → M ((Int32) ⊕ ((Unit))) := fun x =>
  oB (oGI 14219 0) fun v231 =>
  oC (v231 ≤ 0)
    (oR (Sum.inr ()))
    (oC (4000 ≤ x)
      (oR (Sum.inr ()))
      (oB (oGI 14219 0) fun v246 =>
      oB (oPI 14219 0 (v246 - 1)) fun _ =>
      oB (oGI 14219 0) fun v263 =>
      oB (oAI 119 4000 0 v263) fun v266 =>
      oB (oPz 145 4000 v266) fun _ =>
      oB (oGI 18560 v266) fun v270 =>
      oC (v270 = 7)
        (oB (oGI 18564 v266) fun v284 =>
        oB (oPz 148 32 v284) fun _ =>
        oB (M_He_reachFromCoroutine v284) fun _ =>
        M_He_clean_j299 x)
        (oB (M_He_reachFrom v266) fun _ =>
        M_He_clean_j299 x)))

noncomputable def M_He_clean_j305  : M (Unit) :=
  oB (M_He_sweep) fun _ =>
  oR ()

noncomputable def M_He_clean_j112 (l1 : Int32) : M (Unit) :=
  oB (oGI 18950 l1) fun v116 =>
  oB (M_He_reach 7 v116.toInt64) fun _ =>
  oB (oGI 18050 0) fun v152 =>
  oB (M_He_reachRow 142 0 143 0 0 v152) fun _ =>
  oB (oGI 17666 0) fun v187 =>
  oB (M_He_reachRow 139 0 140 0 0 v187) fun _ =>
  oB (oGI 16898 0) fun v222 =>
  oB (M_He_reachRow 133 0 134 0 0 v222) fun _ =>
  oB (oW M_He_clean_L230 0) fun e230 =>
  M_He_clean_j305

noncomputable def M_He_clean  : M (Unit) :=
  oB (oAI 114 15 0 5) fun v6 =>
  oB (oSI 114 15 0 5 (v6 + 1)) fun _ =>
  oB (oW M_He_clean_L12 0) fun e12 =>
  oB (oPI 14219 0 0) fun _ =>
  oB (oGI 16394 0) fun v55 =>
  oB (M_He_reach 5 v55.toInt64) fun _ =>
  oB (oGI 16395 0) fun v66 =>
  oB (oPr 148 v66) fun _ =>
  oB (oW M_He_clean_L72 (v66, 0)) fun e72 =>
  M_He_clean_j112 e72

noncomputable def M_Ta_makeRoom_j108 (l1 : Int32) (l2 : Int32) (l4 : Int32) : M (Int32) :=
  oB (oAI 114 15 0 6) fun v111 =>
  oC ((v111 + l4) ≤ 40000)
    (oB (oAI 114 15 0 6) fun v127 =>
    oB (oGI 18572 l2) fun v131 =>
    oB (oSI 114 15 0 6 (v127 + (l4 - v131))) fun _ =>
    oB (oAI 114 15 0 7) fun v141 =>
    oB (oSI 114 15 0 7 (v141 + l4)) fun _ =>
    oB (oAI 114 15 0 13) fun v150 =>
    oB (oSI 114 15 0 13 (v150 + l4)) fun _ =>
    oB (M_Ta_moveTo l1 l4) fun _ =>
    oR 0)
    (oR 10)

noncomputable def M_Ta_makeRoom_j62 (l1 : Int32) (l2 : Int32) (k0 : Int32) : M (Int32) :=
  oB (oAI 114 15 0 13) fun v67 =>
  oC ((v67 + k0) ≤ 300000)
    (oB (oAI 114 15 0 6) fun v82 =>
    oC ((v82 + k0) ≤ 40000)
      (M_Ta_makeRoom_j108 l1 l2 k0)
      (oB (oGI 14221 0) fun v95 =>
      oC (v95 = 0)
        (oB (M_He_clean) fun _ =>
        M_Ta_makeRoom_j108 l1 l2 k0)
        (M_Ta_makeRoom_j108 l1 l2 k0)))
    (oR 11)

noncomputable def M_Ta_makeRoom_j37 (l1 : Int32) (l2 : Int32) : M (Int32) :=
  oB (oGI 18572 l2) fun v46 =>
  oC (v46 = 0)
    (M_Ta_makeRoom_j62 l1 l2 4)
    (oB (oGI 18572 l2) fun v57 =>
    M_Ta_makeRoom_j62 l1 l2 (v57 * 2))

noncomputable def M_Ta_makeRoom (l1 : Int32) : M (Int32) :=
  oB (oPz 145 4000 l1) fun _ =>
  oB (M_Ta_dropDead l1) fun _ =>
  oB (oGI 18572 l1) fun v16 =>
  oC (v16 ≤ 0)
    (M_Ta_makeRoom_j37 l1 l1)
    (oB (oGI 18573 l1) fun v23 =>
    oB (oGI 18572 l1) fun v29 =>
    oC (v29 < (v23 * 2))
      (M_Ta_makeRoom_j37 l1 l1)
      (oR 0))

noncomputable def M_Ma_enterClosure_j54 (l1 : Int32) (l2 : Int32) (l3 : Int32) (k0 : Int32) : M (Unit) :=
  oB (oGI 18434 l2) fun v60 =>
  oB (M_Co_push l3 0 l1 (v60 + k0)) fun v66 =>
  oC (v66 = 0)
    (oB (M_Ma_fail 4) fun _ =>
    oR ())
    (oB (M_Co_top l3) fun v79 =>
    oB (oPr 152 v79) fun _ =>
    oB (oPI 19458 v79 l2) fun _ =>
    oB (oPI 19460 v79 k0) fun _ =>
    oB (oGI 16898 0) fun v101 =>
    oB (oGI 18432 l2) fun v105 =>
    oB (M_Mth_min v101 v105) fun v108 =>
    oB (oGI 19459 v79) fun v127 =>
    oB (oCI 133 0 512 149 l3 4000 0 v127 v108) fun _ =>
    oB (oGI 19459 v79) fun v149 =>
    oB (oCL 134 0 512 150 l3 4000 0 v149 v108) fun _ =>
    oB (oGI 19459 v79) fun v163 =>
    oB (oGI 19459 v79) fun v171 =>
    oB (oGI 18434 l2) fun v175 =>
    oB (M_Arr_fill_ 149 l3 (v163 + v108) (v171 + v175) 0) fun _ =>
    oB (oGI 19459 v79) fun v189 =>
    oB (oGI 19459 v79) fun v197 =>
    oB (oGI 18434 l2) fun v201 =>
    oB (M_Arr_fill__ 150 l3 (v189 + v108) (v197 + v201) 0) fun _ =>
    oB (oGI 18432 l2) fun v217 =>
    oB (oGI 19459 v79) fun v226 =>
    oB (oGI 18434 l2) fun v230 =>
    oB (oCI 133 0 512 149 l3 4000 v217 (v226 + v230) k0) fun _ =>
    oB (oGI 18432 l2) fun v247 =>
    oB (oGI 19459 v79) fun v256 =>
    oB (oGI 18434 l2) fun v260 =>
    oB (oCL 134 0 512 150 l3 4000 v247 (v256 + v260) k0) fun _ =>
    oB (M_Ro_clear 132 0) fun _ =>
    oB (oPI 16396 0 0) fun _ =>
    oR ())

noncomputable def M_Ma_enterClosure (l1 : Int32) : M (Unit) :=
  oB (oPz 145 4000 l1) fun _ =>
  oB (oGI 18564 l1) fun v16 =>
  oB (oPz 144 250 v16) fun _ =>
  oB (oGI 16395 0) fun v22 =>
  oB (oPr 148 v22) fun _ =>
  oB (oGI 18433 v16) fun v27 =>
  oC (v27 = 1)
    (oB (oGI 16898 0) fun v39 =>
    oB (oGI 18432 v16) fun v43 =>
    oB (M_Mth_max 0 (v39 - v43)) fun v47 =>
    M_Ma_enterClosure_j54 l1 v16 v22 v47)
    (M_Ma_enterClosure_j54 l1 v16 v22 0)

noncomputable def M_St_move_j179 (k0 : Int32) (k1 : Int32) (k2 : Int32) : M (Unit) :=
  oB (oPI 19461 k2 (k1 + k0)) fun _ =>
  oR ()

noncomputable def M_St_move_j155 (k0 : Int32) (k1 : Int32) : M (Unit) :=
  oB (M_St_set k1 k0 0) fun _ =>
  oB (oGI 16517 0) fun v160 =>
  oB (oPr 152 v160) fun _ =>
  oB (oGI 19461 v160) fun v164 =>
  oB (oGI 16523 0) fun v168 =>
  oC (v168 = 0)
    (M_St_move_j179 0 v164 v160)
    (M_St_move_j179 1 v164 v160)

noncomputable def M_St_move_L191 : (Int32) → M ((Int32) ⊕ ((Unit))) := fun x =>
  oB (oGI 16521 0) fun v193 =>
  oB (oGI 16522 0) fun v197 =>
  oC ((v193 + v197) < x)
    (oR (Sum.inr ()))
    (oB (M_St_set x 0 0) fun _ =>
    oR (Sum.inl (x + 1)))

noncomputable def M_St_move  : M (Unit) :=
  oB (oGI 16520 0) fun v1 =>
  oC (v1 = 0)
    (oB (oGI 16521 0) fun v62 =>
    oB (oGI 16522 0) fun v67 =>
    oB (M_St_kindOf v67) fun v70 =>
    oB (oGI 16522 0) fun v75 =>
    oB (M_St_valueOf v75) fun v78 =>
    oB (M_St_set v62 v70 v78) fun _ =>
    oR ())
  (oC (v1 = 1)
    (oB (oGI 16521 0) fun v89 =>
    oB (oGI 16518 0) fun v100 =>
    oB (oPr 144 v100) fun _ =>
    oB (oGI 18438 v100) fun v103 =>
    oB (oGI 16524 0) fun v107 =>
    oB (oAI 105 20000 0 (v103 + v107)) fun v111 =>
    oB (oGI 16518 0) fun v120 =>
    oB (oPr 144 v120) fun _ =>
    oB (oGI 18438 v120) fun v123 =>
    oB (oGI 16524 0) fun v127 =>
    oB (oAL 106 20000 0 (v123 + v127)) fun v131 =>
    oB (M_St_set v89 v111 v131) fun _ =>
    oR ())
  (oC (v1 = 3)
    (oB (oGI 16521 0) fun v140 =>
    oB (oGI 16522 0) fun v144 =>
    oC (v144 = 0)
      (M_St_move_j155 1 v140)
      (M_St_move_j155 2 v140))
  (oC (v1 = 4)
    (oB (oGI 16521 0) fun v187 =>
    oB (oW M_St_move_L191 v187) fun e191 =>
    oR ())
  (oC (v1 = 5)
    (oB (oGI 16521 0) fun v222 =>
    oB (oGI 16522 0) fun v231 =>
    oB (M_St_upvalue v231) fun v234 =>
    oB (M_He_variableKind v234) fun v237 =>
    oB (oGI 16522 0) fun v246 =>
    oB (M_St_upvalue v246) fun v249 =>
    oB (M_He_variableValue v249) fun v252 =>
    oB (M_St_set v222 v237 v252) fun _ =>
    oR ())
  (oC (v1 = 6)
    (oB (oGI 16522 0) fun v268 =>
    oB (M_St_upvalue v268) fun v271 =>
    oB (M_He_variableKind v271) fun v274 =>
    oB (oGI 16522 0) fun v283 =>
    oB (M_St_upvalue v283) fun v286 =>
    oB (M_He_variableValue v286) fun v289 =>
    oB (oGI 16523 0) fun v294 =>
    oB (M_St_kindOf v294) fun v297 =>
    oB (oGI 16523 0) fun v302 =>
    oB (M_St_valueOf v302) fun v305 =>
    oB (M_St_read v274 v289 v297 v305) fun _ =>
    oR ())
  (oC (v1 = 7)
    (oB (oGI 16522 0) fun v317 =>
    oB (M_St_kindOf v317) fun v320 =>
    oB (oGI 16522 0) fun v325 =>
    oB (M_St_valueOf v325) fun v328 =>
    oB (oGI 16523 0) fun v333 =>
    oB (M_St_kindOf v333) fun v336 =>
    oB (oGI 16523 0) fun v341 =>
    oB (M_St_valueOf v341) fun v344 =>
    oB (M_St_read v320 v328 v336 v344) fun _ =>
    oR ())
  (oC (v1 = 9)
    (oB (oGI 16522 0) fun v359 =>
    oB (M_St_upvalue v359) fun v362 =>
    oB (oGI 16521 0) fun v367 =>
    oB (M_St_kindOf v367) fun v370 =>
    oB (oGI 16521 0) fun v375 =>
    oB (M_St_valueOf v375) fun v378 =>
    oB (M_He_setVariable v362 v370 v378) fun _ =>
    oR ())
  (oB (oGI 16522 0) fun v389 =>
  oB (M_St_kindOf v389) fun v392 =>
  oB (oGI 16522 0) fun v398 =>
  oB (M_St_valueOf v398) fun v401 =>
  oB (oGI 16521 0) fun v407 =>
  oB (M_St_set (v407 + 1) v392 v401) fun _ =>
  oB (oGI 16523 0) fun v422 =>
  oB (M_St_kindOf v422) fun v425 =>
  oB (oGI 16523 0) fun v430 =>
  oB (M_St_valueOf v430) fun v433 =>
  oB (M_St_read v392 v401 v425 v433) fun _ =>
  oR ()))))))))

noncomputable def M_St_reckon_j50 (k0 : Int32) : M (Unit) :=
  oB (oGI 16522 0) fun v55 =>
  oB (M_St_kindOf v55) fun v58 =>
  oB (oGI 16522 0) fun v63 =>
  oB (M_St_valueOf v63) fun v66 =>
  oB (oGI 16523 0) fun v71 =>
  oB (M_St_kindOf v71) fun v74 =>
  oB (oGI 16523 0) fun v79 =>
  oB (M_St_valueOf v79) fun v82 =>
  oB (M_St_callsEither k0 v58 v66 v74 v82) fun v85 =>
  oC (v85 = 0)
    (oB (M_Ma_fail 3) fun _ =>
    oR ())
    (oR ())

noncomputable def M_St_reckon_j24  : M (Unit) :=
  oB (oGI 16520 0) fun v25 =>
  oC (16 < v25)
    (oB (oGI 16520 0) fun v44 =>
    M_St_reckon_j50 (v44 - 12))
    (oB (oGI 16520 0) fun v34 =>
    M_St_reckon_j50 (v34 - 10))

noncomputable def M_St_reckon_j153 (l1 : Int64) (l3 : Int64) : M (Unit) :=
  oB (oGI 16521 0) fun v155 =>
  oB (M_St_reckoned l1 l3) fun v162 =>
  oB (M_St_set v155 3 v162) fun _ =>
  oR ()

noncomputable def M_St_reckon_j142  : M (Unit) :=
  oB (M_Ma_fail 5) fun _ =>
  oR ()

noncomputable def M_St_reckon  : M (Unit) :=
  oB (oGI 16522 0) fun v2 =>
  oB (M_St_kindOf v2) fun v5 =>
  oC (v5 = 3)
    (oB (oGI 16523 0) fun v14 =>
    oB (M_St_kindOf v14) fun v17 =>
    oC (v17 = 3)
      (oB (oGI 16522 0) fun v102 =>
      oB (M_St_valueOf v102) fun v105 =>
      oB (oGI 16523 0) fun v111 =>
      oB (M_St_valueOf v111) fun v114 =>
      oC ((lg_cmp v114 0) = 0)
        (oB (oGI 16520 0) fun v125 =>
        oC (v125 = 16)
          (M_St_reckon_j142)
          (oB (oGI 16520 0) fun v134 =>
          oC (v134 = 19)
            (M_St_reckon_j142)
            (M_St_reckon_j153 v105 v114)))
        (M_St_reckon_j153 v105 v114))
      (M_St_reckon_j24))
    (M_St_reckon_j24)

noncomputable def M_St_measure  : M (Unit) :=
  oB (oGI 16522 0) fun v2 =>
  oB (M_St_kindOf v2) fun v5 =>
  oB (oGI 16522 0) fun v11 =>
  oB (M_St_valueOf v11) fun v14 =>
  oB (M_Ta_findEvent v5 v14 16) fun v26 =>
  oC (v5 = 4)
    (oB (oGI 16521 0) fun v38 =>
    oB (oPz 145 4000 v14.toInt32) fun _ =>
    oB (oGI 18815 v14.toInt32) fun v52 =>
    oB (oK (v52 = 1)) fun _ =>
    oB (oLn 146 v14.toInt32) fun n55 =>
    oB (M_St_set v38 3 n55.toInt64) fun _ =>
    oR ())
    (oC (v5 = 5)
      (oC (0 ≤ v26)
        (oB (M_Ma_callEntry v26 v5 v14 0 0) fun _ =>
        oB (oPI 16898 0 1) fun _ =>
        oR ())
        (oB (oGI 16521 0) fun v86 =>
        oB (M_Ta_border v14.toInt32) fun v96 =>
        oB (M_St_set v86 3 v96.toInt64) fun _ =>
        oR ()))
      (oB (M_Ma_fail 2) fun _ =>
      oR ()))

noncomputable def M_St_branch_j73  : M (Unit) :=
  oB (M_St_jump) fun _ =>
  oR ()

noncomputable def M_St_branch_j123 (k0 : Int32) (k1 : Int32) (k2 : Int32) : M (Unit) :=
  oB (oPI 19461 k2 (k1 + k0)) fun _ =>
  oR ()

noncomputable def M_St_branch_j115 (k0 : Int32) (k1 : Int32) (k2 : Int32) (k3 : Int32) : M (Unit) :=
  oC (k1 = k0)
    (M_St_branch_j123 1 k2 k3)
    (M_St_branch_j123 0 k2 k3)

noncomputable def M_St_branch_j151 (k0 : Int32) (k1 : Int32) : M (Unit) :=
  oC (k1 = k0)
    (oB (oGI 16521 0) fun v156 =>
    oB (oGI 16522 0) fun v161 =>
    oB (M_St_kindOf v161) fun v164 =>
    oB (oGI 16522 0) fun v169 =>
    oB (M_St_valueOf v169) fun v172 =>
    oB (M_St_set v156 v164 v172) fun _ =>
    oR ())
    (oB (oGI 16517 0) fun v182 =>
    oB (oPr 152 v182) fun _ =>
    oB (oGI 19461 v182) fun v186 =>
    oB (oPI 19461 v182 (v186 + 1)) fun _ =>
    oR ())

noncomputable def M_St_branch  : M (Unit) :=
  oB (oGI 16520 0) fun v1 =>
  oC (v1 = 30)
    (oB (oGI 16521 0) fun v45 =>
    oC (v45 = 0)
      (M_St_branch_j73)
      (oB (oGI 16516 0) fun v56 =>
      oB (oPr 148 v56) fun _ =>
      oB (oGI 16519 0) fun v60 =>
      oB (oGI 16521 0) fun v64 =>
      oB (M_He_closeFrom v56 ((v60 + v64) - 1)) fun _ =>
      M_St_branch_j73))
  (oC (v1 = 31)
    (oB (M_St_equal) fun _ =>
    oR ())
  (oC (v1 = 34)
    (oB (oGI 16517 0) fun v88 =>
    oB (oPr 152 v88) fun _ =>
    oB (oGI 19461 v88) fun v92 =>
    oB (oGI 16521 0) fun v97 =>
    oB (M_St_isTrue v97) fun v100 =>
    oB (oGI 16523 0) fun v104 =>
    oC (v104 = 0)
      (M_St_branch_j115 1 v100 v92 v88)
      (M_St_branch_j115 0 v100 v92 v88))
  (oC (v1 = 35)
    (oB (oGI 16522 0) fun v132 =>
    oB (M_St_isTrue v132) fun v135 =>
    oB (oGI 16523 0) fun v139 =>
    oC (v139 = 1)
      (M_St_branch_j151 1 v135)
      (M_St_branch_j151 0 v135))
  (oB (M_St_order) fun _ =>
  oR ()))))

noncomputable def M_St_callOrReturn_j82 (k0 : Int32) (k1 : Int32) : M (Unit) :=
  oB (M_St_gather 132 0 k1 k0) fun v82 =>
  oC (v82 = 0)
    (oR ())
    (oB (oGI 16521 0) fun v95 =>
    oB (M_St_kindOf v95) fun v98 =>
    oB (oPI 16397 0 v98) fun _ =>
    oB (oGI 16521 0) fun v110 =>
    oB (M_St_valueOf v110) fun v113 =>
    oB (oPL 16398 0 v113) fun _ =>
    oB (oPI 16396 0 1) fun _ =>
    oB (oGI 16520 0) fun v128 =>
    oC (v128 = 37)
      (oB (M_Ma_leave) fun _ =>
      oR ())
      (oR ()))

noncomputable def M_St_callOrReturn  : M (Unit) :=
  oB (oGI 16520 0) fun v1 =>
  oC (v1 = 38)
    (oB (oGI 16521 0) fun v18 =>
    oB (oGI 16522 0) fun v22 =>
    oB (M_St_gather 135 0 v18 (v22 - 1)) fun v27 =>
    oC (v27 = 0)
      (oR ())
      (oB (M_Ma_leave) fun _ =>
      oB (oPI 16396 0 3) fun _ =>
      oR ()))
    (oB (oGI 16521 0) fun v58 =>
    oB (oGI 16520 0) fun v64 =>
    oC (v64 = 41)
      (M_St_callOrReturn_j82 2 (v58 + 1))
      (oB (oGI 16522 0) fun v77 =>
      M_St_callOrReturn_j82 (v77 - 1) (v58 + 1)))

noncomputable def M_St_loop_j75 (l3 : Int64) : M (Unit) :=
  oB (M_St_jump) fun _ =>
  oB (oGI 16521 0) fun v81 =>
  oB (M_St_set (v81 + 3) 3 l3) fun _ =>
  oR ()

noncomputable def M_St_loop  : M (Unit) :=
  oB (M_St_hasLoopNumbers) fun v1 =>
  oC (v1 = 0)
    (oR ())
    (oB (oGI 16521 0) fun v10 =>
    oB (M_St_valueOf (v10 + 2)) fun v15 =>
    oB (oGI 16521 0) fun v21 =>
    oB (M_St_valueOf v21) fun v24 =>
    oL (v24 + v15) fun l3_29 =>
    oB (oGI 16521 0) fun v32 =>
    oB (M_St_valueOf (v32 + 1)) fun v37 =>
    oB (oGI 16521 0) fun v44 =>
    oB (M_St_set v44 3 l3_29) fun _ =>
    oC ((lg_cmp v15 0) ≤ 0)
      (oC ((lg_cmp l3_29 v37) < 0)
        (oR ())
        (M_St_loop_j75 l3_29))
      (oC (0 < (lg_cmp l3_29 v37))
        (oR ())
        (M_St_loop_j75 l3_29)))

noncomputable def M_Ma_callWrapper (l1 : Int32) : M (Unit) :=
  oB (oPz 145 4000 l1) fun _ =>
  oB (oGI 18564 l1) fun v10 =>
  oB (M_Ma_coroutineOf v10) fun v13 =>
  oB (oPr 148 v13) fun _ =>
  oB (oGI 18951 v13) fun v18 =>
  oC (v18 = 0)
    (oB (oGI 16395 0) fun v34 =>
    oB (oPr 148 v34) fun _ =>
    oB (M_Co_push v34 3 l1 0) fun v40 =>
    oC (v40 = 0)
      (oB (M_Ma_fail 4) fun _ =>
      oR ())
      (oB (M_Ma_goOnWith v13) fun _ =>
      oR ()))
    (oB (M_Ma_fail 9) fun _ =>
    oR ())

noncomputable def M_Bu_setMetatable_j112 (l1 : Int32) (k0 : Int32) (k1 : Int32) : M (Unit) :=
  oB (oPI 18574 k1 k0) fun _ =>
  oB (M_Ro_add 135 0 5 l1.toInt64) fun _ =>
  oR ()

noncomputable def M_Bu_setMetatable_j52 (l1 : Int32) : M (Unit) :=
  oB (M_Ta_findEvent 5 l1.toInt64 21) fun v61 =>
  oC (v61 < 0)
    (oB (oPz 145 4000 l1) fun _ =>
    oB (M_Ro_kindAt 132 0 1) fun v93 =>
    oC (v93 = 0)
      (M_Bu_setMetatable_j112 l1 (-1) l1)
      (oB (M_Ro_valueAt 132 0 1) fun v108 =>
      M_Bu_setMetatable_j112 l1 v108.toInt32 l1))
    (oB (M_Ma_fail 8) fun _ =>
    oR ())

noncomputable def M_Bu_setMetatable  : M (Unit) :=
  oB (M_Bu_hasTable) fun v1 =>
  oC (v1 = 0)
    (oR ())
    (oB (M_Ro_valueAt 132 0 0) fun v13 =>
    oB (M_Ro_kindAt 132 0 1) fun v23 =>
    oC (v23 = 5)
      (M_Bu_setMetatable_j52 v13.toInt32)
      (oB (M_Ro_kindAt 132 0 1) fun v35 =>
      oC (v35 = 0)
        (M_Bu_setMetatable_j52 v13.toInt32)
        (oB (M_Ma_fail 2) fun _ =>
        oR ())))

noncomputable def M_Bu_resume  : M (Unit) :=
  oB (M_Bu_hasCoroutine) fun v1 =>
  oC (v1 = 0)
    (oR ())
    (oB (M_Ro_valueAt 132 0 0) fun v17 =>
    oB (M_Ma_coroutineOf v17.toInt32) fun v21 =>
    oB (oPr 148 v21) fun _ =>
    oB (oGI 18951 v21) fun v26 =>
    oC (v26 = 0)
      (oB (oGI 16395 0) fun v59 =>
      oB (oPr 148 v59) fun _ =>
      oB (M_Co_push v59 2 (-1) 0) fun v65 =>
      oC (v65 = 0)
        (oB (M_Ma_fail 4) fun _ =>
        oR ())
        (oB (M_Ro_dropFirst 132 0 1) fun _ =>
        oB (M_Ma_goOnWith v21) fun _ =>
        oR ()))
      (oB (M_Ro_add 135 0 1 0) fun _ =>
      oB (M_Ro_add 135 0 3 9) fun _ =>
      oR ()))

noncomputable def M_Ma_handOver (l1 : Int32) : M (Unit) :=
  oB (M_Ma_backToResumer l1) fun v2 =>
  oC (v2 = 2)
    (oB (M_Ma_giveWithTrue) fun _ =>
    oR ())
    (oB (oPI 16396 0 3) fun _ =>
    oR ())

noncomputable def M_Bu_cleanUp  : M (Unit) :=
  oB (M_Ro_clear 132 0) fun _ =>
  oB (M_He_clean) fun _ =>
  oB (oAI 114 15 0 3) fun v27 =>
  oB (M_Ro_add 135 0 3 v27.toInt64) fun _ =>
  oR ()

noncomputable def M_Ma_endWithResults  : M (Unit) :=
  oB (oGI 16395 0) fun v1 =>
  oB (oPr 148 v1) fun _ =>
  oB (oGI 18955 v1) fun v4 =>
  oC (0 ≤ v4)
    (oB (M_Ma_handOver 3) fun _ =>
    oR ())
    (oB (oGI 16395 0) fun v11 =>
    oB (oPr 148 v11) fun _ =>
    oB (oPI 18951 v11 3) fun _ =>
    oB (M_Ro_takeAll 141 0 135 0) fun _ =>
    oB (oPI 16392 0 1) fun _ =>
    oB (oPI 16396 0 0) fun _ =>
    oR ())

noncomputable def M_Ma_unwind_L36 : (Int32 × Int32) → M ((Int32 × Int32) ⊕ ((Int32 × Int32))) := fun x =>
  oC (x.2 ≤ 0)
    (oR (Sum.inr (x.1, x.2)))
    (oB (oK ((0 : Int32) ≤ (x.2 - 1) ∧ (x.2 - 1) < (200 : Int32))) fun _ =>
    oB (oGI 19456 (x.1 * 200 + (x.2 - 1))) fun v48 =>
    oC (v48 = 1)
      (oR (Sum.inr (x.1, x.2)))
      (oR (Sum.inl (x.1, x.2 + (-1)))))

noncomputable def M_Ma_unwind_j61 (l1 : Int32) (l2 : Int32) : M (Unit) :=
  oC (l2 ≤ 0)
    (oB (M_Ma_empty l1) fun _ =>
    oB (oGI 18955 l1) fun v104 =>
    oC (0 ≤ v104)
      (oB (M_Ma_backToResumer 3) fun v119 =>
      oC (v119 = 2)
        (oB (M_Ma_giveError) fun _ =>
        oR ())
        (oR ()))
      (oB (M_Ma_endWithError) fun _ =>
      oR ()))
    (oB (oK ((0 : Int32) ≤ (l2 - 1) ∧ (l2 - 1) < (200 : Int32))) fun _ =>
    oB (oGI 19459 (l1 * 200 + (l2 - 1))) fun v78 =>
    oB (M_He_closeFrom l1 v78) fun _ =>
    oB (oPI 18948 l1 l2) fun _ =>
    oB (M_Co_pop l1) fun _ =>
    oB (M_Ma_giveError) fun _ =>
    oR ())

noncomputable def M_Ma_unwind  : M (Unit) :=
  oB (M_Ro_clear 132 0) fun _ =>
  oB (M_Ro_clear 138 0) fun _ =>
  oB (oGI 16401 0) fun v15 =>
  oC (v15 = 0)
    (oB (oGI 16395 0) fun v27 =>
    oB (oPr 148 v27) fun _ =>
    oB (oGI 18948 v27) fun v32 =>
    oB (oW M_Ma_unwind_L36 (v27, v32)) fun e36 =>
    M_Ma_unwind_j61 e36.1 e36.2)
    (oB (M_Ma_endAll) fun _ =>
    oR ())

noncomputable def M_LM_collect  : M (Int32) :=
  oB (oGI 12801 0) fun v1 =>
  oC (v1 = 0)
    (oF)
    (oB (M_He_clean) fun _ =>
    oB (oAI 114 15 0 3) fun v30 =>
    oR v30)

noncomputable def M_Ch_readAll_j124 (l2 : Int32) (l3 : Int32) (ln : Nat × Nat) : M ((Int32 × Int32 × (Nat × Nat)) ⊕ (((Nat × Nat)) ⊕ ((Nat × Nat)) ⊕ ((Nat × Nat)) ⊕ ((Nat × Nat)))) :=
  oB (oSI 109 20 0 l2 l3) fun _ =>
  oB (oPz 144 250 l3) fun _ =>
  oB (oGI 18442 l3) fun v142 =>
  oB (oSI 110 20 0 l2 v142) fun _ =>
  oR (Sum.inl (l2 + 1, l3 + 1, ln))

noncomputable def M_Ch_readAll_j100 (l2 : Int32) (l3 : Int32) (ln : Nat × Nat) (k0 : Int32) (k1 : Int32) : M ((Int32 × Int32 × (Nat × Nat)) ⊕ (((Nat × Nat)) ⊕ ((Nat × Nat)) ⊕ ((Nat × Nat)) ⊕ ((Nat × Nat)))) :=
  oB (M_Ch_readPrototype ln k1 k0) fun v100 =>
  oC (v100.1 = 0)
    (oR (Sum.inr (Sum.inr (Sum.inr (Sum.inl v100.2)))))
    (oC (l2 ≤ 0)
      (M_Ch_readAll_j124 l2 l3 v100.2)
      (oB (oAI 110 20 0 (l2 - 1)) fun v120 =>
      oB (oSI 110 20 0 (l2 - 1) (v120 - 1)) fun _ =>
      M_Ch_readAll_j124 l2 l3 v100.2))

noncomputable def M_Ch_readAll_j59 (l2 : Int32) (l3 : Int32) (ln : Nat × Nat) : M ((Int32 × Int32 × (Nat × Nat)) ⊕ (((Nat × Nat)) ⊕ ((Nat × Nat)) ⊕ ((Nat × Nat)) ⊕ ((Nat × Nat)))) :=
  oC (l3 = 250)
    (oR (Sum.inr (Sum.inr (Sum.inl ln))))
    (oC (l2 = 20)
      (oR (Sum.inr (Sum.inr (Sum.inl ln))))
      (oC (l2 = 0)
        (M_Ch_readAll_j100 l2 l3 ln (-1) l3)
        (oB (oAI 109 20 0 (l2 - 1)) fun v99 =>
        M_Ch_readAll_j100 l2 l3 ln v99 l3)))

noncomputable def M_Ch_readAll_L9 : (Int32 × Int32 × (Nat × Nat)) → M ((Int32 × Int32 × (Nat × Nat)) ⊕ (((Nat × Nat)) ⊕ ((Nat × Nat)) ⊕ ((Nat × Nat)) ⊕ ((Nat × Nat)))) := fun x =>
  oC (250 < x.2.1)
    (oR (Sum.inr (Sum.inr (Sum.inr (Sum.inr x.2.2)))))
    (oB (M_Ch_withoutFullOnes x.1) fun v18 =>
    oC (x.2.1 ≤ 0)
      (M_Ch_readAll_j59 v18 x.2.1 x.2.2)
      (oC (v18 = 0)
        (oR (Sum.inr (Sum.inl x.2.2)))
        (M_Ch_readAll_j59 v18 x.2.1 x.2.2)))

noncomputable def M_Ch_readAll_j53 (ln : Nat × Nat) : M (Int32 × (Nat × Nat)) :=
  oR (1, ln)

noncomputable def M_Ch_readAll_j72 (ln : Nat × Nat) : M (Int32 × (Nat × Nat)) :=
  oB (oGI 12942 0) fun v75 =>
  oB (M_Ch_refuse 3 v75) fun v78 =>
  oB (oK (v78 = 0 ∨ v78 = 1)) fun _ =>
  oR (v78, ln)

noncomputable def M_Ch_readAll (n0 : Nat × Nat) (l1 : Int32) : M (Int32 × (Nat × Nat)) :=
  oB (M_Ch_begin l1) fun _ =>
  oB (oW M_Ch_readAll_L9 (0, 0, n0)) fun e9 =>
  Sum.elim
    (fun y9_30 : (Nat × Nat) =>
      oB (oGI 12942 0) fun v31 =>
      oB (oGI 12941 0) fun v35 =>
      oC (v31 = v35)
        (M_Ch_readAll_j53 y9_30)
        (oB (oGI 12942 0) fun v44 =>
        oB (M_Ch_refuse 5 v44) fun v47 =>
        oC (v47 = 0)
          (oR (0, y9_30))
          (M_Ch_readAll_j53 y9_30)))
    (Sum.elim
      (fun y9_72 : (Nat × Nat) =>
        M_Ch_readAll_j72 y9_72)
      (Sum.elim
        (fun y9_106 : (Nat × Nat) =>
          oR (0, y9_106))
        (fun y9_155 : (Nat × Nat) =>
          oR (0, y9_155)))) e9

noncomputable def M_Ch_isWellFormed_j53  : M (Int32) :=
  oR 0

noncomputable def M_Ch_isWellFormed (l1 : Int32) (l2 : Int32) : M (Int32) :=
  oB (oGI 18440 l1) fun v5 =>
  oB (oAI 104 20000 0 (v5 + l2)) fun v10 =>
  oC (46 ≤ (v10 &&& 63))
    (M_Ch_isWellFormed_j53)
    (oB (M_Ch_namesWhatIsThere l1 v10) fun v23 =>
    oC (v23 = 0)
      (M_Ch_isWellFormed_j53)
      (oB (M_Ch_goesWhereItMay l1 l2 v10) fun v33 =>
      oC (v33 = 0)
        (M_Ch_isWellFormed_j53)
        (oB (M_Ch_keepsOpenRows l1 l2 v10) fun v43 =>
        oC (v43 = 0)
          (M_Ch_isWellFormed_j53)
          (oR 1))))

noncomputable def M_He_make_j40 (ln : Nat × Nat) : M (Int32 × (Nat × Nat)) :=
  oR ((-11), ln)

noncomputable def M_He_make_j62 (l1 : Int32) (l2 : Int32) (l3 : Int32) (ln : Nat × Nat) : M (Int32 × (Nat × Nat)) :=
  oB (M_He_isFull l1) fun v64 =>
  oC (v64 = 0)
    (oB (M_He_takeSlot ln) fun v74 =>
    oB (oPz 145 4000 v74.1) fun _ =>
    oB (oPI 18560 v74.1 l1) fun _ =>
    oB (oAI 114 15 0 4) fun v101 =>
    oB (oPI 18561 v74.1 v101) fun _ =>
    oB (oPI 18563 v74.1 0) fun _ =>
    oB (oAI 114 15 0 3) fun v117 =>
    oB (oSI 114 15 0 3 (v117 + 1)) fun _ =>
    oB (oAI 114 15 0 4) fun v127 =>
    oB (oSI 114 15 0 4 (v127 + 1)) fun _ =>
    oB (oAI 114 15 0 12) fun v138 =>
    oB (oSI 114 15 0 12 (v138 + 1)) fun _ =>
    oB (oAI 114 15 0 7) fun v149 =>
    oB (oSI 114 15 0 7 (v149 + l2)) fun _ =>
    oB (oAI 114 15 0 13) fun v160 =>
    oB (oSI 114 15 0 13 (v160 + l2)) fun _ =>
    oB (oAI 114 15 0 8) fun v171 =>
    oB (oSI 114 15 0 8 (v171 + l3)) fun _ =>
    oB (oAI 114 15 0 14) fun v182 =>
    oB (oSI 114 15 0 14 (v182 + l3)) fun _ =>
    oR (v74.1, v74.2))
    (oR ((-10), ln))

noncomputable def M_He_make (n0 : Nat × Nat) (l1 : Int32) (l2 : Int32) (l3 : Int32) : M (Int32 × (Nat × Nat)) :=
  oB (oAI 114 15 0 12) fun v6 =>
  oC (60000 ≤ v6)
    (M_He_make_j40 n0)
    (oB (oAI 114 15 0 13) fun v18 =>
    oC (300000 < (v18 + l2))
      (M_He_make_j40 n0)
      (oB (oAI 114 15 0 14) fun v32 =>
      oC ((v32 + l3) ≤ 400000)
        (oB (M_He_isFull l1) fun v45 =>
        oC (v45 = 0)
          (M_He_make_j62 l1 l2 l3 n0)
          (oB (oGI 14221 0) fun v52 =>
          oC (v52 = 0)
            (oB (M_He_clean) fun _ =>
            M_He_make_j62 l1 l2 l3 n0)
            (M_He_make_j62 l1 l2 l3 n0)))
        (M_He_make_j40 n0)))

noncomputable def M_He_makeClosedVariable (n0 : Nat × Nat) (l1 : Int32) (l2 : Int64) : M (Int32 × (Nat × Nat)) :=
  oB (M_He_make n0 8 0 0) fun v5 =>
  oC (v5.1 < 0)
    (oR (v5.1, v5.2))
    (oB (oPz 145 4000 v5.1) fun _ =>
    oB (oPI 18564 v5.1 (-1)) fun _ =>
    oB (oPz 145 4000 v5.1) fun _ =>
    oB (oPI 18567 v5.1 l1) fun _ =>
    oB (oPz 145 4000 v5.1) fun _ =>
    oB (oPL 18568 v5.1 l2) fun _ =>
    oR (v5.1, v5.2))

noncomputable def M_Ta_write_j118 (l2 : Int32) (l3 : Int64) (l5 : Int32) (l6 : Int64) (l8 : Int32) (k0 : Int32) : M (Int32) :=
  oC (k0 = 0)
    (oB (M_Ta_append l8 l2 l3 l5 l6) fun _ =>
    oR k0)
    (oR k0)

noncomputable def M_Ta_write (l1 : Int32) (l2 : Int32) (l3 : Int64) (l5 : Int32) (l6 : Int64) : M (Int32) :=
  oC (l2 = 0)
    (oR 6)
    (oB (oPz 145 4000 l1) fun _ =>
    oB (M_Ta_find l1 l2 l3) fun v22 =>
    oC (v22 < 0)
      (oC (l5 = 0)
        (oR 0)
        (oB (oGI 18573 l1) fun v98 =>
        oB (oGI 18572 l1) fun v103 =>
        oC (v98 = v103)
          (oB (M_Ta_makeRoom l1) fun v111 =>
          M_Ta_write_j118 l2 l3 l5 l6 l1 v111)
          (M_Ta_write_j118 l2 l3 l5 l6 l1 0)))
      (oB (oSI 123 50000 0 v22 l5.toInt8.toInt32.toInt8.toInt32) fun _ =>
      oB (oSL 124 50000 0 v22 l6) fun _ =>
      oC (l5 = 0)
        (oC (l2 = 3)
          (oC ((lg_cmp l3 0) ≤ 0)
            (oR 0)
            (oB (oGI 18575 l1) fun v70 =>
            oC (0 < (lg_cmp l3 v70.toInt64))
              (oR 0)
              (oB (oPI 18575 l1 (l3.toInt32 - 1)) fun _ =>
              oR 0)))
          (oR 0))
        (oR 0)))

noncomputable def M_He_makeClosure_j45 (l2 : Int32) (l3 : Int32) (l4 : Int32) (ln : Nat × Nat) : M (Int32 × (Nat × Nat)) :=
  oB (oK ((0 : Int32) ≤ l2 ∧ l2 ≤ (60000000 : Int32))) fun _ =>
  oB (oNw ln l2.toNatClampNeg) fun m48 =>
  oB (oS fun s => nwR s 147 l4 l2.toNatClampNeg) fun _ =>
  oR (l3, m48)

noncomputable def M_He_makeClosure (n0 : Nat × Nat) (l1 : Int32) (l2 : Int32) : M (Int32 × (Nat × Nat)) :=
  oB (M_He_make n0 6 l2 0) fun v5 =>
  oC (v5.1 < 0)
    (oR (v5.1, v5.2))
    (oB (oPz 145 4000 v5.1) fun _ =>
    oB (oPI 18564 v5.1 l1) fun _ =>
    oB (oGI 18943 v5.1) fun v29 =>
    oC (v29 = 1)
      (oB (oGI 18943 v5.1) fun v37 =>
      oB (oK (v37 = 1)) fun _ =>
      oB (oLn 147 v5.1) fun n40 =>
      oC (l2 ≤ n40)
        (oR (v5.1, v5.2))
        (M_He_makeClosure_j45 l2 v5.1 v5.1 v5.2))
      (M_He_makeClosure_j45 l2 v5.1 v5.1 v5.2))

noncomputable def M_He_makeCoroutine_L18 : (Int64 × Int32 × Int32 × (Nat × Nat)) → M ((Int64 × Int32 × Int32 × (Nat × Nat)) ⊕ ((Int64 × Int32 × Int32 × (Nat × Nat)))) := fun x =>
  oC (31 ≤ x.2.2.1)
    (oR (Sum.inr (x.1, x.2.1, x.2.2.1, x.2.2.2)))
    (oB (oNz 148 32 x.2.2.1) fun v31 =>
    oC (v31 = -1)
      (oR (Sum.inr (x.1, x.2.1, x.2.2.1, x.2.2.2)))
      (oB (oPz 148 32 x.2.2.1) fun _ =>
      oB (oGI 18950 x.2.2.1) fun v42 =>
      oC (v42 < 0)
        (oR (Sum.inr (x.1, x.2.1, x.2.2.1, x.2.2.2)))
        (oR (Sum.inl (x.1, x.2.1, x.2.2.1 + 1, x.2.2.2)))))

noncomputable def M_He_makeCoroutine_j80 (l1 : Int64) (l3 : Int32) (l4 : Int32) (ln : Nat × Nat) : M (Int32 × (Nat × Nat)) :=
  oB (oPz 148 32 l4) fun _ =>
  oB (M_Co_restart l4 l3 l1) fun _ =>
  oB (oPz 145 4000 l3) fun _ =>
  oB (oPI 18564 l3 l4) fun _ =>
  oB (oAI 114 15 0 11) fun v110 =>
  oB (oSI 114 15 0 11 (v110 + 1)) fun _ =>
  oR (l3, ln)

noncomputable def M_He_makeCoroutine_j54 (l1 : Int64) (l3 : Int32) (l4 : Int32) (ln : Nat × Nat) : M (Int32 × (Nat × Nat)) :=
  oB (oNz 148 32 l4) fun v60 =>
  oC (v60 = -1)
    (oB (oK ((0 : Int32) ≤ l4 ∧ l4 < (32 : Int32))) fun _ =>
    oB (oKs fun s => gI s 19199 l4 ≠ 1 ∧ gI s 19327 l4 ≠ 1 ∧ gI s 19455 l4 ≠ 1) fun _ =>
    oB (oNw ln (nfF 153)) fun m70 =>
    oB (oS fun s => nwO s 153 l4) fun _ =>
    oB (M_Co_init m70 l4 l4) fun v76 =>
    oB (oKs fun s => coR s l4) fun _ =>
    oB (oS fun s => coS s l4) fun _ =>
    M_He_makeCoroutine_j80 l1 l3 l4 v76.2)
    (M_He_makeCoroutine_j80 l1 l3 l4 ln)

noncomputable def M_He_makeCoroutine (n0 : Nat × Nat) (l1 : Int64) : M (Int32 × (Nat × Nat)) :=
  oB (M_He_make n0 7 0 0) fun v5 =>
  oC (0 ≤ v5.1)
    (oB (oW M_He_makeCoroutine_L18 (l1, v5.1, 0, v5.2)) fun e18 =>
    M_He_makeCoroutine_j54 e18.1 e18.2.1 e18.2.2.1 e18.2.2.2)
    (oR (v5.1, v5.2))

noncomputable def M_St_write_j93 (l4 : Int32) (l5 : Int64) (l7 : Int32) (k0 : Int32) : M ((Int32 × Int64 × Int32) ⊕ ((Unit) ⊕ (Int64) ⊕ (Int32 × Int64 × Int32) ⊕ (Unit))) :=
  oC (0 ≤ k0)
    (oB (oAI 123 50000 0 k0) fun v168 =>
    oC (v168 = 6)
      (oR (Sum.inr (Sum.inr (Sum.inr (Sum.inl (l4, l5, k0))))))
      (oB (oAI 123 50000 0 k0) fun v239 =>
      oB (oAL 124 50000 0 k0) fun v251 =>
      oR (Sum.inl (v239, v251, l7 + 1))))
    (oR (Sum.inr (Sum.inr (Sum.inl l5))))

noncomputable def M_St_write_j81 (l4 : Int32) (l5 : Int64) (l7 : Int32) : M ((Int32 × Int64 × Int32) ⊕ ((Unit) ⊕ (Int64) ⊕ (Int32 × Int64 × Int32) ⊕ (Unit))) :=
  oB (M_Ta_findEvent l4 l5 1) fun v90 =>
  M_St_write_j93 l4 l5 l7 v90

noncomputable def M_St_write_L9 : (Int32 × Int64 × Int32) → M ((Int32 × Int64 × Int32) ⊕ ((Unit) ⊕ (Int64) ⊕ (Int32 × Int64 × Int32) ⊕ (Unit))) := fun x =>
  oC (100 ≤ x.2.2)
    (oR (Sum.inr (Sum.inr (Sum.inr (Sum.inr ())))))
    (oC (x.1 = 5)
      (oB (oGI 16522 0) fun v40 =>
      oB (M_St_kindOf v40) fun v43 =>
      oB (oGI 16522 0) fun v48 =>
      oB (M_St_valueOf v48) fun v51 =>
      oB (M_Ta_find x.2.1.toInt32 v43 v51) fun v54 =>
      oC (v54 < 0)
        (M_St_write_j81 x.1 x.2.1 x.2.2)
        (oB (oAI 123 50000 0 v54) fun v73 =>
        oC (v73 = 0)
          (M_St_write_j81 x.1 x.2.1 x.2.2)
          (M_St_write_j93 x.1 x.2.1 x.2.2 (-1))))
      (oR (Sum.inr (Sum.inl ()))))

noncomputable def M_St_write (l1 : Int32) (l2 : Int64) : M (Unit) :=
  oB (oW M_St_write_L9 (l1, l2, 0)) fun e9 =>
  Sum.elim
    (fun y9_22 : Unit =>
      oB (M_Ma_fail 2) fun _ =>
      oR ())
    (Sum.elim
      (fun y9_100 : Int64 =>
        oB (oGI 16522 0) fun v109 =>
        oB (M_St_kindOf v109) fun v112 =>
        oB (oGI 16522 0) fun v117 =>
        oB (M_St_valueOf v117) fun v120 =>
        oB (oGI 16523 0) fun v125 =>
        oB (M_St_kindOf v125) fun v128 =>
        oB (oGI 16523 0) fun v133 =>
        oB (M_St_valueOf v133) fun v136 =>
        oB (M_Ta_write y9_100.toInt32 v112 v120 v128 v136) fun v139 =>
        oC (v139 = 0)
          (oR ())
          (oB (M_Ma_fail v139) fun _ =>
          oR ()))
      (Sum.elim
        (fun y9_174 : Int32 × Int64 × Int32 =>
          oB (oGI 16522 0) fun v186 =>
          oB (M_St_kindOf v186) fun v189 =>
          oB (oGI 16522 0) fun v194 =>
          oB (M_St_valueOf v194) fun v197 =>
          oB (M_Ma_callEntry y9_174.2.2 y9_174.1 y9_174.2.1 v189 v197) fun _ =>
          oB (oGI 16523 0) fun v212 =>
          oB (M_St_kindOf v212) fun v215 =>
          oB (oGI 16523 0) fun v220 =>
          oB (M_St_valueOf v220) fun v223 =>
          oB (M_Ro_add 132 0 v215 v223) fun _ =>
          oR ())
        (fun y9_260 : Unit =>
          oB (M_Ma_fail 4) fun _ =>
          oR ()))) e9

