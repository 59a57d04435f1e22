noncomputable def M_St_setList_L83 : (Int32 × Int32 × Int32 × Int32 × Int32) → M ((Int32 × Int32 × Int32 × Int32 × Int32) ⊕ ((Int32 × Int32 × Int32 × Int32))) := fun x =>
  oC (x.1 ≤ x.2.2.2.2)
    (oR (Sum.inr (x.1, x.2.1, x.2.2.1, x.2.2.2.1)))
    (oC (x.2.2.1 = 0)
      (oB (oGI 16523 0) fun v101 =>
      oB (oGI 16521 0) fun v110 =>
      oB (M_St_kindOf ((v110 + 1) + x.2.2.2.2)) fun v118 =>
      oB (oGI 16521 0) fun v123 =>
      oB (M_St_valueOf ((v123 + 1) + x.2.2.2.2)) fun v131 =>
      oB (M_Ta_write x.2.2.2.1 3 ((v101 + x.2.2.2.2).toInt64) v118 v131) fun v134 =>
      oR (Sum.inl (x.1, x.2.1, v134, x.2.2.2.1, x.2.2.2.2 + 1)))
      (oR (Sum.inr (x.1, x.2.1, x.2.2.1, x.2.2.2.1))))

noncomputable def M_St_setList_L147 : (Int32 × Int32 × Int32 × Int32 × Int32) → M ((Int32 × Int32 × Int32 × Int32 × Int32) ⊕ ((Int32))) := fun x =>
  oC (x.2.1 ≤ x.2.2.2.2)
    (oR (Sum.inr x.2.2.1))
    (oC (x.2.2.1 = 0)
      (oB (oGI 16523 0) fun v165 =>
      oB (oAI 139 512 0 x.2.2.2.2) fun v186 =>
      oB (oAL 140 512 0 x.2.2.2.2) fun v199 =>
      oB (M_Ta_write x.2.2.2.1 3 (((v165 + x.1) + x.2.2.2.2).toInt64) v186 v199) fun v200 =>
      oR (Sum.inl (x.1, x.2.1, v200, x.2.2.2.1, x.2.2.2.2 + 1)))
      (oR (Sum.inr x.2.2.1)))

noncomputable def M_St_setList_j210 (l3 : Int32) : M (Unit) :=
  oB (M_Ro_clear 138 0) fun _ =>
  oC (l3 = 0)
    (oR ())
    (oB (M_Ma_fail l3) fun _ =>
    oR ())

noncomputable def M_St_setList_j144 (l1 : Int32) (l2 : Int32) (l3 : Int32) (l4 : Int32) : M (Unit) :=
  oB (oW M_St_setList_L147 (l1, l2, l3, l4, 0)) fun e147 =>
  M_St_setList_j210 e147

noncomputable def M_St_setList_j68 (l1 : Int32) (l2 : Int32) (k0 : Int32) : M (Unit) :=
  oB (oGI 16521 0) fun v71 =>
  oB (M_St_valueOf v71) fun v74 =>
  oB (oW M_St_setList_L83 (l1, l2, k0, v74.toInt32, 0)) fun e83 =>
  M_St_setList_j144 e83.1 e83.2.1 e83.2.2.1 e83.2.2.2

noncomputable def M_St_setList_j50 (l1 : Int32) (k0 : Int32) : M (Unit) :=
  oB (oGI 16521 0) fun v53 =>
  oB (M_St_kindOf v53) fun v56 =>
  oC (v56 = 5)
    (M_St_setList_j68 l1 k0 0)
    (M_St_setList_j68 l1 k0 2)

noncomputable def M_St_setList_j28 (k0 : Int32) : M (Unit) :=
  oB (oGI 16522 0) fun v30 =>
  oC (v30 = 0)
    (oB (oGI 17666 0) fun v43 =>
    M_St_setList_j50 k0 v43)
    (M_St_setList_j50 k0 0)

noncomputable def M_St_setList  : M (Unit) :=
  oB (oGI 16522 0) fun v1 =>
  oC (v1 = 0)
    (oB (oGI 16390 0) fun v11 =>
    oB (oGI 16521 0) fun v15 =>
    M_St_setList_j28 ((v11 - v15) - 1))
    (oB (oGI 16522 0) fun v25 =>
    M_St_setList_j28 v25)

noncomputable def M_He_openVariable_L11 : (Int32 × Int32 × Int32 × Int32 × Int32 × (Nat × Nat)) → M ((Int32 × Int32 × Int32 × Int32 × Int32 × (Nat × Nat)) ⊕ ((Int32 × Int32 × Int32 × Int32 × (Nat × Nat)))) := fun x =>
  oC (x.2.2.2.1 < 0)
    (oR (Sum.inr (x.1, x.2.1, x.2.2.1, x.2.2.2.1, x.2.2.2.2.2)))
    (oB (oPz 145 4000 x.2.2.2.1) fun _ =>
    oB (oGI 18566 x.2.2.2.1) fun v23 =>
    oC (v23 ≤ x.2.1)
      (oR (Sum.inr (x.1, x.2.1, x.2.2.1, x.2.2.2.1, x.2.2.2.2.2)))
      (oC (4000 ≤ x.2.2.2.2.1)
        (oR (Sum.inr (x.1, x.2.1, x.2.2.1, x.2.2.2.1, x.2.2.2.2.2)))
        (oB (oPz 145 4000 x.2.2.2.1) fun _ =>
        oB (oGI 18565 x.2.2.2.1) fun v48 =>
        oR (Sum.inl (x.1, x.2.1, x.2.2.2.1, v48, x.2.2.2.2.1 + 1, x.2.2.2.2.2)))))

noncomputable def M_He_openVariable_j81 (l1 : Int32) (l2 : Int32) (l3 : Int32) (l4 : Int32) (ln : Nat × Nat) : M (Int32 × (Nat × Nat)) :=
  oB (M_He_make ln 8 0 0) fun v86 =>
  oC (0 ≤ v86.1)
    (oB (oPz 145 4000 v86.1) fun _ =>
    oB (oGI 18947 l1) fun v107 =>
    oB (oPI 18564 v86.1 v107) fun _ =>
    oB (oPz 145 4000 v86.1) fun _ =>
    oB (oPI 18566 v86.1 l2) fun _ =>
    oB (oPz 145 4000 v86.1) fun _ =>
    oB (oPI 18565 v86.1 l4) fun _ =>
    oC (0 ≤ l3)
      (oB (oPz 145 4000 l3) fun _ =>
      oB (oPI 18565 l3 v86.1) fun _ =>
      oR (v86.1, v86.2))
      (oB (oPI 18954 l1 v86.1) fun _ =>
      oR (v86.1, v86.2)))
    (oR (v86.1, v86.2))

noncomputable def M_He_openVariable_j59 (l1 : Int32) (l2 : Int32) (l3 : Int32) (l4 : Int32) (ln : Nat × Nat) : M (Int32 × (Nat × Nat)) :=
  oC (l4 < 0)
    (M_He_openVariable_j81 l1 l2 l3 l4 ln)
    (oB (oPz 145 4000 l4) fun _ =>
    oB (oGI 18566 l4) fun v71 =>
    oC (v71 = l2)
      (oR (l4, ln))
      (M_He_openVariable_j81 l1 l2 l3 l4 ln))

noncomputable def M_He_openVariable (n0 : Nat × Nat) (l1 : Int32) (l2 : Int32) : M (Int32 × (Nat × Nat)) :=
  oB (oGI 18954 l1) fun v3 =>
  oB (oW M_He_openVariable_L11 (l1, l2, (-1), v3, 0, n0)) fun e11 =>
  M_He_openVariable_j59 e11.1 e11.2.1 e11.2.2.1 e11.2.2.2.1 e11.2.2.2.2

noncomputable def M_St_reckonOne_j53 (k0 : Int32) (k1 : Int32) : M (Unit) :=
  oB (M_St_set k1 k0 0) fun _ =>
  oR ()

noncomputable def M_St_reckonOne_j173 (k0 : Int64) (k1 : Int32) (k2 : Int32) : M (Unit) :=
  oB (M_St_set k2 k1 k0) fun _ =>
  oR ()

noncomputable def M_St_reckonOne  : M (Unit) :=
  oB (oGI 16520 0) fun v1 =>
  oC (v1 = 27)
    (oB (oGI 16521 0) fun v34 =>
    oB (oGI 16522 0) fun v39 =>
    oB (M_St_isTrue v39) fun v42 =>
    oC (v42 = 0)
      (M_St_reckonOne_j53 2 v34)
      (M_St_reckonOne_j53 1 v34))
  (oC (v1 = 28)
    (oB (M_St_measure) fun _ =>
    oR ())
  (oC (v1 = 29)
    (oB (oGI 16517 0) fun v68 =>
    oB (oPr 152 v68) fun _ =>
    oB (oGI 16523 0) fun v73 =>
    oB (M_St_kindOf v73) fun v76 =>
    oB (oPI 19462 v68 v76) fun _ =>
    oB (oGI 16517 0) fun v83 =>
    oB (oPr 152 v83) fun _ =>
    oB (oGI 16523 0) fun v88 =>
    oB (M_St_valueOf v88) fun v91 =>
    oB (oPL 19463 v83 v91) fun _ =>
    oB (oGI 16517 0) fun v98 =>
    oB (oPr 152 v98) fun _ =>
    oB (oGI 16523 0) fun v102 =>
    oB (oPI 19464 v98 (v102 - 1)) fun _ =>
    oB (oPI 16396 0 6) fun _ =>
    oR ())
  (oB (oGI 16522 0) fun v124 =>
  oB (M_St_kindOf v124) fun v127 =>
  oC (v127 = 3)
    (oB (oGI 16521 0) fun v136 =>
    oB (oGI 16520 0) fun v141 =>
    oC (v141 = 25)
      (oB (oGI 16522 0) fun v151 =>
      oB (M_St_valueOf v151) fun v154 =>
      M_St_reckonOne_j173 (-v154) 3 v136)
      (oB (oGI 16522 0) fun v163 =>
      oB (M_St_valueOf v163) fun v166 =>
      M_St_reckonOne_j173 (v166 ^^^ (-1)) 3 v136))
    (oB (oGI 16520 0) fun v181 =>
    oB (oGI 16522 0) fun v189 =>
    oB (M_St_kindOf v189) fun v192 =>
    oB (oGI 16522 0) fun v197 =>
    oB (M_St_valueOf v197) fun v200 =>
    oB (oGI 16522 0) fun v205 =>
    oB (M_St_kindOf v205) fun v208 =>
    oB (oGI 16522 0) fun v213 =>
    oB (M_St_valueOf v213) fun v216 =>
    oB (M_St_callsEither (v181 - 12) v192 v200 v208 v216) fun v219 =>
    oC (v219 = 0)
      (oB (M_Ma_fail 3) fun _ =>
      oR ())
      (oR ())))))

noncomputable def M_St_loopOrTake  : M (Unit) :=
  oB (oGI 16520 0) fun v1 =>
  oC (v1 = 39)
    (oB (M_St_loop) fun _ =>
    oR ())
  (oC (v1 = 40)
    (oB (M_St_hasLoopNumbers) fun v44 =>
    oC (v44 = 0)
      (oR ())
      (oB (oGI 16521 0) fun v52 =>
      oB (oGI 16521 0) fun v58 =>
      oB (M_St_valueOf v58) fun v61 =>
      oB (oGI 16521 0) fun v66 =>
      oB (M_St_valueOf (v66 + 2)) fun v71 =>
      oB (M_St_set v52 3 (v61 - v71)) fun _ =>
      oB (M_St_jump) fun _ =>
      oR ()))
  (oC (v1 = 42)
    (oB (oGI 16521 0) fun v87 =>
    oB (M_St_kindOf (v87 + 1)) fun v92 =>
    oC (v92 = 0)
      (oR ())
      (oB (oGI 16521 0) fun v100 =>
      oB (oGI 16521 0) fun v105 =>
      oB (M_St_kindOf (v105 + 1)) fun v110 =>
      oB (oGI 16521 0) fun v115 =>
      oB (M_St_valueOf (v115 + 1)) fun v120 =>
      oB (M_St_set v100 v110 v120) fun _ =>
      oB (M_St_jump) fun _ =>
      oR ()))
  (oB (M_St_takeFurther) fun _ =>
  oR ())))

noncomputable def M_Ma_enter_L2 : (Int32) → M ((Int32) ⊕ ((Unit) ⊕ (Unit) ⊕ (Unit))) := fun x =>
  oC (100 < x)
    (oR (Sum.inr (Sum.inr (Sum.inr ()))))
    (oB (oGI 16397 0) fun v9 =>
    oC (v9 = 6)
      (oR (Sum.inr (Sum.inr (Sum.inr ()))))
      (oB (oGI 16397 0) fun v22 =>
      oB (oGL 16398 0) fun v26 =>
      oB (M_Ta_findEvent v22 v26 2) fun v30 =>
      oC (0 ≤ v30)
        (oC (x = 100)
          (oR (Sum.inr (Sum.inr (Sum.inl ()))))
          (oB (oGI 16397 0) fun v61 =>
          oB (oGL 16398 0) fun v65 =>
          oB (M_Ro_addFirst 132 0 v61 v65) fun _ =>
          oB (oAI 123 50000 0 v30) fun v80 =>
          oB (oPI 16397 0 v80) fun _ =>
          oB (oAL 124 50000 0 v30) fun v93 =>
          oB (oPL 16398 0 v93) fun _ =>
          oR (Sum.inl (x + 1))))
        (oR (Sum.inr (Sum.inl ())))))

noncomputable def M_Ma_enter_j103  : M (Unit) :=
  oB (oGI 16898 0) fun v107 =>
  oC (v107 ≤ 250)
    (oB (oGL 16398 0) fun v126 =>
    oC (0 ≤ (lg_cmp v126 0))
      (oB (oGL 16398 0) fun v150 =>
      oB (oPz 145 4000 v150.toInt32) fun _ =>
      oB (oGI 18560 v150.toInt32) fun v155 =>
      oC (v155 = 9)
        (oB (oGL 16398 0) fun v165 =>
        oB (M_Ma_callWrapper v165.toInt32) fun _ =>
        oR ())
        (oB (oGL 16398 0) fun v177 =>
        oB (M_Ma_enterClosure v177.toInt32) fun _ =>
        oR ()))
      (oB (oPI 16396 0 2) fun _ =>
      oR ()))
    (oB (M_Ma_fail 7) fun _ =>
    oR ())

noncomputable def M_Ma_enter  : M (Unit) :=
  oB (oW M_Ma_enter_L2 1) fun e2 =>
  Sum.elim
    (fun y2_38 : Unit =>
      oB (M_Ma_fail 1) fun _ =>
      oR ())
    (Sum.elim
      (fun y2_50 : Unit =>
        oB (M_Ma_fail 4) fun _ =>
        oR ())
      (fun y2_103 : Unit =>
        M_Ma_enter_j103)) e2

noncomputable def M_Bu_writeRaw  : M (Unit) :=
  oB (M_Bu_hasTable) fun v1 =>
  oC (v1 = 0)
    (oR ())
    (oB (M_Ro_valueAt 132 0 0) fun v13 =>
    oB (M_Ro_kindAt 132 0 1) fun v28 =>
    oB (M_Ro_valueAt 132 0 1) fun v36 =>
    oB (M_Ro_kindAt 132 0 2) fun v44 =>
    oB (M_Ro_valueAt 132 0 2) fun v52 =>
    oB (M_Ta_write v13.toInt32 v28 v36 v44 v52) fun v55 =>
    oC (v55 = 0)
      (oB (M_Ro_add 135 0 5 v13.toInt32.toInt64) fun _ =>
      oR ())
      (oB (M_Ma_fail v55) fun _ =>
      oR ()))

noncomputable def M_Bu_create (n0 : Nat × Nat)  : M (Unit × (Nat × Nat)) :=
  oB (M_Bu_hasFunction) fun v1 =>
  oC (v1 = 0)
    (oR ((), n0))
    (oB (M_Ro_valueAt 132 0 0) fun v19 =>
    oB (M_He_makeCoroutine n0 v19) fun v22 =>
    oB (M_Bu_addMade 7 v22.1) fun _ =>
    oR ((), v22.2))

noncomputable def M_Bu_giveWay  : M (Unit) :=
  oB (oGI 16395 0) fun v4 =>
  oB (oPr 148 v4) fun _ =>
  oB (oGI 18955 v4) fun v7 =>
  oC (0 ≤ v7)
    (oB (M_Ro_takeAll 135 0 132 0) fun _ =>
    oB (M_Ma_handOver 0) fun _ =>
    oR ())
    (oB (M_Ma_fail 9) fun _ =>
    oR ())

noncomputable def M_Bu_wrap_j78 (l2 : Int32) (ln : Nat × Nat) : M (Unit × (Nat × Nat)) :=
  oB (M_Bu_addMade 6 l2) fun _ =>
  oR ((), ln)

noncomputable def M_Bu_wrap (n0 : Nat × Nat)  : M (Unit × (Nat × Nat)) :=
  oB (M_Bu_hasFunction) fun v1 =>
  oC (v1 = 0)
    (oR ((), n0))
    (oB (M_Ro_valueAt 132 0 0) fun v17 =>
    oB (M_He_makeCoroutine n0 v17) fun v20 =>
    oC (0 ≤ v20.1)
      (oB (M_Ro_addFirst 132 0 7 v20.1.toInt64) fun _ =>
      oB (M_He_make v20.2 9 0 0) fun v57 =>
      oC (v57.1 < 0)
        (M_Bu_wrap_j78 v57.1 v57.2)
        (oB (oPz 145 4000 v57.1) fun _ =>
        oB (oPI 18564 v57.1 v20.1) fun _ =>
        M_Bu_wrap_j78 v57.1 v57.2))
      (oB (M_Ma_fail (-v20.1)) fun _ =>
      oR ((), v20.2)))

noncomputable def M_Ma_give_  : M (Unit) :=
  oB (oGI 16395 0) fun v1 =>
  oB (oPr 148 v1) fun _ =>
  oB (oGI 18948 v1) fun v4 =>
  oC (v4 = 0)
    (oB (M_Ma_endWithResults) fun _ =>
    oR ())
    (oB (oGI 16395 0) fun v16 =>
    oB (oPr 148 v16) fun _ =>
    oB (M_Co_top v16) fun v19 =>
    oB (oPr 152 v19) fun _ =>
    oB (oGI 19456 v19) fun v22 =>
    oC (v22 = 0)
      (oB (oPI 16396 0 4) fun _ =>
      oR ())
    (oC (v22 = 1)
      (oB (oGI 16395 0) fun v61 =>
      oB (oPr 148 v61) fun _ =>
      oB (M_Co_pop v61) fun _ =>
      oB (M_Ma_giveWithTrue) fun _ =>
      oR ())
    (oB (oGI 16395 0) fun v75 =>
    oB (oPr 148 v75) fun _ =>
    oB (M_Co_pop v75) fun _ =>
    oB (M_Ro_kindAt 135 0 0) fun v86 =>
    oC (v86 = 4)
      (oB (M_Ro_valueAt 135 0 0) fun v100 =>
      oB (M_Ma_give 4 v100) fun _ =>
      oR ())
      (oB (M_Ma_fail 3) fun _ =>
      oR ()))))

noncomputable def M_Ch_checkAll_L23 : (Int32 × Int32 × Int32) → M ((Int32 × Int32 × Int32) ⊕ ((Int32 × Int32) ⊕ (Int32))) := fun x =>
  oB (oGI 18439 x.2.1) fun v25 =>
  oC (v25 ≤ x.2.2)
    (oR (Sum.inr (Sum.inr x.1)))
    (oB (M_Ch_isWellFormed x.2.1 x.2.2) fun v34 =>
    oC (v34 = 0)
      (oR (Sum.inr (Sum.inl (x.2.1, x.2.2))))
      (oR (Sum.inl (x.1, x.2.1, x.2.2 + 1))))

noncomputable def M_Ch_checkAll_L6 : (Int32) → M ((Int32) ⊕ ((Int32 × Int32) ⊕ (Unit))) := fun x =>
  oB (oGI 12937 0) fun v8 =>
  oC (v8 ≤ x)
    (oR (Sum.inr (Sum.inr ())))
    (oB (oPz 144 250 x) fun _ =>
    oB (oW M_Ch_checkAll_L23 (x, x, 0)) fun e23 =>
    Sum.elim
      (fun y23_40 : Int32 × Int32 =>
        oR (Sum.inr (Sum.inl (y23_40.1, y23_40.2))))
      (fun y23_61 : Int32 =>
        oR (Sum.inl (y23_61 + 1))) e23)

noncomputable def M_Ch_checkAll  : M (Int32) :=
  oB (M_Ch_listChildren) fun _ =>
  oB (oW M_Ch_checkAll_L6 0) fun e6 =>
  Sum.elim
    (fun y6_40 : Int32 × Int32 =>
      oB (oGI 18441 y6_40.1) fun v44 =>
      oB (M_Ch_refuse 6 (v44 + (4 * y6_40.2))) fun v51 =>
      oB (oK (v51 = 0 ∨ v51 = 1)) fun _ =>
      oR v51)
    (fun y6_67 : Unit =>
      oR 1) e6

noncomputable def M_Ta_make (n0 : Nat × Nat)  : M (Int32 × (Nat × Nat)) :=
  oB (M_He_make n0 5 0 0) fun v7 =>
  oC (v7.1 < 0)
    (oR (v7.1, v7.2))
    (oB (oPz 145 4000 v7.1) fun _ =>
    oB (oPI 18571 v7.1 0) fun _ =>
    oB (oPI 18572 v7.1 0) fun _ =>
    oB (oPI 18573 v7.1 0) fun _ =>
    oB (oPI 18574 v7.1 (-1)) fun _ =>
    oB (oPI 18575 v7.1 0) fun _ =>
    oR (v7.1, v7.2))

noncomputable def M_Ma_fillGlobals_L2 : (Int32) → M ((Int32) ⊕ ((Unit) ⊕ (Unit))) := fun x =>
  oC (24 ≤ x)
    (oR (Sum.inr (Sum.inr ())))
    (oB (oGI 16394 0) fun v13 =>
    oB (oAI 115 57 0 x) fun v25 =>
    oB (M_Ta_write v13 4 v25.toInt64 6 (((-1) - x).toInt64)) fun v33 =>
    oC (v33 = 0)
      (oR (Sum.inl (x + 1)))
      (oR (Sum.inr (Sum.inl ()))))

noncomputable def M_Ma_fillGlobals  : M (Int32) :=
  oB (oW M_Ma_fillGlobals_L2 0) fun e2 =>
  Sum.elim
    (fun y2_39 : Unit =>
      oR 0)
    (fun y2_47 : Unit =>
      oR 1) e2

noncomputable def M_Ma_beginMain (n0 : Nat × Nat) (l1 : Int32) : M (Int32 × (Nat × Nat)) :=
  oB (M_He_makeClosure n0 0 1) fun v6 =>
  oC (0 ≤ v6.1)
    (oB (oPz 145 4000 v6.1) fun _ =>
    oB (oGI 18943 v6.1) fun v25 =>
    oB (oK (v25 = 1)) fun _ =>
    oB (oLn 147 v6.1) fun n30 =>
    oB (oSI 147 n30 v6.1 0 l1) fun _ =>
    oB (M_He_makeCoroutine v6.2 v6.1.toInt64) fun v37 =>
    oC (0 ≤ v37.1)
      (oB (oPI 14221 0 0) fun _ =>
      oB (oPz 145 4000 v37.1) fun _ =>
      oB (oGI 18564 v37.1) fun v72 =>
      oB (oPz 148 32 v72) fun _ =>
      oB (oPI 16395 0 v72) fun _ =>
      oB (oGI 16395 0) fun v81 =>
      oB (oPr 148 v81) fun _ =>
      oB (M_Ma_begin v81) fun _ =>
      oB (M_Ma_enterClosure v6.1) fun _ =>
      oR (1, v37.2))
      (oR (0, v37.2)))
    (oR (0, v6.2))

noncomputable def M_St_newTable (n0 : Nat × Nat)  : M (Unit × (Nat × Nat)) :=
  oB (M_Ta_make n0) fun v4 =>
  oC (0 ≤ v4.1)
    (oB (oGI 16521 0) fun v26 =>
    oB (M_St_set v26 5 v4.1.toInt64) fun _ =>
    oR ((), v4.2))
    (oB (M_Ma_fail (-v4.1)) fun _ =>
    oR ((), v4.2))

noncomputable def M_St_makeClosure_j84 (l1 : Int32) (l2 : Int32) (l3 : Int32) (ln : Nat × Nat) (k0 : Int32) : M ((Int32 × Int32 × Int32 × (Nat × Nat)) ⊕ ((Int32 × (Nat × Nat)) ⊕ (Int32 × Int32 × (Nat × Nat)))) :=
  oC (0 ≤ k0)
    (oR (Sum.inl (l1, l2, l3 + 1, ln)))
    (oR (Sum.inr (Sum.inl (k0, ln))))

noncomputable def M_St_makeClosure_L33 : (Int32 × Int32 × Int32 × (Nat × Nat)) → M ((Int32 × Int32 × Int32 × (Nat × Nat)) ⊕ ((Int32 × (Nat × Nat)) ⊕ (Int32 × Int32 × (Nat × Nat)))) := fun x =>
  oB (oGI 18435 x.2.1) fun v35 =>
  oC (v35 ≤ x.2.2.1)
    (oR (Sum.inr (Sum.inr (x.1, x.2.1, x.2.2.2))))
    (oB (oGI 18436 x.2.1) fun v49 =>
    oB (oAI 107 15000 0 (v49 + x.2.2.1)) fun v54 =>
    oC (0 ≤ v54)
      (oB (oGI 16516 0) fun v71 =>
      oB (oPr 148 v71) fun _ =>
      oB (oGI 16519 0) fun v75 =>
      oB (M_He_openVariable x.2.2.2 v71 (v75 + v54)) fun v81 =>
      M_St_makeClosure_j84 x.1 x.2.1 x.2.2.1 v81.2 v81.1)
      (M_St_makeClosure_j84 x.1 x.2.1 x.2.2.1 x.2.2.2 0))

noncomputable def M_St_makeClosure_j216 (l2 : Int32) (l3 : Int32) (l4 : Int32) (l5 : Int32) (ln : Nat × Nat) (k0 : Int32) (k1 : Int32) (k2 : Int32) : M ((Int32 × Int32 × Int32 × Int32 × (Nat × Nat)) ⊕ ((Int32 × (Nat × Nat)))) :=
  oB (oLn 147 k2) fun n216 =>
  oB (oSI 147 n216 k2 k1 k0) fun _ =>
  oR (Sum.inl (l2, l3, l4, l5 + 1, ln))

noncomputable def M_St_makeClosure_L152 : (Int32 × Int32 × Int32 × Int32 × (Nat × Nat)) → M ((Int32 × Int32 × Int32 × Int32 × (Nat × Nat)) ⊕ ((Int32 × (Nat × Nat)))) := fun x =>
  oB (oGI 18435 x.1) fun v155 =>
  oC (v155 ≤ x.2.2.2.1)
    (oR (Sum.inr (x.2.1, x.2.2.2.2)))
    (oB (oGI 18436 x.1) fun v169 =>
    oB (oAI 107 15000 0 (v169 + x.2.2.2.1)) fun v175 =>
    oC (0 ≤ v175)
      (oB (oGI 16516 0) fun v203 =>
      oB (oPr 148 v203) fun _ =>
      oB (oGI 16519 0) fun v207 =>
      oB (M_He_openVariable x.2.2.2.2 v203 (v207 + v175)) fun v213 =>
      M_St_makeClosure_j216 x.1 x.2.1 x.2.2.1 x.2.2.2.1 v213.2 v213.1 x.2.2.2.1 x.2.2.1)
      (oB (M_St_upvalue ((-1) - v175)) fun v192 =>
      M_St_makeClosure_j216 x.1 x.2.1 x.2.2.1 x.2.2.2.1 x.2.2.2.2 v192 x.2.2.2.1 x.2.2.1))

noncomputable def M_St_makeClosure (n0 : Nat × Nat)  : M (Unit × (Nat × Nat)) :=
  oB (oGI 16518 0) fun v8 =>
  oB (oPr 144 v8) fun _ =>
  oB (oGI 18443 v8) fun v11 =>
  oB (oGI 16524 0) fun v15 =>
  oB (oAI 103 250 0 (v11 + v15)) fun v19 =>
  oB (oPz 144 250 v19) fun _ =>
  oB (oW M_St_makeClosure_L33 (v19, v19, 0, n0)) fun e33 =>
  Sum.elim
    (fun y33_91 : Int32 × (Nat × Nat) =>
      oB (M_Ma_fail (-y33_91.1)) fun _ =>
      oR ((), y33_91.2))
    (fun y33_108 : Int32 × Int32 × (Nat × Nat) =>
      oB (oGI 18435 y33_108.2.1) fun v114 =>
      oB (M_He_makeClosure y33_108.2.2 y33_108.1 v114) fun v117 =>
      oC (0 ≤ v117.1)
        (oB (oPz 145 4000 v117.1) fun _ =>
        oB (oGI 18943 v117.1) fun v144 =>
        oB (oK (v144 = 1)) fun _ =>
        oB (oW M_St_makeClosure_L152 (y33_108.2.1, v117.1, v117.1, 0, v117.2)) fun e152 =>
        oB (oGI 16521 0) fun v225 =>
        oB (M_St_set v225 6 e152.1.toInt64) fun _ =>
        oR ((), e152.2))
        (oB (M_Ma_fail (-v117.1)) fun _ =>
        oR ((), v117.2))) e33

noncomputable def M_St_step_j255 (ln : Nat × Nat) : M (Unit × (Nat × Nat)) :=
  oB (M_St_callOrReturn) fun _ =>
  oR ((), ln)

noncomputable def M_St_step (n0 : Nat × Nat)  : M (Unit × (Nat × Nat)) :=
  oB (oGI 16393 0) fun v5 =>
  oB (oPI 16393 0 (v5 + 1)) fun _ =>
  oB (oGI 16395 0) fun v17 =>
  oB (oPr 148 v17) fun _ =>
  oB (M_Co_top v17) fun v20 =>
  oB (oPr 152 v20) fun _ =>
  oB (oGI 19461 v20) fun v24 =>
  oB (oPI 19461 v20 (v24 + 1)) fun _ =>
  oB (M_St_decode) fun _ =>
  oB (oGI 16520 0) fun v37 =>
  oC (v37 = 8)
    (oB (oGI 16521 0) fun v99 =>
    oB (M_St_upvalue v99) fun v102 =>
    oB (M_He_variableKind v102) fun v105 =>
    oB (oGI 16521 0) fun v114 =>
    oB (M_St_upvalue v114) fun v117 =>
    oB (M_He_variableValue v117) fun v120 =>
    oB (M_St_write v105 v120) fun _ =>
    oR ((), n0))
  (oC (v37 = 10)
    (oB (oGI 16521 0) fun v132 =>
    oB (M_St_kindOf v132) fun v135 =>
    oB (oGI 16521 0) fun v140 =>
    oB (M_St_valueOf v140) fun v143 =>
    oB (M_St_write v135 v143) fun _ =>
    oR ((), n0))
  (oC (v37 = 11)
    (oB (M_St_newTable n0) fun v153 =>
    oR ((), v153.2))
  (oC (v37 = 43)
    (oB (M_St_setList) fun _ =>
    oR ((), n0))
  (oC (v37 = 44)
    (oB (M_St_makeClosure n0) fun v167 =>
    oR ((), v167.2))
  (oB (oGI 16520 0) fun v174 =>
  oC (12 < v174)
    (oB (oGI 16520 0) fun v190 =>
    oC (24 < v190)
      (oB (oGI 16520 0) fun v206 =>
      oC (29 < v206)
        (oB (oGI 16520 0) fun v222 =>
        oC (35 < v222)
          (oB (oGI 16520 0) fun v238 =>
          oC (v238 ≤ 38)
            (M_St_step_j255 n0)
            (oB (oGI 16520 0) fun v247 =>
            oC (v247 = 41)
              (M_St_step_j255 n0)
              (oB (M_St_loopOrTake) fun _ =>
              oR ((), n0))))
          (oB (M_St_branch) fun _ =>
          oR ((), n0)))
        (oB (M_St_reckonOne) fun _ =>
        oR ((), n0)))
      (oB (M_St_reckon) fun _ =>
      oR ((), n0)))
    (oB (M_St_move) fun _ =>
    oR ((), n0)))))))

noncomputable def M_Arr_copyOf (n0 : Nat × Nat) (l0r : Nat) (l0 : Int32) (l1 : Int32) : M (Int32 × (Nat × Nat)) :=
  oB (oLn l0r l0) fun n2 =>
  oC (l1 = n2)
    (oB (oLn l0r l0) fun n7 =>
    oB (oNw n0 n7.toNatClampNeg) fun m7 =>
    oB (oS fun s => clB s l0r l0) fun _ =>
    oR (0, m7))
    (oB (oK ((0 : Int32) ≤ l1 ∧ l1 ≤ (60000000 : Int32))) fun _ =>
    oB (oNw n0 l1.toNatClampNeg) fun m15 =>
    oB (oS fun s => nwR s 154 0 l1.toNatClampNeg) fun _ =>
    oB (oLn l0r l0) fun n23 =>
    oB (M_Mth_min n23 l1) fun v25 =>
    oB (oLn l0r l0) fun n28a =>
    oB (oLn 154 0) fun n28b =>
    oB (oCI l0r l0 n28a 154 0 n28b 0 0 v25) fun _ =>
    oR (0, m15))

noncomputable def M_Arr_copyOfRangeByte (n0 : Nat × Nat) (l0r : Nat) (l0 : Int32) (l1 : Int32) (l2 : Int32) : M (Int32 × (Nat × Nat)) :=
  oB (M_Arr_checkLength l1 l2) fun _ =>
  oL (l2 - l1) fun l3_8 =>
  oB (oK ((0 : Int32) ≤ l3_8 ∧ l3_8 ≤ (60000000 : Int32))) fun _ =>
  oB (oNw n0 l3_8.toNatClampNeg) fun m10 =>
  oB (oS fun s => nwR s 154 0 l3_8.toNatClampNeg) fun _ =>
  oB (oLn l0r l0) fun n20 =>
  oB (M_Mth_min (n20 - l1) l3_8) fun v24 =>
  oB (oLn l0r l0) fun n27a =>
  oB (oLn 154 0) fun n27b =>
  oB (oCI l0r l0 n27a 154 0 n27b l1 0 v24) fun _ =>
  oR (0, m10)

noncomputable def M_He_putByte_j67 (ln : Nat × Nat) : M (Unit × (Nat × Nat)) :=
  oB (oGI 14217 0) fun v69 =>
  oB (oPI 14217 0 (v69 + 1)) fun _ =>
  oR ((), ln)

noncomputable def M_He_putByte_j44 (l1 : Int32) (ln : Nat × Nat) : M (Unit × (Nat × Nat)) :=
  oB (oGI 14217 0) fun v45 =>
  oB (oLn 118 0) fun n52 =>
  oC (n52 ≤ v45)
    (M_He_putByte_j67 ln)
    (oB (oGI 14217 0) fun v61 =>
    oB (oLn 118 0) fun n66 =>
    oB (oSI 118 n66 0 v61 l1.toInt8.toInt32.toInt8.toInt32) fun _ =>
    M_He_putByte_j67 ln)

noncomputable def M_He_putByte (n0 : Nat × Nat) (l1 : Int32) : M (Unit × (Nat × Nat)) :=
  oB (oGI 14217 0) fun v1 =>
  oB (oLn 118 0) fun n8 =>
  oC (v1 = n8)
    (oB (oGI 14217 0) fun v13 =>
    oC (400000 ≤ v13)
      (M_He_putByte_j44 l1 n0)
      (oB (oLn 118 0) fun n33 =>
      oB (M_Mth_min 400000 (2 * n33)) fun v35 =>
      oB (M_Arr_copyOf n0 118 0 v35) fun v38 =>
      oB (oK (v38.1 = 0)) fun _ =>
      oB (oPr 154 0) fun _ =>
      oB (oS fun s => mvB s 118 0) fun _ =>
      M_He_putByte_j44 l1 v38.2))
    (M_He_putByte_j44 l1 n0)

noncomputable def M_He_putText_L2 : (Nat × Int32 × (Nat × Nat)) → M ((Nat × Int32 × (Nat × Nat)) ⊕ (((Nat × Nat)))) := fun x =>
  oC ((stLI x.1) ≤ x.2.1)
    (oR (Sum.inr x.2.2))
    (oB (oK ((0 : Int32) ≤ x.2.1 ∧ x.2.1 < stLI x.1)) fun _ =>
    oB (M_He_putByte x.2.2 (stC x.1 x.2.1)) fun v16 =>
    oR (Sum.inl (x.1, x.2.1 + 1, v16.2)))

noncomputable def M_He_putText (n0 : Nat × Nat) (l1 : Nat) : M (Unit × (Nat × Nat)) :=
  oB (oW M_He_putText_L2 (l1, 0, n0)) fun e2 =>
  oR ((), e2)

noncomputable def M_He_putDecimal_L14 : (Int64 × Int64 × (Nat × Nat)) → M ((Int64 × Int64 × (Nat × Nat)) ⊕ ((Int64 × Int64 × (Nat × Nat)))) := fun x =>
  oC (0 ≤ (lg_cmp x.2.1 1000000000000000000))
    (oR (Sum.inr (x.1, x.2.1, x.2.2)))
    (oB (oK (¬ x.2.1 = 0)) fun _ =>
    oC ((lg_cmp ((x.1 / x.2.1) / 10) 0) = 0)
      (oR (Sum.inr (x.1, x.2.1, x.2.2)))
      (oL (x.2.1 * 10) fun l3_39 =>
      oR (Sum.inl (x.1, l3_39, x.2.2))))

noncomputable def M_He_putDecimal_L43 : (Int64 × Int64 × (Nat × Nat)) → M ((Int64 × Int64 × (Nat × Nat)) ⊕ (((Nat × Nat)))) := fun x =>
  oC ((lg_cmp x.2.1 0) ≤ 0)
    (oR (Sum.inr x.2.2))
    (oB (oK (¬ x.2.1 = 0)) fun _ =>
    oB (M_Mth_abs ((x.1 / x.2.1) - (x.1 / x.2.1) / 10 * 10)) fun v59 =>
    oB (M_He_putByte x.2.2 (48 + v59.toInt32)) fun v64 =>
    oL (x.2.1 / 10) fun l3_72 =>
    oR (Sum.inl (x.1, l3_72, v64.2)))

noncomputable def M_He_putDecimal_j12 (l1 : Int64) (ln : Nat × Nat) : M (Unit × (Nat × Nat)) :=
  oB (oW M_He_putDecimal_L14 (l1, 1, ln)) fun e14 =>
  oB (oW M_He_putDecimal_L43 (e14.1, e14.2.1, e14.2.2)) fun e43 =>
  oR ((), e43)

noncomputable def M_He_putDecimal (n0 : Nat × Nat) (l1 : Int64) : M (Unit × (Nat × Nat)) :=
  oC (0 ≤ (lg_cmp l1 0))
    (M_He_putDecimal_j12 l1 n0)
    (oB (M_He_putByte n0 45) fun v9 =>
    M_He_putDecimal_j12 l1 v9.2)

noncomputable def M_He_putBytes_j65 (l2 : Int32) (ln : Nat × Nat) : M (Unit × (Nat × Nat)) :=
  oB (oPI 14217 0 l2) fun _ =>
  oR ((), ln)

noncomputable def M_He_putBytes_j50 (l1 : Int32) (l2 : Int32) (ln : Nat × Nat) : M (Unit × (Nat × Nat)) :=
  oB (oGI 14217 0) fun v57 =>
  oB (oLn 146 l1) fun n61 =>
  oB (oLn 146 l1) fun n62a =>
  oB (oLn 118 0) fun n62b =>
  oB (oCI 146 l1 n62a 118 0 n62b 0 v57 n61) fun _ =>
  M_He_putBytes_j65 l2 ln

noncomputable def M_He_putBytes (n0 : Nat × Nat) (l1 : Int32) : M (Unit × (Nat × Nat)) :=
  oB (oGI 14217 0) fun v1 =>
  oB (oLn 146 l1) fun n5 =>
  oL (v1 + n5) fun l2_7 =>
  oC (400000 < l2_7)
    (M_He_putBytes_j65 l2_7 n0)
    (oB (oLn 118 0) fun n19 =>
    oC (l2_7 ≤ n19)
      (M_He_putBytes_j50 l1 l2_7 n0)
      (oB (oLn 118 0) fun n36 =>
      oB (M_Mth_max l2_7 (2 * n36)) fun v38 =>
      oB (M_Mth_min 400000 v38) fun v41 =>
      oB (M_Arr_copyOf n0 118 0 v41) fun v44 =>
      oB (oK (v44.1 = 0)) fun _ =>
      oB (oPr 154 0) fun _ =>
      oB (oS fun s => mvB s 118 0) fun _ =>
      M_He_putBytes_j50 l1 l2_7 v44.2))

noncomputable def M_Arr_copyOfRange_j10 (l0r : Nat) (l0 : Int32) (l1 : Int32) (l2 : Int32) (ln : Nat × Nat) : M (Int32 × (Nat × Nat)) :=
  oB (M_Arr_copyOfRangeByte ln l0r l0 l1 l2) fun v13 =>
  oB (oK (v13.1 = 0)) fun _ =>
  oB (oPr 154 0) fun _ =>
  oR (0, v13.2)

noncomputable def M_Arr_copyOfRange (n0 : Nat × Nat) (l0r : Nat) (l0 : Int32) (l1 : Int32) (l2 : Int32) : M (Int32 × (Nat × Nat)) :=
  oC (l1 = 0)
    (oB (oLn l0r l0) fun n6 =>
    oC (l2 = n6)
      (oB (oLn l0r l0) fun n18 =>
      oB (oNw n0 n18.toNatClampNeg) fun m18 =>
      oB (oS fun s => clB s l0r l0) fun _ =>
      oR (0, m18))
      (M_Arr_copyOfRange_j10 l0r l0 l1 l2 n0))
    (M_Arr_copyOfRange_j10 l0r l0 l1 l2 n0)

noncomputable def M_Bu_describe_j135 (l2 : Int64) (ln : Nat × Nat) : M (Unit × (Nat × Nat)) :=
  oB (M_He_numberOf l2) fun v144 =>
  oB (M_He_putDecimal ln v144) fun v147 =>
  oR ((), v147.2)

noncomputable def M_Bu_describe_j120 (l2 : Int64) (ln : Nat × Nat) (k0 : Nat) : M (Unit × (Nat × Nat)) :=
  oB (M_He_putText ln k0) fun v120 =>
  M_Bu_describe_j135 l2 v120.2

noncomputable def M_Bu_describe (n0 : Nat × Nat) (l1 : Int32) (l2 : Int64) : M (Unit × (Nat × Nat)) :=
  oB (oPI 14217 0 0) fun _ =>
  oC (l1 = 0)
    (oB (M_He_putText n0 63) fun v58 =>
    oR ((), v58.2))
  (oC (l1 = 1)
    (oB (M_He_putText n0 64) fun v68 =>
    oR ((), v68.2))
  (oC (l1 = 2)
    (oB (M_He_putText n0 65) fun v78 =>
    oR ((), v78.2))
  (oC (l1 = 3)
    (oB (M_He_putDecimal n0 l2) fun v87 =>
    oR ((), v87.2))
  (oC (l1 = 5)
    (oB (M_He_putText n0 66) fun v97 =>
    M_Bu_describe_j135 l2 v97.2)
  (oC (l1 = 6)
    (oC (0 ≤ (lg_cmp l2 0))
      (M_Bu_describe_j120 l2 n0 68)
      (M_Bu_describe_j120 l2 n0 67))
  (oB (M_He_putText n0 69) fun v132 =>
  M_Bu_describe_j135 l2 v132.2))))))

noncomputable def M_St_putText (n0 : Nat × Nat) (l1 : Int32) (l2 : Int64) : M (Unit × (Nat × Nat)) :=
  oC (l1 = 4)
    (oB (oPz 145 4000 l2.toInt32) fun _ =>
    oB (oGI 18815 l2.toInt32) fun v19 =>
    oB (oK (v19 = 1)) fun _ =>
    oB (M_He_putBytes n0 l2.toInt32) fun v22 =>
    oR ((), v22.2))
    (oB (M_He_putDecimal n0 l2) fun v33 =>
    oR ((), v33.2))

noncomputable def M_Bu_print_j108 (l1 : Int32) (ln : Nat × Nat) : M ((Int32 × (Nat × Nat)) ⊕ (((Nat × Nat)))) :=
  oR (Sum.inl (l1 + 1, ln))

noncomputable def M_Bu_print_j23 (l1 : Int32) (ln : Nat × Nat) : M ((Int32 × (Nat × Nat)) ⊕ (((Nat × Nat)))) :=
  oB (oAI 133 512 0 l1) fun v31 =>
  oC (v31 = 4)
    (oB (oAL 134 512 0 l1) fun v51 =>
    oB (oPz 145 4000 v51.toInt32) fun _ =>
    oB (oGI 18815 v51.toInt32) fun v54 =>
    oB (oK (v54 = 1)) fun _ =>
    oB (oLn 146 v51.toInt32) fun n61 =>
    oB (M_Bu_printBytes 146 v51.toInt32 n61) fun _ =>
    M_Bu_print_j108 l1 ln)
    (oB (oAI 133 512 0 l1) fun v77 =>
    oB (oAL 134 512 0 l1) fun v86 =>
    oB (M_Bu_describe ln v77 v86) fun v87 =>
    oB (oGI 14217 0) fun v102 =>
    oB (M_Bu_printBytes 118 0 v102) fun _ =>
    M_Bu_print_j108 l1 v87.2)

noncomputable def M_Bu_print_L2 : (Int32 × (Nat × Nat)) → M ((Int32 × (Nat × Nat)) ⊕ (((Nat × Nat)))) := fun x =>
  oB (oGI 16898 0) fun v7 =>
  oC (v7 ≤ x.1)
    (oR (Sum.inr x.2))
    (oC (x.1 ≤ 0)
      (M_Bu_print_j23 x.1 x.2)
      (oB (M_Bu_printByte 9) fun _ =>
      M_Bu_print_j23 x.1 x.2))

noncomputable def M_Bu_print (n0 : Nat × Nat)  : M (Unit × (Nat × Nat)) :=
  oB (oW M_Bu_print_L2 (0, n0)) fun e2 =>
  oB (M_Bu_printByte 10) fun _ =>
  oR ((), e2)

noncomputable def M_He_intern_L15 : (Nat × Int32 × Int32 × Int32 × Int32 × Int32 × (Nat × Nat)) → M ((Nat × Int32 × Int32 × Int32 × Int32 × Int32 × (Nat × Nat)) ⊕ ((Nat × Int32 × Int32 × Int32 × Int32 × (Nat × Nat)))) := fun x =>
  oC (x.2.2.2.1 ≤ x.2.2.2.2.2.1)
    (oR (Sum.inr (x.1, x.2.1, x.2.2.1, x.2.2.2.1, x.2.2.2.2.1, x.2.2.2.2.2.2)))
    (oB (oLn x.1 x.2.1) fun n31 =>
    oB (oAI x.1 n31 x.2.1 (x.2.2.1 + x.2.2.2.2.2.1)) fun v31 =>
    oL ((x.2.2.2.2.1 * 31) + v31) fun l4_33 =>
    oR (Sum.inl (x.1, x.2.1, x.2.2.1, x.2.2.2.1, l4_33, x.2.2.2.2.2.1 + 1, x.2.2.2.2.2.2)))

noncomputable def M_He_intern_j117 (l1r : Nat) (l1 : Int32) (l2 : Int32) (l3 : Int32) (l4 : Int32) (l5 : Int32) (l6 : Int32) (l7 : Int32) (ln : Nat × Nat) : M ((Nat × Int32 × Int32 × Int32 × Int32 × Int32 × Int32 × Int32 × (Nat × Nat)) ⊕ ((Int32 × (Nat × Nat)) ⊕ (Nat × Int32 × Int32 × Int32 × Int32 × Int32 × (Nat × Nat)))) :=
  oB (oPz 145 4000 l6) fun _ =>
  oB (oGI 18565 l6) fun v124 =>
  oR (Sum.inl (l1r, l1, l2, l3, l4, l5, v124, l7 + 1, ln))

noncomputable def M_He_intern_L67 : (Nat × Int32 × Int32 × Int32 × Int32 × Int32 × Int32 × Int32 × (Nat × Nat)) → M ((Nat × Int32 × Int32 × Int32 × Int32 × Int32 × Int32 × Int32 × (Nat × Nat)) ⊕ ((Int32 × (Nat × Nat)) ⊕ (Nat × Int32 × Int32 × Int32 × Int32 × Int32 × (Nat × Nat)))) := fun x =>
  oC (x.2.2.2.2.2.2.1 < 0)
    (oR (Sum.inr (Sum.inr (x.1, x.2.1, x.2.2.1, x.2.2.2.1, x.2.2.2.2.1, x.2.2.2.2.2.1, x.2.2.2.2.2.2.2.2))))
    (oC (4000 ≤ x.2.2.2.2.2.2.2.1)
      (oR (Sum.inr (Sum.inr (x.1, x.2.1, x.2.2.1, x.2.2.2.1, x.2.2.2.2.1, x.2.2.2.2.2.1, x.2.2.2.2.2.2.2.2))))
      (oB (oPz 145 4000 x.2.2.2.2.2.2.1) fun _ =>
      oB (oGI 18566 x.2.2.2.2.2.2.1) fun v87 =>
      oC (v87 = x.2.2.2.2.1)
        (oB (oPz 145 4000 x.2.2.2.2.2.2.1) fun _ =>
        oB (oGI 18815 x.2.2.2.2.2.2.1) fun v102 =>
        oB (oK (v102 = 1)) fun _ =>
        oB (M_He_isSame x.2.2.2.2.2.2.1 x.1 x.2.1 x.2.2.1 x.2.2.2.1) fun v108 =>
        oC (v108 = 0)
          (M_He_intern_j117 x.1 x.2.1 x.2.2.1 x.2.2.2.1 x.2.2.2.2.1 x.2.2.2.2.2.1 x.2.2.2.2.2.2.1 x.2.2.2.2.2.2.2.1 x.2.2.2.2.2.2.2.2)
          (oR (Sum.inr (Sum.inl (x.2.2.2.2.2.2.1, x.2.2.2.2.2.2.2.2)))))
        (M_He_intern_j117 x.1 x.2.1 x.2.2.1 x.2.2.2.1 x.2.2.2.2.1 x.2.2.2.2.2.1 x.2.2.2.2.2.2.1 x.2.2.2.2.2.2.2.1 x.2.2.2.2.2.2.2.2)))

noncomputable def M_He_intern_j135 (l1r : Nat) (l1 : Int32) (l2 : Int32) (l3 : Int32) (l4 : Int32) (l5 : Int32) (ln : Nat × Nat) : M (Int32 × (Nat × Nat)) :=
  oB (M_He_make ln 4 0 l3) fun v139 =>
  oC (v139.1 < 0)
    (oR (v139.1, v139.2))
    (oB (oPz 145 4000 v139.1) fun _ =>
    oB (M_Arr_copyOfRange v139.2 l1r l1 l2 (l2 + l3)) fun v165 =>
    oB (oK (v165.1 = 0)) fun _ =>
    oB (oPr 154 0) fun _ =>
    oB (oS fun s => mvB s 146 v139.1) fun _ =>
    oB (oPI 18566 v139.1 l4) fun _ =>
    oB (oAI 117 4096 0 l5) fun v186 =>
    oB (oPI 18565 v139.1 v186) fun _ =>
    oB (oSI 117 4096 0 l5 v139.1) fun _ =>
    oR (v139.1, v165.2))

noncomputable def M_He_intern (n0 : Nat × Nat) (l1r : Nat) (l1 : Int32) (l2 : Int32) (l3 : Int32) : M (Int32 × (Nat × Nat)) :=
  oC (l3 ≤ 400000)
    (oB (oW M_He_intern_L15 (l1r, l1, l2, l3, l3, 0, n0)) fun e15 =>
    oL ((e15.2.2.2.2.1 ^^^ (iushr e15.2.2.2.2.1 (15 : Int32))) &&& 4095) fun l5_53 =>
    oB (oAI 117 4096 0 l5_53) fun v61 =>
    oB (oW M_He_intern_L67 (e15.1, e15.2.1, e15.2.2.1, e15.2.2.2.1, e15.2.2.2.2.1, l5_53, v61, 0, e15.2.2.2.2.2)) fun e67 =>
    Sum.elim
      (fun y67_114 : Int32 × (Nat × Nat) =>
        oR (y67_114.1, y67_114.2))
      (fun y67_135 : Nat × Int32 × Int32 × Int32 × Int32 × Int32 × (Nat × Nat) =>
        M_He_intern_j135 y67_135.1 y67_135.2.1 y67_135.2.2.1 y67_135.2.2.2.1 y67_135.2.2.2.2.1 y67_135.2.2.2.2.2.1 y67_135.2.2.2.2.2.2) e67)
    (oR ((-11), n0))

noncomputable def M_Ma_internConstants_j96 (l1 : Int32) (ln : Nat × Nat) : M ((Int32 × (Nat × Nat)) ⊕ (((Nat × Nat)) ⊕ ((Nat × Nat)))) :=
  oR (Sum.inl (l1 + 1, ln))

noncomputable def M_Ma_internConstants_L2 : (Int32 × (Nat × Nat)) → M ((Int32 × (Nat × Nat)) ⊕ (((Nat × Nat)) ⊕ ((Nat × Nat)))) := fun x =>
  oB (oGI 12938 0) fun v7 =>
  oC (v7 ≤ x.1)
    (oR (Sum.inr (Sum.inr x.2)))
    (oB (oAI 105 20000 0 x.1) fun v21 =>
    oC (v21 = 4)
      (oB (oAL 106 20000 0 x.1) fun v34 =>
      oB (M_He_intern x.2 108 0 ((lushr v34 (16 : Int32)).toInt32) ((v34 &&& 65535).toInt32)) fun v58 =>
      oC (0 ≤ v58.1)
        (oB (oPz 145 4000 v58.1) fun _ =>
        oB (oPI 18563 v58.1 1) fun _ =>
        oB (oSL 106 20000 0 x.1 v58.1.toInt64) fun _ =>
        M_Ma_internConstants_j96 x.1 v58.2)
        (oR (Sum.inr (Sum.inl v58.2))))
      (M_Ma_internConstants_j96 x.1 x.2))

noncomputable def M_Ma_internConstants (n0 : Nat × Nat)  : M (Int32 × (Nat × Nat)) :=
  oB (oW M_Ma_internConstants_L2 (0, n0)) fun e2 =>
  Sum.elim
    (fun y2_68 : (Nat × Nat) =>
      oR (0, y2_68))
    (fun y2_102 : (Nat × Nat) =>
      oR (1, y2_102)) e2

noncomputable def M_Bu_makeText (n0 : Nat × Nat)  : M (Unit × (Nat × Nat)) :=
  oB (M_Ro_kindAt 132 0 0) fun v5 =>
  oB (M_Ro_valueAt 132 0 0) fun v14 =>
  oB (M_Ta_findEvent v5 v14 20) fun v26 =>
  oC (v26 < 0)
    (oC (v5 = 4)
      (oB (M_Ro_add 135 0 4 v14) fun _ =>
      oR ((), n0))
      (oB (M_Bu_describe n0 v5 v14) fun v107 =>
      oB (oGI 14217 0) fun v128 =>
      oB (M_He_intern v107.2 118 0 0 v128) fun v131 =>
      oB (M_Bu_addMade 4 v131.1) fun _ =>
      oR ((), v131.2)))
    (oB (oGI 16395 0) fun v40 =>
    oB (oPr 148 v40) fun _ =>
    oB (M_Co_push v40 4 (-1) 0) fun v46 =>
    oC (v46 = 0)
      (oB (M_Ma_fail 4) fun _ =>
      oR ((), n0))
      (oB (M_Ma_callEntry v26 v5 v14 0 0) fun _ =>
      oB (oPI 16898 0 1) fun _ =>
      oR ((), n0)))

noncomputable def M_Bu_cut_j73 (l1 : Int32) (l2 : Int64) (ln : Nat × Nat) (k0 : Int64) : M (Unit × (Nat × Nat)) :=
  oB (M_Mth_max_ l2 1) fun v77 =>
  oB (oLn 146 l1) fun n81 =>
  oB (M_Mth_min_ v77 (n81.toInt64 + 1)) fun v85 =>
  oB (oLn 146 l1) fun n94 =>
  oB (M_Mth_min_ k0 n94.toInt64) fun v96 =>
  oB (M_Mth_max 0 ((v96.toInt32 - v85.toInt32) + 1)) fun v121 =>
  oB (M_He_intern ln 146 l1 (v85.toInt32 - 1) v121) fun v124 =>
  oB (M_Bu_addMade 4 v124.1) fun _ =>
  oR ((), v124.2)

noncomputable def M_Bu_cut_j42 (l1 : Int32) (ln : Nat × Nat) (k0 : Int64) : M (Unit × (Nat × Nat)) :=
  oB (M_Ro_kindAt 132 0 2) fun v48 =>
  oC (v48 = 0)
    (oB (oLn 146 l1) fun n55 =>
    M_Bu_cut_j73 l1 k0 ln n55.toInt64)
    (oB (M_Ro_valueAt 132 0 2) fun v65 =>
    oB (oLn 146 l1) fun n69 =>
    oB (M_Bu_fromFront v65 n69) fun v70 =>
    M_Bu_cut_j73 l1 k0 ln v70)

noncomputable def M_Bu_cut (n0 : Nat × Nat)  : M (Unit × (Nat × Nat)) :=
  oB (M_Bu_hasString 2) fun v2 =>
  oC (v2 = 0)
    (oR ((), n0))
    (oB (M_Bu_bytesOfFirst) fun v10 =>
    oB (oPr 146 v10) fun _ =>
    oB (M_Ro_kindAt 132 0 1) fun v19 =>
    oC (v19 = 0)
      (M_Bu_cut_j42 v10 n0 1)
      (oB (M_Ro_valueAt 132 0 1) fun v34 =>
      oB (oLn 146 v10) fun n38 =>
      oB (M_Bu_fromFront v34 n38) fun v39 =>
      M_Bu_cut_j42 v10 n0 v39))

noncomputable def M_Bu_makeOfBytes_L10 : (Int32 × (Nat × Nat)) → M ((Int32 × (Nat × Nat)) ⊕ (((Nat × Nat)) ⊕ ((Nat × Nat)) ⊕ ((Nat × Nat)))) := fun x =>
  oB (oGI 16898 0) fun v15 =>
  oC (v15 ≤ x.1)
    (oR (Sum.inr (Sum.inr (Sum.inr x.2))))
    (oB (oAI 133 512 0 x.1) fun v29 =>
    oC (v29 = 3)
      (oB (oAL 134 512 0 x.1) fun v51 =>
      oC ((lg_cmp v51 0) < 0)
        (oR (Sum.inr (Sum.inr (Sum.inl x.2))))
        (oB (oAL 134 512 0 x.1) fun v65 =>
        oC ((lg_cmp v65 255) ≤ 0)
          (oB (oAL 134 512 0 x.1) fun v95 =>
          oB (M_He_putByte x.2 v95.toInt32) fun v97 =>
          oR (Sum.inl (x.1 + 1, v97.2)))
          (oR (Sum.inr (Sum.inr (Sum.inl x.2))))))
      (oR (Sum.inr (Sum.inl x.2))))

noncomputable def M_Bu_makeOfBytes_j73 (ln : Nat × Nat) : M (Unit × (Nat × Nat)) :=
  oB (M_Ma_fail 7) fun _ =>
  oR ((), ln)

noncomputable def M_Bu_makeOfBytes (n0 : Nat × Nat)  : M (Unit × (Nat × Nat)) :=
  oB (oPI 14217 0 0) fun _ =>
  oB (oW M_Bu_makeOfBytes_L10 (0, n0)) fun e10 =>
  Sum.elim
    (fun y10_34 : (Nat × Nat) =>
      oB (M_Ma_fail 3) fun _ =>
      oR ((), y10_34))
    (Sum.elim
      (fun y10_73 : (Nat × Nat) =>
        M_Bu_makeOfBytes_j73 y10_73)
      (fun y10_106 : (Nat × Nat) =>
        oB (oGI 14217 0) fun v124 =>
        oB (M_He_intern y10_106 118 0 0 v124) fun v127 =>
        oB (M_Bu_addMade 4 v127.1) fun _ =>
        oR ((), v127.2))) e10

noncomputable def M_St_joined (n0 : Nat × Nat) (l1 : Int32) (l2 : Int64) : M (Int32 × (Nat × Nat)) :=
  oB (oPI 14217 0 0) fun _ =>
  oB (M_St_putText n0 l1 l2) fun v11 =>
  oB (oGI 16517 0) fun v16 =>
  oB (oPr 152 v16) fun _ =>
  oB (oGI 19462 v16) fun v19 =>
  oB (oGI 16517 0) fun v23 =>
  oB (oPr 152 v23) fun _ =>
  oB (oGL 19463 v23) fun v26 =>
  oB (M_St_putText v11.2 v19 v26) fun v29 =>
  oB (oGI 14217 0) fun v48 =>
  oB (M_He_intern v29.2 118 0 0 v48) fun v51 =>
  oR (v51.1, v51.2)

noncomputable def M_Ma_internNames_j122 (l1 : Nat) (l3 : Int32) (l4 : Int32) (ln : Nat × Nat) : M ((Nat × Int32 × Int32 × (Nat × Nat)) ⊕ (((Nat × Nat)) ⊕ ((Nat × Nat)))) :=
  oR (Sum.inl (l1, l3, l4 + 1, ln))

noncomputable def M_Ma_internNames_L13 : (Nat × Int32 × Int32 × (Nat × Nat)) → M ((Nat × Int32 × Int32 × (Nat × Nat)) ⊕ (((Nat × Nat)) ⊕ ((Nat × Nat)))) := fun x =>
  oC ((stLI x.1) ≤ x.2.2.1)
    (oR (Sum.inr (Sum.inr x.2.2.2)))
    (oC (57 ≤ x.2.1)
      (oR (Sum.inr (Sum.inr x.2.2.2)))
      (oB (oK ((0 : Int32) ≤ x.2.2.1 ∧ x.2.2.1 < stLI x.1)) fun _ =>
      oC ((stC x.1 x.2.2.1) = 32)
        (oB (oGI 14217 0) fun v71 =>
        oB (M_He_intern x.2.2.2 118 0 0 v71) fun v74 =>
        oC (0 ≤ v74.1)
          (oB (oPz 145 4000 v74.1) fun _ =>
          oB (oPI 18563 v74.1 1) fun _ =>
          oB (oSI 115 57 0 x.2.1 v74.1) fun _ =>
          oB (oPI 14217 0 0) fun _ =>
          M_Ma_internNames_j122 x.1 (x.2.1 + 1) x.2.2.1 v74.2)
          (oR (Sum.inr (Sum.inl v74.2))))
        (oB (oK ((0 : Int32) ≤ x.2.2.1 ∧ x.2.2.1 < stLI x.1)) fun _ =>
        oB (M_He_putByte x.2.2.2 (stC x.1 x.2.2.1)) fun v49 =>
        M_Ma_internNames_j122 x.1 x.2.1 x.2.2.1 v49.2)))

noncomputable def M_Ma_internNames (n0 : Nat × Nat) (l1 : Nat) (l2 : Int32) : M (Int32 × (Nat × Nat)) :=
  oB (oPI 14217 0 0) fun _ =>
  oB (oW M_Ma_internNames_L13 (l1, l2, 0, n0)) fun e13 =>
  Sum.elim
    (fun y13_84 : (Nat × Nat) =>
      oR (0, y13_84))
    (fun y13_128 : (Nat × Nat) =>
      oR (1, y13_128)) e13

noncomputable def M_Bu_perform_j343 (ln : Nat × Nat) : M (Unit × (Nat × Nat)) :=
  oB (oGI 16396 0) fun v347 =>
  oC (v347 = 3)
    (oB (M_Ro_clear 132 0) fun _ =>
    oR ((), ln))
    (oR ((), ln))

noncomputable def M_Bu_perform (n0 : Nat × Nat)  : M (Unit × (Nat × Nat)) :=
  oB (M_Ro_clear 135 0) fun _ =>
  oB (oPI 16396 0 3) fun _ =>
  oB (oGL 16398 0) fun v22 =>
  oC ((((-1) - v22).toInt32) = 0)
    (oB (M_Bu_print n0) fun v133 =>
    M_Bu_perform_j343 v133.2)
  (oC ((((-1) - v22).toInt32) = 1)
    (oB (M_Bu_makeText n0) fun v140 =>
    M_Bu_perform_j343 v140.2)
  (oC ((((-1) - v22).toInt32) = 2)
    (oB (M_Ro_kindAt 132 0 0) fun v165 =>
    oB (M_Bu_typeOf v165) fun v168 =>
    oB (oAI 115 57 0 (46 + v168)) fun v172 =>
    oB (M_Ro_add 135 0 4 v172.toInt64) fun _ =>
    M_Bu_perform_j343 n0)
  (oC ((((-1) - v22).toInt32) = 3)
    (oB (M_Ro_kindAt 132 0 0) fun v189 =>
    oB (M_Ro_valueAt 132 0 0) fun v197 =>
    oB (M_Ma_raise v189 v197) fun _ =>
    M_Bu_perform_j343 n0)
  (oC ((((-1) - v22).toInt32) = 4)
    (oB (M_Bu_callProtected) fun _ =>
    M_Bu_perform_j343 n0)
  (oC ((((-1) - v22).toInt32) = 5)
    (oB (M_Bu_setMetatable) fun _ =>
    M_Bu_perform_j343 n0)
  (oC ((((-1) - v22).toInt32) = 6)
    (oB (M_Bu_getMetatable) fun _ =>
    M_Bu_perform_j343 n0)
  (oC ((((-1) - v22).toInt32) = 7)
    (oB (M_Bu_readRaw) fun _ =>
    M_Bu_perform_j343 n0)
  (oC ((((-1) - v22).toInt32) = 8)
    (oB (M_Bu_writeRaw) fun _ =>
    M_Bu_perform_j343 n0)
  (oC ((((-1) - v22).toInt32) = 9)
    (oB (M_Bu_measureRaw) fun _ =>
    M_Bu_perform_j343 n0)
  (oC ((((-1) - v22).toInt32) = 10)
    (oB (M_Bu_compareRaw) fun _ =>
    M_Bu_perform_j343 n0)
  (oC ((((-1) - v22).toInt32) = 11)
    (oB (M_Bu_next) fun _ =>
    M_Bu_perform_j343 n0)
  (oC ((((-1) - v22).toInt32) = 12)
    (oB (M_Bu_select) fun _ =>
    M_Bu_perform_j343 n0)
  (oC ((((-1) - v22).toInt32) = 13)
    (oB (M_Bu_cut n0) fun v270 =>
    M_Bu_perform_j343 v270.2)
  (oC ((((-1) - v22).toInt32) = 14)
    (oB (M_Bu_tellByte) fun _ =>
    M_Bu_perform_j343 n0)
  (oC ((((-1) - v22).toInt32) = 15)
    (oB (M_Bu_makeOfBytes n0) fun v284 =>
    M_Bu_perform_j343 v284.2)
  (oC ((((-1) - v22).toInt32) = 16)
    (oB (M_Bu_measure) fun _ =>
    M_Bu_perform_j343 n0)
  (oC ((((-1) - v22).toInt32) = 17)
    (oB (M_Bu_create n0) fun v298 =>
    M_Bu_perform_j343 v298.2)
  (oC ((((-1) - v22).toInt32) = 18)
    (oB (M_Bu_resume) fun _ =>
    M_Bu_perform_j343 n0)
  (oC ((((-1) - v22).toInt32) = 19)
    (oB (M_Bu_giveWay) fun _ =>
    M_Bu_perform_j343 n0)
  (oC ((((-1) - v22).toInt32) = 20)
    (oB (M_Bu_tellStatus) fun _ =>
    M_Bu_perform_j343 n0)
  (oC ((((-1) - v22).toInt32) = 21)
    (oB (M_Bu_tellRunning) fun _ =>
    M_Bu_perform_j343 n0)
  (oC ((((-1) - v22).toInt32) = 22)
    (oB (M_Bu_wrap n0) fun v333 =>
    M_Bu_perform_j343 v333.2)
  (oB (M_Bu_cleanUp) fun _ =>
  M_Bu_perform_j343 n0)))))))))))))))))))))))

noncomputable def M_St_joinOn_L12 : (Int32 × (Nat × Nat)) → M ((Int32 × (Nat × Nat)) ⊕ ((Int32 × (Nat × Nat)) ⊕ (Int32 × (Nat × Nat)) ⊕ ((Nat × Nat)))) := fun x =>
  oB (oGI 16522 0) fun v14 =>
  oC (x.1 < v14)
    (oR (Sum.inr (Sum.inr (Sum.inr x.2))))
    (oB (oGI 16517 0) fun v21 =>
    oB (oPr 152 v21) fun _ =>
    oB (oPI 19464 v21 (x.1 - 1)) fun _ =>
    oB (M_St_kindOf x.1) fun v32 =>
    oB (M_St_isText v32) fun v35 =>
    oC (v35 = 0)
      (oR (Sum.inr (Sum.inl (x.1, x.2))))
      (oB (oGI 16517 0) fun v42 =>
      oB (oPr 152 v42) fun _ =>
      oB (oGI 19462 v42) fun v45 =>
      oB (M_St_isText v45) fun v48 =>
      oC (v48 = 0)
        (oR (Sum.inr (Sum.inl (x.1, x.2))))
        (oB (M_St_kindOf x.1) fun v103 =>
        oB (M_St_valueOf x.1) fun v108 =>
        oB (M_St_joined x.2 v103 v108) fun v111 =>
        oC (0 ≤ v111.1)
          (oB (oGI 16517 0) fun v130 =>
          oB (oPr 152 v130) fun _ =>
          oB (oPI 19462 v130 4) fun _ =>
          oB (oGI 16517 0) fun v138 =>
          oB (oPr 152 v138) fun _ =>
          oB (oPL 19463 v138 v111.1.toInt64) fun _ =>
          oR (Sum.inl (x.1 + (-1), v111.2)))
          (oR (Sum.inr (Sum.inr (Sum.inl (v111.1, v111.2))))))))

noncomputable def M_St_joinOn_j95 (ln : Nat × Nat) : M (Unit × (Nat × Nat)) :=
  oB (M_St_forgetJoined) fun _ =>
  oR ((), ln)

noncomputable def M_St_joinOn_j54 (l1 : Int32) (ln : Nat × Nat) : M (Unit × (Nat × Nat)) :=
  oB (M_St_kindOf l1) fun v59 =>
  oB (M_St_valueOf l1) fun v64 =>
  oB (oGI 16517 0) fun v68 =>
  oB (oPr 152 v68) fun _ =>
  oB (oGI 19462 v68) fun v71 =>
  oB (oGI 16517 0) fun v75 =>
  oB (oPr 152 v75) fun _ =>
  oB (oGL 19463 v75) fun v78 =>
  oB (M_St_callsEither 15 v59 v64 v71 v78) fun v81 =>
  oC (v81 = 0)
    (oB (M_Ma_fail 3) fun _ =>
    M_St_joinOn_j95 ln)
    (M_St_joinOn_j95 ln)

noncomputable def M_St_joinOn (n0 : Nat × Nat)  : M (Unit × (Nat × Nat)) :=
  oB (M_St_decode) fun _ =>
  oB (oGI 16517 0) fun v5 =>
  oB (oPr 152 v5) fun _ =>
  oB (oGI 19464 v5) fun v8 =>
  oB (oW M_St_joinOn_L12 (v8, n0)) fun e12 =>
  Sum.elim
    (fun y12_54 : Int32 × (Nat × Nat) =>
      M_St_joinOn_j54 y12_54.1 y12_54.2)
    (Sum.elim
      (fun y12_119 : Int32 × (Nat × Nat) =>
        oB (M_Ma_fail (-y12_119.1)) fun _ =>
        oR ((), y12_119.2))
      (fun y12_152 : (Nat × Nat) =>
        oB (oGI 16521 0) fun v154 =>
        oB (oGI 16517 0) fun v158 =>
        oB (oPr 152 v158) fun _ =>
        oB (oGI 19462 v158) fun v161 =>
        oB (oGI 16517 0) fun v165 =>
        oB (oPr 152 v165) fun _ =>
        oB (oGL 19463 v165) fun v168 =>
        oB (M_St_set v154 v161 v168) fun _ =>
        oB (M_St_forgetJoined) fun _ =>
        oB (oPI 16396 0 0) fun _ =>
        oR ((), y12_152))) e12

noncomputable def M_Ma_boot_j161 (ln : Nat × Nat) : M (Int32 × (Nat × Nat)) :=
  oR (0, ln)

noncomputable def M_Ma_boot (n0 : Nat × Nat)  : M (Int32 × (Nat × Nat)) :=
  oB (M_He_restart) fun _ =>
  oB (M_Ta_restart) fun _ =>
  oB (oPI 14221 0 1) fun _ =>
  oB (M_Ro_clear 132 0) fun _ =>
  oB (M_Ro_clear 135 0) fun _ =>
  oB (M_Ro_clear 138 0) fun _ =>
  oB (M_Ro_clear 141 0) fun _ =>
  oB (oPI 16392 0 0) fun _ =>
  oB (oPI 16393 0 0) fun _ =>
  oB (oPI 16396 0 0) fun _ =>
  oB (M_Ta_make n0) fun v70 =>
  oB (oPI 16394 0 v70.1) fun _ =>
  oB (oGI 16394 0) fun v77 =>
  oC (v77 < 0)
    (oR (0, v70.2))
    (oB (M_Ma_internNames v70.2 60 0) fun v87 =>
    oC (v87.1 = 0)
      (oR (0, v87.2))
      (oB (M_Ma_internNames v87.2 61 24) fun v98 =>
      oC (v98.1 = 0)
        (oR (0, v98.2))
        (oB (M_Ma_internNames v98.2 62 46) fun v109 =>
        oC (v109.1 = 0)
          (oR (0, v109.2))
          (oB (oGI 16394 0) fun v123 =>
          oB (M_He_makeClosedVariable v109.2 5 v123.toInt64) fun v127 =>
          oC (v127.1 < 0)
            (M_Ma_boot_j161 v127.2)
            (oB (M_Ma_internConstants v127.2) fun v136 =>
            oC (v136.1 = 0)
              (M_Ma_boot_j161 v136.2)
              (oB (M_Ma_fillGlobals) fun v143 =>
              oC (v143 = 0)
                (M_Ma_boot_j161 v136.2)
                (oB (M_Ma_beginMain v136.2 v127.1) fun v151 =>
                oC (v151.1 = 0)
                  (M_Ma_boot_j161 v151.2)
                  (oR (1, v151.2)))))))))

noncomputable def M_LM_run_j177 (l2 : Int32) (l3 : Int32) (ln : Nat × Nat) : M ((Int32 × Int32 × (Nat × Nat)) ⊕ ((Int32 × (Nat × Nat)))) :=
  oR (Sum.inl (l2, l3 + 1, ln))

noncomputable def M_LM_run_L59 : (Int32 × Int32 × (Nat × Nat)) → M ((Int32 × Int32 × (Nat × Nat)) ⊕ ((Int32 × (Nat × Nat)))) := fun x =>
  oC (1000000000 ≤ x.2.1)
    (oR (Sum.inr (x.1, x.2.2)))
    (oB (oGI 16396 0) fun v69 =>
    oC (v69 = 0)
      (oR (Sum.inr (x.1, x.2.2)))
      (oB (oGI 16396 0) fun v79 =>
      oC (v79 = 1)
        (oB (M_Ma_enter) fun _ =>
        M_LM_run_j177 x.1 x.2.1 x.2.2)
      (oC (v79 = 2)
        (oB (M_Bu_perform x.2.2) fun v134 =>
        M_LM_run_j177 x.1 x.2.1 v134.2)
      (oC (v79 = 3)
        (oB (M_Ma_give_) fun _ =>
        M_LM_run_j177 x.1 x.2.1 x.2.2)
      (oC (v79 = 4)
        (oB (M_St_finish) fun _ =>
        M_LM_run_j177 x.1 x.2.1 x.2.2)
      (oC (v79 = 6)
        (oB (M_St_joinOn x.2.2) fun v164 =>
        M_LM_run_j177 x.1 x.2.1 v164.2)
      (oB (M_Ma_unwind) fun _ =>
      M_LM_run_j177 x.1 x.2.1 x.2.2)))))))

noncomputable def M_LM_run_j183 (l2 : Int32) (ln : Nat × Nat) : M ((Int32 × (Nat × Nat)) ⊕ (((Nat × Nat)))) :=
  oR (Sum.inl (l2 + (-1), ln))

noncomputable def M_LM_run_L36 : (Int32 × (Nat × Nat)) → M ((Int32 × (Nat × Nat)) ⊕ (((Nat × Nat)))) := fun x =>
  oC (x.1 ≤ 0)
    (oR (Sum.inr x.2))
    (oB (oGI 16392 0) fun v44 =>
    oC (v44 = 0)
      (oB (M_St_step x.2) fun v54 =>
      oB (oW M_LM_run_L59 (x.1, 0, v54.2)) fun e59 =>
      M_LM_run_j183 e59.1 e59.2)
      (oR (Sum.inr x.2)))

noncomputable def M_LM_run_j189 (ln : Nat × Nat) : M (Int32 × (Nat × Nat)) :=
  oB (oGI 16392 0) fun v193 =>
  oR (v193, ln)

noncomputable def M_LM_run (n0 : Nat × Nat) (l1 : Int32) : M (Int32 × (Nat × Nat)) :=
  oC (l1 < 1)
    (oF)
    (oC (l1 ≤ 100000)
      (oB (oGI 12801 0) fun v20 =>
      oC (v20 = 0)
        (oF)
        (oB (oW M_LM_run_L36 (l1, n0)) fun e36 =>
        M_LM_run_j189 e36))
      (oF))

noncomputable def M_LM_load (n0 : Nat × Nat)  : M (Int32 × (Nat × Nat)) :=
  oB (oGI 12800 0) fun v1 =>
  oB (oPI 12800 0 0) fun _ =>
  oB (oPI 12801 0 0) fun _ =>
  oB (M_Ch_readAll n0 v1) fun v20 =>
  oC (v20.1 = 0)
    (oF)
    (oB (M_Ch_checkAll) fun v30 =>
    oC (v30 = 0)
      (oF)
      (oB (oPI 16641 0 0) fun _ =>
      oB (M_Ma_boot v20.2) fun v56 =>
      oC (v56.1 = 0)
        (oF)
        (oB (oPI 12801 0 1) fun _ =>
        oB (oGI 12937 0) fun v79 =>
        oR (v79, v56.2))))

