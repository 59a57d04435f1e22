def M_Mo_border_L2 : (Int32 × Int64) → M ((Int32 × Int64) ⊕ ((Int64))) := fun x =>
  oB (M_Mo_raw x.1 3 (x.2 + 1)) fun v8 =>
  oC (v8 = 0)
    (oR (Sum.inr x.2))
    (oL (x.2 + 1) fun l2_17 =>
    oR (Sum.inl (x.1, l2_17)))

def M_Mo_border (l1 : Int32) : M (Int64) :=
  oB (oW M_Mo_border_L2 (l1, 0)) fun e2 =>
  oR e2

def M_Mo_next_L85 : (Int32 × Int32) → M ((Int32 × Int32) ⊕ ((Int32 × Int32))) := fun x =>
  oC (x.2 ≤ x.1)
    (oR (Sum.inr (x.1, x.2)))
    (oB (oGI 9087 0) fun v91 =>
    oB (oK (v91 = 1)) fun _ =>
    oB (oAI 70 300000 0 x.1) fun v95 =>
    oC (v95 = 0)
      (oR (Sum.inl (x.1 + 1, x.2)))
      (oR (Sum.inr (x.1, x.2))))

def M_Mo_next_j105 (l2 : Int32) (l3 : Int32) : M (Unit) :=
  oC (l2 = l3)
    (oB (M_Mo_give 0 0) fun _ =>
    oR ())
    (oB (oGI 8959 0) fun v119 =>
    oB (oK (v119 = 1)) fun _ =>
    oB (oAI 69 300000 0 l2) fun v123 =>
    oB (oGI 9215 0) fun v125 =>
    oB (oK (v125 = 1)) fun _ =>
    oB (oAL 71 300000 0 l2) fun v129 =>
    oB (M_Mo_give v123 v129) fun _ =>
    oB (oGI 9087 0) fun v138 =>
    oB (oK (v138 = 1)) fun _ =>
    oB (oAI 70 300000 0 l2) fun v142 =>
    oB (oGI 9343 0) fun v144 =>
    oB (oK (v144 = 1)) fun _ =>
    oB (oAL 72 300000 0 l2) fun v148 =>
    oB (M_Va_add 10 0 v142 v148) fun _ =>
    oR ())

def M_Mo_next_j71 (l1 : Int32) (l2 : Int32) : M (Unit) :=
  oB (oAI 62 4100 0 l1) fun v76 =>
  oB (oAI 64 4100 0 l1) fun v82 =>
  oL (v76 + v82) fun l3_84 =>
  oB (oW M_Mo_next_L85 (l2, l3_84)) fun e85 =>
  M_Mo_next_j105 e85.1 e85.2

def M_Mo_next  : M (Unit) :=
  oB (M_Mo_is 0 5) fun v3 =>
  oC (v3 = 0)
    (oB (M_Mo_raise 2) fun v11 =>
    oR ())
    (oB (M_Mo_av 0) fun v18 =>
    oB (oAI 62 4100 0 v18.toInt32) fun v28 =>
    oB (M_Mo_is 1 0) fun v33 =>
    oC (v33 = 0)
      (oB (M_Mo_ak 1) fun v43 =>
      oB (M_Mo_av 1) fun v48 =>
      oB (M_Mo_entry v18.toInt32 v43 v48) fun v51 =>
      oC (0 ≤ v51)
        (oL (v51 + 1) fun l2_70 =>
        M_Mo_next_j71 v18.toInt32 l2_70)
        (oB (M_Mo_raise 6) fun v62 =>
        oR ()))
      (M_Mo_next_j71 v18.toInt32 v28))

def M_Mo_select_j57  : M (Unit) :=
  oB (M_Mo_raise 7) fun v60 =>
  oR ()

def M_Mo_select_L75 : (Int64) → M ((Int64) ⊕ ((Unit))) := fun x =>
  oB (oGI 898 0) fun v80 =>
  oC (0 ≤ (lg_cmp x v80.toInt64))
    (oR (Sum.inr ()))
    (oB (M_Va_add_ 10 0 7 0 x.toInt32) fun _ =>
    oL (x + 1) fun l1_104 =>
    oR (Sum.inl l1_104))

def M_Mo_select_j38  : M (Unit) :=
  oB (M_Mo_is 0 3) fun v41 =>
  oC (v41 = 0)
    (M_Mo_select_j57)
    (oB (M_Mo_av 0) fun v49 =>
    oC (0 ≤ (lg_cmp v49 1))
      (oB (M_Mo_giveNone) fun _ =>
      oB (M_Mo_av 0) fun v71 =>
      oB (oW M_Mo_select_L75 v71) fun e75 =>
      oR ())
      (M_Mo_select_j57))

def M_Mo_select  : M (Unit) :=
  oB (M_Mo_is 0 4) fun v3 =>
  oC (v3 = 0)
    (M_Mo_select_j38)
    (oB (M_Mo_av 0) fun v12 =>
    oB (M_Mo_isMark v12.toInt32) fun v16 =>
    oC (v16 = 0)
      (M_Mo_select_j38)
      (oB (oGI 898 0) fun v28 =>
      oB (M_Mo_give 3 ((v28 - 1).toInt64)) fun _ =>
      oR ()))

def M_Mo_resume  : M (Unit) :=
  oB (M_Mo_is 0 7) fun v4 =>
  oC (v4 = 0)
    (oB (oPI 898 0 0) fun _ =>
    oB (M_Mo_raise 2) fun v20 =>
    oR ())
    (oB (M_Mo_av 0) fun v27 =>
    oB (oAI 62 4100 0 v27.toInt32) fun v42 =>
    oB (oK ((0 : Int32) ≤ v42 ∧ v42 < (33 : Int32))) fun _ =>
    oB (M_Mo_goesOn v42 v27.toInt32 2 (-1) 1) fun _ =>
    oR ())

def M_Mo_giveWay_L41 : (Int32 × Int32) → M ((Int32 × Int32) ⊕ ((Int32))) := fun x =>
  oB (oGI 898 0) fun v46 =>
  oC (v46 ≤ x.2)
    (oR (Sum.inr x.1))
    (oB (M_Va_add_ 10 0 7 0 x.2) fun _ =>
    oR (Sum.inl (x.1, x.2 + 1)))

def M_Mo_giveWay  : M (Unit) :=
  oB (oGI 72 0) fun v1 =>
  oB (oK ((0 : Int32) ≤ v1 ∧ v1 < (33 : Int32))) fun _ =>
  oB (oK ((0 : Int32) ≤ 0 ∧ 0 < (33 : Int32))) fun _ =>
  oC (v1 = 0)
    (oB (M_Mo_raise 9) fun v16 =>
    oR ())
    (oB (oGI 72 0) fun v22 =>
    oB (oK ((0 : Int32) ≤ v22 ∧ v22 < (33 : Int32))) fun _ =>
    oB (oPI 3585 v22 0) fun _ =>
    oB (oPI 1282 0 0) fun _ =>
    oB (oW M_Mo_giveWay_L41 (v22, 0)) fun e41 =>
    oB (oPI 898 0 0) fun _ =>
    oB (oK ((0 : Int32) ≤ e41 ∧ e41 < (33 : Int32))) fun _ =>
    oB (M_Mo_back e41) fun _ =>
    oB (oPI 73 0 2) fun _ =>
    oR ())

def M_Mo_leave_L2 : (Int32 × Int32) → M ((Int32 × Int32) ⊕ ((Int32 × Int32) ⊕ (Unit))) := fun x =>
  oB (oGI 3586 x.1) fun v4 =>
  oC (v4 ≤ x.2)
    (oR (Sum.inr (Sum.inr ())))
    (oB (oAI 30 201 x.1 x.2) fun v15 =>
    oC (v15 = 0)
      (oR (Sum.inr (Sum.inl (x.1, x.2))))
      (oR (Sum.inl (x.1, x.2 + 1))))

def M_Mo_leave (l1 : Int32) (l2 : Int32) : M (Unit) :=
  oB (oW M_Mo_leave_L2 (l1, l2)) fun e2 =>
  Sum.elim
    (fun y2_22 : Int32 × Int32 =>
      oB (oAI 33 201 y2_22.1 y2_22.2) fun v29 =>
      oB (M_Mo_close y2_22.1 v29) fun _ =>
      oR ())
    (fun y2_40 : Unit =>
      oR ()) e2

def M_Mo_halt_L26 : (Int32) → M ((Int32) ⊕ ((Unit))) := fun x =>
  oC (x = -1)
    (oR (Sum.inr ()))
    (oB (oK ((0 : Int32) ≤ x ∧ x < (33 : Int32))) fun _ =>
    oB (oGI 3590 x) fun v31 =>
    oB (oK ((0 : Int32) ≤ x ∧ x < (33 : Int32))) fun _ =>
    oB (M_Mo_leave x 0) fun _ =>
    oB (oK ((0 : Int32) ≤ x ∧ x < (33 : Int32))) fun _ =>
    oB (oPI 3586 x 0) fun _ =>
    oB (oK ((0 : Int32) ≤ x ∧ x < (33 : Int32))) fun _ =>
    oB (oPI 3585 x 3) fun _ =>
    oB (oK ((0 : Int32) ≤ x ∧ x < (33 : Int32))) fun _ =>
    oB (oPI 3590 x (-1)) fun _ =>
    oR (Sum.inl v31))

def M_Mo_halt  : M (Unit) :=
  oB (oPI 73 0 0) fun _ =>
  oB (oPI 898 0 0) fun _ =>
  oB (oPI 1282 0 0) fun _ =>
  oB (oGI 72 0) fun v22 =>
  oB (oW M_Mo_halt_L26 v22) fun e26 =>
  oB (oK ((0 : Int32) ≤ 0 ∧ 0 < (33 : Int32))) fun _ =>
  oB (oPI 72 0 0) fun _ =>
  oB (oPI 80 0 2) fun _ =>
  oB (oPI 1666 0 0) fun _ =>
  oB (oGI 64 0) fun v89 =>
  oB (oGL 65 0) fun v93 =>
  oB (M_Va_add 13 0 v89 v93) fun _ =>
  oB (oPI 64 0 0) fun _ =>
  oR ()

def M_Mo_reckon (l0 : Int32) (l1 : Int64) (l3 : Int64) : M (Int64) :=
  oC (l0 = 13)
    (oR (l1 + l3))
  (oC (l0 = 14)
    (oR (l1 - l3))
  (oC (l0 = 15)
    (oR (l1 * l3))
  (oC (l0 = 16)
    (oB (M_Mth_floorMod l1 l3) fun v82 =>
    oR v82)
  (oC (l0 = 19)
    (oB (M_Mth_floorDiv l1 l3) fun v88 =>
    oR v88)
  (oC (l0 = 20)
    (oR (l1 &&& l3))
  (oC (l0 = 21)
    (oR (l1 ||| l3))
  (oC (l0 = 22)
    (oR (l1 ^^^ l3))
  (oC (l0 = 23)
    (oB (M_Mo_shifted l1 l3) fun v106 =>
    oR v106)
  (oC (l0 = 24)
    (oC ((lg_cmp l3 (-9223372036854775808)) = 0)
      (oR 0)
      (oB (M_Mo_shifted l1 (-l3)) fun v125 =>
      oR v125))
  (oC (l0 = 25)
    (oR (-l1))
  (oR (l1 ^^^ (-1)))))))))))))

def M_Mo_gather_j92 (l1 : Int32) (l2 : Int32) (l4 : Int32) (l5 : Int32) (l6 : Int32) (k0 : Int32) (k1 : Int32) (k2 : Int32) : M ((Int32 × Int32 × Int32 × Int32 × Int32) ⊕ ((Int32 × Int32))) :=
  oB (M_Mo_addAt 7 0 k2 k1 k0 l6) fun _ =>
  oR (Sum.inl (l1, l2, l4, l5, l6 + 1))

def M_Mo_gather_L68 : (Int32 × Int32 × Int32 × Int32 × Int32) → M ((Int32 × Int32 × Int32 × Int32 × Int32) ⊕ ((Int32 × Int32))) := fun x =>
  oC (x.2.2.2.1 ≤ x.2.2.2.2)
    (oR (Sum.inr (x.1, x.2.1)))
    (oC (x.2.2.1 = 0)
      (M_Mo_gather_j92 x.1 x.2.1 x.2.2.1 x.2.2.2.1 x.2.2.2.2 1 x.2.1 x.1)
      (M_Mo_gather_j92 x.1 x.2.1 x.2.2.1 x.2.2.2.1 x.2.2.2.2 0 x.2.1 x.1))

def M_Mo_gather_j25 (l1 : Int32) (l2 : Int32) (l3 : Int32) (l4 : Int32) (k0 : Int32) : M (Int32) :=
  oB (oPI 898 0 0) fun _ =>
  oC (((k0 - l3) - 1) ≤ 250)
    (oL (l3 + 1) fun l6_66 =>
    oB (oW M_Mo_gather_L68 (l1, l2, l4, k0, l6_66)) fun e68 =>
    oB (oSI 36 201 e68.1 e68.2 0) fun _ =>
    oR 1)
    (oB (oSI 36 201 l1 l2 0) fun _ =>
    oB (M_Mo_raise 7) fun v57 =>
    oR 0)

def M_Mo_gather (l1 : Int32) (l2 : Int32) (l3 : Int32) (l4 : Int32) : M (Int32) :=
  oC (l4 ≤ 0)
    (oB (oAI 35 201 l1 l2) fun v17 =>
    oB (oAI 36 201 l1 l2) fun v23 =>
    M_Mo_gather_j25 l1 l2 l3 l4 (v17 + v23))
    (M_Mo_gather_j25 l1 l2 l3 l4 (l3 + l4))

def M_Mo_kind (l1 : Int32) : M (Int32) :=
  oB (M_Mo_none l1) fun v2 =>
  oC (v2 = 0)
    (oB (oAI 14 400 0 l1) fun v20 =>
    oR v20)
    (oR 0)

def M_Mo_formed_j231 (l1 : Int32) (l2 : Int32) (l3 : Int32) (l4 : Int32) : M (Int32) :=
  oB (M_Mo_named l1 l2 l3 l4) fun v237 =>
  oB (oK (v237 = 0 ∨ v237 = 1)) fun _ =>
  oR v237

def M_Mo_formed_j195 (l1 : Int32) (l2 : Int32) (l3 : Int32) (l4 : Int32) (l6 : Int32) : M (Int32) :=
  oC (l4 < 31)
    (M_Mo_formed_j231 l1 l2 l3 l4)
    (oC (35 < l4)
      (M_Mo_formed_j231 l1 l2 l3 l4)
      (oB (M_Mo_op l6) fun v211 =>
      oC (v211 = 30)
        (oB (M_Mo_goes (l2 + 2)) fun v223 =>
        oC (v223 = 0)
          (oR 0)
          (M_Mo_formed_j231 l1 l2 l3 l4))
        (oR 0)))

def M_Mo_formed_j161 (l1 : Int32) (l2 : Int32) (l3 : Int32) (l4 : Int32) (l6 : Int32) : M (Int32) :=
  oB (M_Mo_uses l3) fun v162 =>
  oC (v162 = 0)
    (M_Mo_formed_j195 l1 l2 l3 l4 l6)
    (oC (l2 = 0)
      (oR 0)
      (oB (oAI 49 251 0 l1) fun v181 =>
      oB (oAI 55 20001 0 ((v181 + l2) - 1)) fun v186 =>
      oB (M_Mo_makes v186) fun v187 =>
      oC (v187 = 0)
        (oR 0)
        (M_Mo_formed_j195 l1 l2 l3 l4 l6)))

def M_Mo_formed_j140 (l1 : Int32) (l2 : Int32) (l3 : Int32) (l4 : Int32) (l6 : Int32) (k0 : Int32) : M (Int32) :=
  oB (M_Mo_uses l6) fun v144 =>
  oC (v144 = 0)
    (oR 0)
    (oB (M_Mo_a l3) fun v153 =>
    oC (k0 ≤ v153)
      (M_Mo_formed_j161 l1 l2 l3 l4 l6)
      (oR 0))

def M_Mo_formed_j106 (l1 : Int32) (l2 : Int32) (l3 : Int32) (l4 : Int32) (k0 : Int32) : M (Int32) :=
  oB (M_Mo_makes l3) fun v109 =>
  oC (v109 = 0)
    (M_Mo_formed_j161 l1 l2 l3 l4 k0)
    (oB (M_Mo_op k0) fun v117 =>
    oC (v117 = 38)
      (oB (M_Mo_a k0) fun v127 =>
      M_Mo_formed_j140 l1 l2 l3 l4 k0 v127)
      (oB (M_Mo_a k0) fun v135 =>
      M_Mo_formed_j140 l1 l2 l3 l4 k0 (v135 + 1)))

def M_Mo_formed_j82 (l1 : Int32) (l2 : Int32) (l3 : Int32) (l4 : Int32) (l5 : Int32) : M (Int32) :=
  oC (l5 = 0)
    (M_Mo_formed_j106 l1 l2 l3 l4 0)
    (oB (oAI 49 251 0 l1) fun v96 =>
    oB (oAI 55 20001 0 ((v96 + l2) + 1)) fun v101 =>
    M_Mo_formed_j106 l1 l2 l3 l4 v101)

def M_Mo_formed_j52 (l1 : Int32) (l2 : Int32) (l3 : Int32) (l4 : Int32) (k0 : Int32) : M (Int32) :=
  oC (k0 = 0)
    (oC (l4 = 30)
      (M_Mo_formed_j82 l1 l2 l3 l4 k0)
      (oC (l4 = 37)
        (M_Mo_formed_j82 l1 l2 l3 l4 k0)
        (oC (l4 = 38)
          (M_Mo_formed_j82 l1 l2 l3 l4 k0)
          (oR 0))))
    (M_Mo_formed_j82 l1 l2 l3 l4 k0)

def M_Mo_formed (l1 : Int32) (l2 : Int32) : M (Int32) :=
  oB (oPI 31 0 l1) fun _ =>
  oB (oAI 44 251 0 l1) fun v11 =>
  oB (oPI 30 0 v11) fun _ =>
  oB (oAI 49 251 0 l1) fun v24 =>
  oB (oAI 55 20001 0 (v24 + l2)) fun v27 =>
  oB (M_Mo_op v27) fun v30 =>
  oB (oAI 50 251 0 l1) fun v43 =>
  oC (v43 ≤ (l2 + 1))
    (M_Mo_formed_j52 l1 l2 v27 v30 0)
    (M_Mo_formed_j52 l1 l2 v27 v30 1)

def M_Mo_follow_L53 : (Int32 × Int32) → M ((Int32 × Int32) ⊕ ((Unit))) := fun x =>
  oB (oAI 62 4100 0 x.1) fun v59 =>
  oB (oAI 64 4100 0 x.1) fun v65 =>
  oC ((v59 + v65) ≤ x.2)
    (oR (Sum.inr ()))
    (oB (oGI 8959 0) fun v72 =>
    oB (oK (v72 = 1)) fun _ =>
    oB (oAI 69 300000 0 x.2) fun v76 =>
    oB (oGI 9215 0) fun v78 =>
    oB (oK (v78 = 1)) fun _ =>
    oB (oAL 71 300000 0 x.2) fun v82 =>
    oB (M_Mo_mark v76 v82) fun _ =>
    oB (oGI 9087 0) fun v88 =>
    oB (oK (v88 = 1)) fun _ =>
    oB (oAI 70 300000 0 x.2) fun v92 =>
    oB (oGI 9343 0) fun v94 =>
    oB (oK (v94 = 1)) fun _ =>
    oB (oAL 72 300000 0 x.2) fun v98 =>
    oB (M_Mo_mark v92 v98) fun _ =>
    oR (Sum.inl (x.1, x.2 + 1)))

def M_Mo_follow_L135 : (Int32 × Int32) → M ((Int32 × Int32) ⊕ ((Unit))) := fun x =>
  oB (oAI 64 4100 0 x.1) fun v141 =>
  oC (v141 ≤ x.2)
    (oR (Sum.inr ()))
    (oB (oGI 9471 0) fun v147 =>
    oB (oK (v147 = 1)) fun _ =>
    oB (oAI 63 4100 0 x.1) fun v155 =>
    oB (oAI 73 300000 0 (v155 + x.2)) fun v158 =>
    oB (M_Mo_place v158) fun _ =>
    oR (Sum.inl (x.1, x.2 + 1)))

def M_Mo_follow (l1 : Int32) : M (Unit) :=
  oB (oAI 58 4100 0 l1) fun v5 =>
  oC (v5 = 5)
    (oB (oAI 65 4100 0 l1) fun v42 =>
    oB (M_Mo_place v42) fun _ =>
    oB (oAI 62 4100 0 l1) fun v51 =>
    oB (oW M_Mo_follow_L53 (l1, v51)) fun e53 =>
    oR ())
  (oC (v5 = 6)
    (oB (oAI 62 4100 0 l1) fun v116 =>
    oC (0 ≤ v116)
      (oB (oW M_Mo_follow_L135 (l1, 0)) fun e135 =>
      oR ())
      (oB (oAI 63 4100 0 l1) fun v126 =>
      oB (M_Mo_place v126) fun _ =>
      oR ()))
  (oC (v5 = 7)
    (oB (oAI 62 4100 0 l1) fun v200 =>
    oB (oK ((0 : Int32) ≤ v200 ∧ v200 < (33 : Int32))) fun _ =>
    oB (M_Th_reach v200) fun _ =>
    oR ())
  (oC (v5 = 8)
    (oB (M_Mo_load l1) fun _ =>
    oB (oGI 66 0) fun v178 =>
    oB (oGL 67 0) fun v182 =>
    oB (M_Mo_mark v178 v182) fun _ =>
    oR ())
  (oR ()))))

def M_Mo_sweep_j73 (l1 : Int32) (l2 : Int64) (l4 : Int32) : M ((Int32 × Int64 × Int32) ⊕ ((Int32 × Int64))) :=
  oR (Sum.inl (l1, l2, l4 + 1))

def M_Mo_sweep_L13 : (Int32 × Int64 × Int32) → M ((Int32 × Int64 × Int32) ⊕ ((Int32 × Int64))) := fun x =>
  oB (oGI 40 0) fun v16 =>
  oC (v16 ≤ x.2.2)
    (oR (Sum.inr (x.1, x.2.1)))
    (oB (oAI 58 4100 0 x.2.2) fun v28 =>
    oC (v28 = 0)
      (M_Mo_sweep_j73 x.1 x.2.1 x.2.2)
      (oB (oAI 59 4100 0 x.2.2) fun v38 =>
      oC (v38 = 0)
        (oB (oAI 58 4100 0 x.2.2) fun v51 =>
        oC (v51 = 7)
          (oB (oAI 62 4100 0 x.2.2) fun v68 =>
          oB (oK ((0 : Int32) ≤ v68 ∧ v68 < (33 : Int32))) fun _ =>
          oB (M_Mo_threadGoes v68) fun _ =>
          M_Mo_sweep_j73 x.1 x.2.1 x.2.2)
          (M_Mo_sweep_j73 x.1 x.2.1 x.2.2))
        (M_Mo_sweep_j73 x.1 x.2.1 x.2.2)))

def M_Mo_sweep_j240 (l1 : Int32) (l2 : Int64) (l4 : Int32) : M ((Int32 × Int64 × Int32) ⊕ ((Int32 × Int64))) :=
  oR (Sum.inl (l1, l2, l4 + 1))

def M_Mo_sweep_j204 (l1 : Int32) (l2 : Int64) (l4 : Int32) : M ((Int32 × Int64 × Int32) ⊕ ((Int32 × Int64))) :=
  oB (oSI 58 4100 0 l4 ((0 : Int32).toInt8.toInt32)) fun _ =>
  oB (oGI 34 0) fun v214 =>
  oB (oPI 34 0 (v214 - 1)) fun _ =>
  oB (oGI 54 0) fun v228 =>
  oB (oPI 54 0 (v228 + 1)) fun _ =>
  oB (oSI 66 4100 0 v228 l4) fun _ =>
  M_Mo_sweep_j240 l1 l2 l4

def M_Mo_sweep_L82 : (Int32 × Int64 × Int32) → M ((Int32 × Int64 × Int32) ⊕ ((Int32 × Int64))) := fun x =>
  oB (oGI 40 0) fun v85 =>
  oC (v85 ≤ x.2.2)
    (oR (Sum.inr (x.1, x.2.1)))
    (oB (oAI 58 4100 0 x.2.2) fun v97 =>
    oC (v97 = 0)
      (M_Mo_sweep_j240 x.1 x.2.1 x.2.2)
      (oB (oAI 59 4100 0 x.2.2) fun v107 =>
      oC (v107 = 0)
        (oB (oAI 58 4100 0 x.2.2) fun v120 =>
        oC (v120 = 4)
          (oB (M_Mo_unchain x.2.2) fun _ =>
          M_Mo_sweep_j204 x.1 x.2.1 x.2.2)
          (oB (oAI 58 4100 0 x.2.2) fun v140 =>
          oC (v140 = 5)
            (oB (oGI 36 0) fun v147 =>
            oB (oAI 63 4100 0 x.2.2) fun v156 =>
            oB (oPI 36 0 (v147 - v156)) fun _ =>
            M_Mo_sweep_j204 x.1 x.2.1 x.2.2)
            (oB (oAI 58 4100 0 x.2.2) fun v170 =>
            oC (v170 = 8)
              (oB (oAI 62 4100 0 x.2.2) fun v182 =>
              oC (v182 < 0)
                (M_Mo_sweep_j204 x.1 x.2.1 x.2.2)
                (oB (oAI 62 4100 0 x.2.2) fun v197 =>
                oB (oK ((0 : Int32) ≤ v197 ∧ v197 < (33 : Int32))) fun _ =>
                oB (M_Mo_forget v197 x.2.2) fun _ =>
                M_Mo_sweep_j204 x.1 x.2.1 x.2.2))
              (M_Mo_sweep_j204 x.1 x.2.1 x.2.2))))
        (M_Mo_sweep_j240 x.1 x.2.1 x.2.2)))

def M_Mo_sweep  : M (Unit) :=
  oB (oGI 66 0) fun v1 =>
  oB (oGL 67 0) fun v6 =>
  oB (oW M_Mo_sweep_L13 (v1, v6, 0)) fun e13 =>
  oB (oW M_Mo_sweep_L82 (e13.1, e13.2, 0)) fun e82 =>
  oB (oPI 66 0 e82.1) fun _ =>
  oB (oPL 67 0 e82.2) fun _ =>
  oR ()

def M_Mo_enter_j79  : M (Unit) :=
  oB (oPI 898 0 0) fun _ =>
  oB (M_Mo_raise 4) fun v89 =>
  oR ()

def M_Mo_enter_L139 : (Int32 × Int32 × Int32 × Int32 × Int32) → M ((Int32 × Int32 × Int32 × Int32 × Int32) ⊕ ((Int32 × Int32 × Int32 × Int32))) := fun x =>
  oC (x.2.2.1 ≤ x.2.2.2.2)
    (oR (Sum.inr (x.1, x.2.1, x.2.2.1, x.2.2.2.1)))
    (oB (oK ((0 : Int32) ≤ x.1 ∧ x.1 < (33 : Int32))) fun _ =>
    oB (oAI 42 251 0 x.2.1) fun v164 =>
    oB (M_Va_set_ 19 x.1 (x.2.2.2.1 + x.2.2.2.2) 7 0 (v164 + x.2.2.2.2)) fun _ =>
    oR (Sum.inl (x.1, x.2.1, x.2.2.1, x.2.2.2.1, x.2.2.2.2 + 1)))

def M_Mo_enter_j255 (l2 : Int32) (l3 : Int32) (l4 : Int32) (l5 : Int32) (l7 : Int32) : M ((Int32 × Int32 × Int32 × Int32 × Int32) ⊕ ((Unit))) :=
  oR (Sum.inl (l2, l3, l4, l5, l7 + 1))

def M_Mo_enter_j238 (l2 : Int32) (l3 : Int32) (l4 : Int32) (l5 : Int32) (l7 : Int32) : M ((Int32 × Int32 × Int32 × Int32 × Int32) ⊕ ((Unit))) :=
  oB (oK ((0 : Int32) ≤ l2 ∧ l2 < (33 : Int32))) fun _ =>
  oB (M_Va_set 19 l2 ((l5 + l4) + l7) 0 0) fun _ =>
  M_Mo_enter_j255 l2 l3 l4 l5 l7

def M_Mo_enter_L180 : (Int32 × Int32 × Int32 × Int32 × Int32) → M ((Int32 × Int32 × Int32 × Int32 × Int32) ⊕ ((Unit))) := fun x =>
  oB (oAI 44 251 0 x.2.1) fun v187 =>
  oC (v187 ≤ x.2.2.2.2)
    (oR (Sum.inr ()))
    (oB (oAI 42 251 0 x.2.1) fun v198 =>
    oC (v198 ≤ x.2.2.2.2)
      (M_Mo_enter_j238 x.1 x.2.1 x.2.2.1 x.2.2.2.1 x.2.2.2.2)
      (oB (oGI 898 0) fun v208 =>
      oC (v208 ≤ x.2.2.2.2)
        (M_Mo_enter_j238 x.1 x.2.1 x.2.2.1 x.2.2.2.1 x.2.2.2.2)
        (oB (oK ((0 : Int32) ≤ x.1 ∧ x.1 < (33 : Int32))) fun _ =>
        oB (M_Va_set_ 19 x.1 ((x.2.2.2.1 + x.2.2.1) + x.2.2.2.2) 7 0 x.2.2.2.2) fun _ =>
        M_Mo_enter_j255 x.1 x.2.1 x.2.2.1 x.2.2.2.1 x.2.2.2.2)))

def M_Mo_enter_j44 (l1 : Int32) (l2 : Int32) (l3 : Int32) (l4 : Int32) : M (Unit) :=
  oB (oK ((0 : Int32) ≤ l2 ∧ l2 < (33 : Int32))) fun _ =>
  oB (M_Mo_topOf l2) fun v46 =>
  oB (oK ((0 : Int32) ≤ l2 ∧ l2 < (33 : Int32))) fun _ =>
  oB (oGI 3586 l2) fun v52 =>
  oC (v52 = 200)
    (M_Mo_enter_j79)
    (oB (oAI 44 251 0 l3) fun v71 =>
    oC (((v46 + l4) + v71) ≤ 4000)
      (oB (M_Mo_push 0 l1) fun v97 =>
      oB (oK ((0 : Int32) ≤ l2 ∧ l2 < (33 : Int32))) fun _ =>
      oB (M_Th_top l2) fun v102 =>
      oB (oK ((0 : Int32) ≤ l2 ∧ l2 < (33 : Int32))) fun _ =>
      oB (oSI 32 201 l2 v102 0) fun _ =>
      oB (oK ((0 : Int32) ≤ l2 ∧ l2 < (33 : Int32))) fun _ =>
      oB (oSI 34 201 l2 v102 l4) fun _ =>
      oB (oK ((0 : Int32) ≤ l2 ∧ l2 < (33 : Int32))) fun _ =>
      oB (oSI 33 201 l2 v102 (v46 + l4)) fun _ =>
      oB (oW M_Mo_enter_L139 (l2, l3, l4, v46, 0)) fun e139 =>
      oB (oW M_Mo_enter_L180 (e139.1, e139.2.1, e139.2.2.1, e139.2.2.2, 0)) fun e180 =>
      oB (oPI 898 0 0) fun _ =>
      oR ())
      (M_Mo_enter_j79))

def M_Mo_enter (l1 : Int32) : M (Unit) :=
  oB (oGI 72 0) fun v1 =>
  oB (oAI 62 4100 0 l1) fun v10 =>
  oB (oGI 898 0) fun v17 =>
  oB (oAI 42 251 0 v10) fun v25 =>
  oB (M_Mth_max 0 (v17 - v25)) fun v27 =>
  oB (oAI 43 251 0 v10) fun v37 =>
  oC (v37 = 0)
    (M_Mo_enter_j44 l1 v1 v10 0)
    (M_Mo_enter_j44 l1 v1 v10 v27)

def M_Mo_meta (l1 : Int32) (l2 : Int64) (l4 : Int32) : M (Int32) :=
  oB (oPI 66 0 0) fun _ =>
  oC (l1 = 5)
    (oB (oAI 65 4100 0 l2.toInt32) fun v16 =>
    oC (0 ≤ v16)
      (oB (oAI 65 4100 0 l2.toInt32) fun v29 =>
      oB (oAI 82 22 0 l4) fun v37 =>
      oB (M_Mo_raw v29 4 v37.toInt64) fun v39 =>
      oB (oK (v39 = 0 ∨ v39 = 1)) fun _ =>
      oR v39)
      (oR 0))
    (oR 0)

def M_Mo_either_j24 (l2 : Int32) (l3 : Int64) (l5 : Int32) (l6 : Int64) : M (Int32) :=
  oB (oGI 66 0) fun v25 =>
  oB (oGL 67 0) fun v31 =>
  oB (M_Mo_arguments l2 l3 l5 l6) fun _ =>
  oB (oPI 75 0 v25) fun _ =>
  oB (oPL 76 0 v31) fun _ =>
  oB (oPI 73 0 1) fun _ =>
  oR 1

def M_Mo_either (l1 : Int32) (l2 : Int32) (l3 : Int64) (l5 : Int32) (l6 : Int64) : M (Int32) :=
  oB (M_Mo_meta l2 l3 l1) fun v4 =>
  oC (v4 = 0)
    (oB (M_Mo_meta l5 l6 l1) fun v16 =>
    oC (v16 = 0)
      (oR 0)
      (M_Mo_either_j24 l2 l3 l5 l6))
    (M_Mo_either_j24 l2 l3 l5 l6)

def M_Mo_error_L31 : (Int32 × Int32) → M ((Int32 × Int32) ⊕ ((Int32 × Int32))) := fun x =>
  oC (x.2 < 0)
    (oR (Sum.inr (x.1, x.2)))
    (oB (oK ((0 : Int32) ≤ x.1 ∧ x.1 < (33 : Int32))) fun _ =>
    oB (oAI 30 201 x.1 x.2) fun v40 =>
    oC (v40 = 1)
      (oR (Sum.inr (x.1, x.2)))
      (oR (Sum.inl (x.1, x.2 + (-1)))))

def M_Mo_error_j194 (k0 : Int32) : M (Unit) :=
  oB (oGI 72 0) fun v197 =>
  oB (oK ((0 : Int32) ≤ v197 ∧ v197 < (33 : Int32))) fun _ =>
  oB (oGI 3586 v197) fun v201 =>
  oB (oPI 3586 v197 (v201 - 1)) fun _ =>
  oC (k0 = 0)
    (oB (M_Va_add 10 0 1 0) fun _ =>
    oB (oGI 64 0) fun v234 =>
    oB (oGL 65 0) fun v238 =>
    oB (M_Va_add 10 0 v234 v238) fun _ =>
    oB (oPI 64 0 0) fun _ =>
    oB (oPI 73 0 2) fun _ =>
    oR ())
    (oB (oPI 73 0 3) fun _ =>
    oR ())

def M_Mo_error_j51 (l1 : Int32) (l2 : Int32) : M (Unit) :=
  oC (l2 < 0)
    (oB (oK ((0 : Int32) ≤ l1 ∧ l1 < (33 : Int32))) fun _ =>
    oB (M_Mo_leave l1 0) fun _ =>
    oB (oK ((0 : Int32) ≤ l1 ∧ l1 < (33 : Int32))) fun _ =>
    oB (oPI 3586 l1 0) fun _ =>
    oB (oK ((0 : Int32) ≤ l1 ∧ l1 < (33 : Int32))) fun _ =>
    oB (oPI 3585 l1 3) fun _ =>
    oB (oK ((0 : Int32) ≤ l1 ∧ l1 < (33 : Int32))) fun _ =>
    oB (oK ((0 : Int32) ≤ 0 ∧ 0 < (33 : Int32))) fun _ =>
    oC (l1 = 0)
      (oB (oPI 80 0 2) fun _ =>
      oB (oPI 1666 0 0) fun _ =>
      oB (oGI 64 0) fun v147 =>
      oB (oGL 65 0) fun v151 =>
      oB (M_Va_add 13 0 v147 v151) fun _ =>
      oB (oPI 64 0 0) fun _ =>
      oR ())
      (oB (oK ((0 : Int32) ≤ l1 ∧ l1 < (33 : Int32))) fun _ =>
      oB (M_Mo_back l1) fun _ =>
      oB (oGI 72 0) fun v169 =>
      oB (oK ((0 : Int32) ≤ v169 ∧ v169 < (33 : Int32))) fun _ =>
      oB (M_Th_top v169) fun v172 =>
      oB (oGI 72 0) fun v177 =>
      oB (oK ((0 : Int32) ≤ v177 ∧ v177 < (33 : Int32))) fun _ =>
      oB (oAI 30 201 v177 v172) fun v184 =>
      oC (v184 = 3)
        (M_Mo_error_j194 1)
        (M_Mo_error_j194 0)))
    (oB (oK ((0 : Int32) ≤ l1 ∧ l1 < (33 : Int32))) fun _ =>
    oB (M_Mo_leave l1 (l2 + 1)) fun _ =>
    oB (oK ((0 : Int32) ≤ l1 ∧ l1 < (33 : Int32))) fun _ =>
    oB (oPI 3586 l1 l2) fun _ =>
    oB (M_Va_add 10 0 1 0) fun _ =>
    oB (oGI 64 0) fun v82 =>
    oB (oGL 65 0) fun v86 =>
    oB (M_Va_add 10 0 v82 v86) fun _ =>
    oB (oPI 64 0 0) fun _ =>
    oB (oPI 73 0 2) fun _ =>
    oR ())

def M_Mo_error  : M (Unit) :=
  oB (oPI 73 0 0) fun _ =>
  oB (oPI 898 0 0) fun _ =>
  oB (oPI 1282 0 0) fun _ =>
  oB (oGI 72 0) fun v22 =>
  oB (oK ((0 : Int32) ≤ v22 ∧ v22 < (33 : Int32))) fun _ =>
  oB (M_Th_top v22) fun v27 =>
  oB (oW M_Mo_error_L31 (v22, v27)) fun e31 =>
  M_Mo_error_j51 e31.1 e31.2

def M_Mo_index_L9 : (Int32 × Int64 × Int32 × Int32 × Int64 × Int32) → M ((Int32 × Int64 × Int32 × Int32 × Int64 × Int32) ⊕ ((Unit) ⊕ (Int32 × Int32 × Int64) ⊕ (Int32 × Int64 × Int32 × Int32 × Int64) ⊕ (Unit))) := fun x =>
  oC (x.2.2.2.1 = 5)
    (oB (M_Mo_raw x.2.2.2.2.1.toInt32 x.1 x.2.1) fun v30 =>
    oB (oGI 66 0) fun v36 =>
    oB (oGL 67 0) fun v42 =>
    oC (v30 = 0)
      (oB (M_Mo_meta x.2.2.2.1 x.2.2.2.2.1 0) fun v58 =>
      oC (v58 = 0)
        (oR (Sum.inr (Sum.inr (Sum.inl (x.2.2.1, v36, v42)))))
        (oB (oGI 66 0) fun v102 =>
        oC (v102 = 6)
          (oR (Sum.inr (Sum.inr (Sum.inr (Sum.inl (x.1, x.2.1, x.2.2.1, x.2.2.2.1, x.2.2.2.2.1))))))
          (oC (x.2.2.2.2.2 = 100)
            (oR (Sum.inr (Sum.inr (Sum.inr (Sum.inr ())))))
            (oB (oGI 66 0) fun v150 =>
            oB (oGL 67 0) fun v156 =>
            oR (Sum.inl (x.1, x.2.1, x.2.2.1, v150, v156, x.2.2.2.2.2 + 1))))))
      (oR (Sum.inr (Sum.inr (Sum.inl (x.2.2.1, v36, v42))))))
    (oR (Sum.inr (Sum.inl ())))

def M_Mo_index_j64 (l7 : Int32) (l13 : Int32) (l14 : Int64) : M (Unit) :=
  oB (oGI 72 0) fun v65 =>
  oB (oK ((0 : Int32) ≤ v65 ∧ v65 < (33 : Int32))) fun _ =>
  oB (M_Th_top v65) fun v68 =>
  oB (oGI 72 0) fun v74 =>
  oB (oK ((0 : Int32) ≤ v74 ∧ v74 < (33 : Int32))) fun _ =>
  oB (oGI 72 0) fun v81 =>
  oB (oK ((0 : Int32) ≤ v81 ∧ v81 < (33 : Int32))) fun _ =>
  oB (oAI 33 201 v81 v68) fun v89 =>
  oB (M_Va_set 19 v74 (v89 + l7) l13 l14) fun _ =>
  oR ()

def M_Mo_index (l1 : Int32) (l2 : Int64) (l4 : Int32) (l5 : Int64) (l7 : Int32) : M (Unit) :=
  oB (oW M_Mo_index_L9 (l4, l5, l7, l1, l2, 1)) fun e9 =>
  Sum.elim
    (fun y9_15 : Unit =>
      oB (M_Mo_raise 2) fun v17 =>
      oR ())
    (Sum.elim
      (fun y9_64 : Int32 × Int32 × Int64 =>
        M_Mo_index_j64 y9_64.1 y9_64.2.1 y9_64.2.2)
      (Sum.elim
        (fun y9_110 : Int32 × Int64 × Int32 × Int32 × Int64 =>
          oB (M_Mo_arguments y9_110.2.2.2.1 y9_110.2.2.2.2 y9_110.1 y9_110.2.1) fun _ =>
          oB (M_Mo_expect 1 y9_110.2.2.1 1) fun _ =>
          oB (M_Mo_callGot) fun _ =>
          oR ())
        (fun y9_142 : Unit =>
          oB (M_Mo_raise 4) fun v144 =>
          oR ()))) e9

def M_Mo_self (l1 : Int32) (l2 : Int32) (l3 : Int32) (l4 : Int32) (l5r : Nat) (l5 : Int32) (l6 : Int32) : M (Unit) :=
  oB (oAI 33 201 l1 l2) fun v10 =>
  oB (M_Mo_b l4) fun v13 =>
  oB (oAI (l5r + 1) (lnI (l5r + 1)) l5 (v10 + v13)) fun v17 =>
  oB (oAI 33 201 l1 l2) fun v30 =>
  oB (M_Mo_b l4) fun v33 =>
  oB (oAL (l5r + 2) (lnI (l5r + 2)) l5 (v30 + v33)) fun v37 =>
  oB (M_Va_set l5r l5 (l6 + 1) v17 v37) fun _ =>
  oB (M_Mo_c l4) fun v59 =>
  oB (M_Mo_rk_ l1 l2 l3 v59) fun _ =>
  oB (oGI 98 0) fun v71 =>
  oB (oGL 99 0) fun v75 =>
  oB (M_Mo_a l4) fun v80 =>
  oB (M_Mo_index v17 v37 v71 v75 v80) fun _ =>
  oR ()

def M_Mo_arithmetic_j118 (l4 : Int32) (l5 : Int32) (l8 : Int32) (l9 : Int64) (l11 : Int32) (l12 : Int64) : M (Unit) :=
  oB (M_Mo_a l4) fun v122 =>
  oB (M_Mo_expect 1 v122 1) fun _ =>
  oB (M_Mo_eventOf l5) fun v132 =>
  oB (M_Mo_either v132 l8 l9 l11 l12) fun v143 =>
  oC (v143 = 0)
    (oB (M_Mo_raise 3) fun v151 =>
    oR ())
    (oR ())

def M_Mo_arithmetic_j188 (l5 : Int32) (l6r : Nat) (l6 : Int32) (l7 : Int32) (l9 : Int64) (l12 : Int64) : M (Unit) :=
  oB (M_Mo_reckon l5 l9 l12) fun v199 =>
  oB (M_Va_set l6r l6 l7 3 v199) fun _ =>
  oR ()

def M_Mo_arithmetic_j172 (l5 : Int32) (l6r : Nat) (l6 : Int32) (l7 : Int32) (l9 : Int64) (l12 : Int64) : M (Unit) :=
  oC ((lg_cmp l12 0) = 0)
    (oB (M_Mo_raise 5) fun v181 =>
    oR ())
    (M_Mo_arithmetic_j188 l5 l6r l6 l7 l9 l12)

def M_Mo_arithmetic_j106 (l4 : Int32) (l5 : Int32) (l6r : Nat) (l6 : Int32) (l7 : Int32) (l8 : Int32) (l9 : Int64) (l11 : Int32) (l12 : Int64) : M (Unit) :=
  oC (l8 = 3)
    (oC (l11 = 3)
      (oC (l5 = 16)
        (M_Mo_arithmetic_j172 l5 l6r l6 l7 l9 l12)
        (oC (l5 = 19)
          (M_Mo_arithmetic_j172 l5 l6r l6 l7 l9 l12)
          (M_Mo_arithmetic_j188 l5 l6r l6 l7 l9 l12)))
      (M_Mo_arithmetic_j118 l4 l5 l8 l9 l11 l12))
    (M_Mo_arithmetic_j118 l4 l5 l8 l9 l11 l12)

def M_Mo_arithmetic (l1 : Int32) (l2 : Int32) (l3 : Int32) (l4 : Int32) (l5 : Int32) (l6r : Nat) (l6 : Int32) (l7 : Int32) : M (Unit) :=
  oC (l5 ≤ 24)
    (oB (M_Mo_b l4) fun v64 =>
    oB (M_Mo_rk_ l1 l2 l3 v64) fun _ =>
    oB (oGI 98 0) fun v71 =>
    oB (oGL 99 0) fun v77 =>
    oB (M_Mo_c l4) fun v88 =>
    oB (M_Mo_rk_ l1 l2 l3 v88) fun _ =>
    oB (oGI 98 0) fun v95 =>
    oB (oGL 99 0) fun v101 =>
    M_Mo_arithmetic_j106 l4 l5 l6r l6 l7 v71 v77 v95 v101)
    (oB (oAI 33 201 l1 l2) fun v17 =>
    oB (M_Mo_b l4) fun v20 =>
    oB (oAI (l6r + 1) (lnI (l6r + 1)) l6 (v17 + v20)) fun v24 =>
    oB (oAI 33 201 l1 l2) fun v37 =>
    oB (M_Mo_b l4) fun v40 =>
    oB (oAL (l6r + 2) (lnI (l6r + 2)) l6 (v37 + v40)) fun v44 =>
    M_Mo_arithmetic_j106 l4 l5 l6r l6 l7 v24 v44 v24 v44)

def M_Mo_length (l1 : Int32) (l2 : Int32) (l3 : Int64) (l5r : Nat) (l5 : Int32) (l6 : Int32) : M (Unit) :=
  oC (l2 = 4)
    (oB (oAI 63 4100 0 l3.toInt32) fun v16 =>
    oB (M_Va_set l5r l5 l6 3 v16.toInt64) fun _ =>
    oR ())
    (oC (l2 = 5)
      (oB (M_Mo_meta l2 l3 16) fun v43 =>
      oC (v43 = 0)
        (oB (M_Mo_border l3.toInt32) fun v113 =>
        oB (M_Va_set l5r l5 l6 3 v113) fun _ =>
        oR ())
        (oB (oGI 66 0) fun v50 =>
        oB (oGL 67 0) fun v56 =>
        oB (oPI 898 0 0) fun _ =>
        oB (M_Va_add 7 0 l2 l3) fun _ =>
        oB (M_Mo_expect 1 l1 1) fun _ =>
        oB (oPI 75 0 v50) fun _ =>
        oB (oPL 76 0 v56) fun _ =>
        oB (oPI 73 0 1) fun _ =>
        oR ()))
      (oB (M_Mo_raise 2) fun v31 =>
      oR ()))

def M_Mo_compare_j261 (l6 : Int32) (l7 : Int64) (l9 : Int32) (l10 : Int64) (k0 : Int32) : M (Unit) :=
  oB (M_Mo_either k0 l6 l7 l9 l10) fun v269 =>
  oC (v269 = 0)
    (oB (M_Mo_raise 3) fun v277 =>
    oR ())
    (oR ())

def M_Mo_compare_j235 (l4 : Int32) (l5 : Int32) (l6 : Int32) (l7 : Int64) (l9 : Int32) (l10 : Int64) : M (Unit) :=
  oB (M_Mo_a l4) fun v239 =>
  oB (M_Mo_expect 2 v239 1) fun _ =>
  oC (l5 = 32)
    (M_Mo_compare_j261 l6 l7 l9 l10 18)
    (M_Mo_compare_j261 l6 l7 l9 l10 19)

def M_Mo_compare_j298 (l1 : Int32) (l2 : Int32) (k0 : Int32) (k1 : Int32) : M (Unit) :=
  oC (k1 = k0)
    (oR ())
    (oB (oAI 32 201 l1 l2) fun v307 =>
    oB (oSI 32 201 l1 l2 (v307 + 1)) fun _ =>
    oR ())

def M_Mo_compare_j282 (l1 : Int32) (l2 : Int32) (l4 : Int32) (l12 : Int32) : M (Unit) :=
  oB (M_Mo_a l4) fun v286 =>
  oC (v286 = 1)
    (M_Mo_compare_j298 l1 l2 1 l12)
    (M_Mo_compare_j298 l1 l2 0 l12)

def M_Mo_compare_j230 (l1 : Int32) (l2 : Int32) (l4 : Int32) (k0 : Int32) : M (Unit) :=
  M_Mo_compare_j282 l1 l2 l4 k0

def M_Mo_compare_j176 (l1 : Int32) (l2 : Int32) (l4 : Int32) (l5 : Int32) (l6 : Int32) (l7 : Int64) (l9 : Int32) (l10 : Int64) : M (Unit) :=
  oC (l6 = 4)
    (oC (l9 = 4)
      (oB (M_Mo_order l7.toInt32 l10.toInt32) fun v195 =>
      oC (l5 = 32)
        (oC (0 ≤ v195)
          (M_Mo_compare_j230 l1 l2 l4 0)
          (M_Mo_compare_j230 l1 l2 l4 1))
        (oC (0 < v195)
          (M_Mo_compare_j230 l1 l2 l4 0)
          (M_Mo_compare_j230 l1 l2 l4 1)))
      (M_Mo_compare_j235 l4 l5 l6 l7 l9 l10))
    (M_Mo_compare_j235 l4 l5 l6 l7 l9 l10)

def M_Mo_compare_j171 (l1 : Int32) (l2 : Int32) (l4 : Int32) (k0 : Int32) : M (Unit) :=
  M_Mo_compare_j282 l1 l2 l4 k0

def M_Mo_compare_j75 (l1 : Int32) (l2 : Int32) (l4 : Int32) (l6 : Int32) (l7 : Int64) (l9 : Int32) (l10 : Int64) (k0 : Int32) : M (Unit) :=
  oC (k0 = 0)
    (oC (l6 = 5)
      (oC (l9 = 5)
        (oB (M_Mo_a l4) fun v98 =>
        oB (M_Mo_expect 2 v98 1) fun _ =>
        oB (M_Mo_either 17 l6 l7 l9 l10) fun v116 =>
        oC (v116 = 0)
          (M_Mo_compare_j282 l1 l2 l4 k0)
          (oR ()))
        (M_Mo_compare_j282 l1 l2 l4 k0))
      (M_Mo_compare_j282 l1 l2 l4 k0))
    (M_Mo_compare_j282 l1 l2 l4 k0)

def M_Mo_compare_j74 (l1 : Int32) (l2 : Int32) (l4 : Int32) (l6 : Int32) (l7 : Int64) (l9 : Int32) (l10 : Int64) : M (Unit) :=
  M_Mo_compare_j75 l1 l2 l4 l6 l7 l9 l10 0

def M_Mo_compare (l1 : Int32) (l2 : Int32) (l3 : Int32) (l4 : Int32) (l5 : Int32) : M (Unit) :=
  oB (M_Mo_b l4) fun v6 =>
  oB (M_Mo_rk_ l1 l2 l3 v6) fun _ =>
  oB (oGI 98 0) fun v13 =>
  oB (oGL 99 0) fun v19 =>
  oB (M_Mo_c l4) fun v30 =>
  oB (M_Mo_rk_ l1 l2 l3 v30) fun _ =>
  oB (oGI 98 0) fun v37 =>
  oB (oGL 99 0) fun v43 =>
  oC (l5 = 31)
    (oC (v13 = v37)
      (oC ((lg_cmp v19 v43) = 0)
        (M_Mo_compare_j75 l1 l2 l4 v13 v19 v37 v43 1)
        (M_Mo_compare_j74 l1 l2 l4 v13 v19 v37 v43))
      (M_Mo_compare_j74 l1 l2 l4 v13 v19 v37 v43))
    (oC (v13 = 3)
      (oC (v37 = 3)
        (oC (l5 = 32)
          (oC (0 ≤ (lg_cmp v19 v43))
            (M_Mo_compare_j171 l1 l2 l4 0)
            (M_Mo_compare_j171 l1 l2 l4 1))
          (oC (0 < (lg_cmp v19 v43))
            (M_Mo_compare_j171 l1 l2 l4 0)
            (M_Mo_compare_j171 l1 l2 l4 1)))
        (M_Mo_compare_j176 l1 l2 l4 l5 v13 v19 v37 v43))
      (M_Mo_compare_j176 l1 l2 l4 l5 v13 v19 v37 v43))

def M_Mo_lookOver_j65 (l1 : Int32) (l2 : Int32) : M ((Int32 × Int32) ⊕ ((Int32))) :=
  oR (Sum.inl (l1, l2 + 1))

def M_Mo_lookOver_L19 : (Int32 × Int32) → M ((Int32 × Int32) ⊕ ((Int32))) := fun x =>
  oB (oAI 50 251 0 x.1) fun v25 =>
  oC (v25 ≤ x.2)
    (oR (Sum.inr x.1))
    (oB (oGI 3 0) fun v30 =>
    oC (v30 = 0)
      (oB (M_Mo_formed x.1 x.2) fun v39 =>
      oC (v39 = 0)
        (oB (oAI 49 251 0 x.1) fun v57 =>
        oB (oAI 56 20001 0 (v57 + x.2)) fun v60 =>
        oB (M_Mo_bad 6 v60) fun v61 =>
        M_Mo_lookOver_j65 x.1 x.2)
        (M_Mo_lookOver_j65 x.1 x.2))
      (oR (Sum.inr x.1)))

def M_Mo_lookOver_j71 (l1 : Int32) : M ((Int32) ⊕ ((Unit))) :=
  oR (Sum.inl (l1 + 1))

def M_Mo_lookOver_L2 : (Int32) → M ((Int32) ⊕ ((Unit))) := fun x =>
  oB (oGI 23 0) fun v4 =>
  oC (v4 ≤ x)
    (oR (Sum.inr ()))
    (oB (oGI 3 0) fun v11 =>
    oC (v11 = 0)
      (oB (oW M_Mo_lookOver_L19 (x, 0)) fun e19 =>
      M_Mo_lookOver_j71 e19)
      (oR (Sum.inr ())))

def M_Mo_lookOver  : M (Unit) :=
  oB (oW M_Mo_lookOver_L2 0) fun e2 =>
  oR ()

def M_Mo_collection_j61 (l1 : Int32) : M ((Int32) ⊕ ((Unit))) :=
  oR (Sum.inl (l1 + 1))

def M_Mo_collection_L30 : (Int32) → M ((Int32) ⊕ ((Unit))) := fun x =>
  oB (oGI 40 0) fun v32 =>
  oC (v32 ≤ x)
    (oR (Sum.inr ()))
    (oB (oAI 58 4100 0 x) fun v43 =>
    oC (v43 = 0)
      (M_Mo_collection_j61 x)
      (oB (oAI 60 4100 0 x) fun v52 =>
      oC (v52 = 0)
        (M_Mo_collection_j61 x)
        (oB (M_Mo_place x) fun _ =>
        M_Mo_collection_j61 x)))

def M_Mo_collection_L104 : (Int32) → M ((Int32) ⊕ ((Unit))) := fun x =>
  oB (oK ((0 : Int32) ≤ x ∧ x < (33 : Int32))) fun _ =>
  oB (oGI 3590 x) fun v105 =>
  oC (v105 = -1)
    (oR (Sum.inr ()))
    (oB (oK ((0 : Int32) ≤ x ∧ x < (33 : Int32))) fun _ =>
    oB (oGI 3590 x) fun v113 =>
    oB (oK ((0 : Int32) ≤ v113 ∧ v113 < (33 : Int32))) fun _ =>
    oB (oGI 3584 v113) fun v116 =>
    oB (M_Mo_place v116) fun _ =>
    oB (oK ((0 : Int32) ≤ x ∧ x < (33 : Int32))) fun _ =>
    oB (oGI 3590 x) fun v123 =>
    oR (Sum.inl v123))

def M_Mo_collection_L218 : (Unit) → M ((Unit) ⊕ ((Unit))) := fun x =>
  oB (oGI 69 0) fun v219 =>
  oC (v219 ≤ 0)
    (oR (Sum.inr ()))
    (oB (oGI 69 0) fun v232 =>
    oB (oPI 69 0 (v232 - 1)) fun _ =>
    oB (oAI 75 4100 0 (v232 - 1)) fun v241 =>
    oB (M_Mo_follow v241) fun _ =>
    oR (Sum.inl ()))

def M_Mo_collection  : M (Unit) :=
  oB (oGI 35 0) fun v2 =>
  oB (oPI 35 0 (v2 + 1)) fun _ =>
  oB (oGI 40 0) fun v16 =>
  oB (M_Arr_fill____ 59 0 0 v16 0) fun _ =>
  oB (oPI 69 0 0) fun _ =>
  oB (oW M_Mo_collection_L30 0) fun e30 =>
  oB (oGI 74 0) fun v69 =>
  oB (M_Mo_place v69) fun _ =>
  oB (oK ((0 : Int32) ≤ 0 ∧ 0 < (33 : Int32))) fun _ =>
  oB (oGI 3584 0) fun v82 =>
  oB (M_Mo_place v82) fun _ =>
  oB (oGI 72 0) fun v90 =>
  oB (oK ((0 : Int32) ≤ v90 ∧ v90 < (33 : Int32))) fun _ =>
  oB (oGI 3584 v90) fun v93 =>
  oB (M_Mo_place v93) fun _ =>
  oB (oGI 72 0) fun v100 =>
  oB (oW M_Mo_collection_L104 v100) fun e104 =>
  oB (oGI 2050 0) fun v140 =>
  oB (M_Mo_markRow 16 0 0 v140) fun _ =>
  oB (oGI 898 0) fun v156 =>
  oB (M_Mo_markRow 7 0 0 v156) fun _ =>
  oB (oGI 1282 0) fun v172 =>
  oB (M_Mo_markRow 10 0 0 v172) fun _ =>
  oB (oGI 64 0) fun v180 =>
  oB (oGL 65 0) fun v184 =>
  oB (M_Mo_mark v180 v184) fun _ =>
  oB (oGI 1666 0) fun v200 =>
  oB (M_Mo_markRow 13 0 0 v200) fun _ =>
  oB (oGI 75 0) fun v208 =>
  oB (oGL 76 0) fun v212 =>
  oB (M_Mo_mark v208 v212) fun _ =>
  oB (oW M_Mo_collection_L218 ()) fun e218 =>
  oB (M_Mo_sweep) fun _ =>
  oR ()

def M_Mo_grow_j59 (l1 : Int32) (l2 : Int32) : M (Int32) :=
  oB (oGI 36 0) fun v60 =>
  oC ((v60 + l2) ≤ 40000)
    (oB (oGI 37 0) fun v82 =>
    oB (oPI 37 0 (v82 + l2)) fun _ =>
    oB (oGI 43 0) fun v92 =>
    oB (oPI 43 0 (v92 + l2)) fun _ =>
    oB (oGI 36 0) fun v102 =>
    oB (oAI 63 4100 0 l1) fun v111 =>
    oB (oPI 36 0 (v102 + (l2 - v111))) fun _ =>
    oB (oGI 41 0) fun v118 =>
    oB (oGI 41 0) fun v124 =>
    oB (oPI 41 0 (v124 + l2)) fun _ =>
    oB (M_Mo_move l1 v118 l2) fun _ =>
    oR 1)
    (oB (M_Mo_raise 10) fun v74 =>
    oR 0)

def M_Mo_grow_j21 (l1 : Int32) (k0 : Int32) : M (Int32) :=
  oB (oGI 43 0) fun v23 =>
  oC ((v23 + k0) ≤ 300000)
    (oB (oGI 36 0) fun v44 =>
    oC ((v44 + k0) ≤ 40000)
      (M_Mo_grow_j59 l1 k0)
      (oB (M_Mo_collection) fun _ =>
      M_Mo_grow_j59 l1 k0))
    (oB (M_Mo_raise 11) fun v37 =>
    oR 0)

def M_Mo_grow (l1 : Int32) : M (Int32) :=
  oB (oAI 63 4100 0 l1) fun v5 =>
  oC (v5 = 0)
    (M_Mo_grow_j21 l1 4)
    (oB (oAI 63 4100 0 l1) fun v19 =>
    M_Mo_grow_j21 l1 (2 * v19))

def M_Mo_collect_j19 (k0 : Int32) (k1 : Int32) : M (Int32) :=
  oB (M_Mo_refuse k1 k0) fun v19 =>
  oC (v19 = 0)
    (oB (M_Mo_collection) fun _ =>
    oB (oGI 34 0) fun v32 =>
    oR v32)
    (oR 0)

def M_Mo_collect  : M (Int32) :=
  oB (oPI 2 0 0) fun _ =>
  oB (oGI 5 0) fun v8 =>
  oC (v8 = 0)
    (M_Mo_collect_j19 1 1)
    (M_Mo_collect_j19 0 1)

def M_Mo_may_j82  : M (Int32) :=
  oB (M_Mo_raise 10) fun v85 =>
  oR 0

def M_Mo_may_j56 (l1 : Int32) : M (Int32) :=
  oB (oGI 34 0) fun v57 =>
  oB (oGI 32 0) fun v61 =>
  oC (v61 ≤ v57)
    (M_Mo_may_j82)
    (oC (l1 = 0)
      (oR 1)
      (oB (oGI 39 0) fun v72 =>
      oC (32 ≤ v72)
        (M_Mo_may_j82)
        (oR 1)))

def M_Mo_may_j45 (l1 : Int32) : M (Int32) :=
  oB (oGI 92 0) fun v46 =>
  oC (v46 = 0)
    (oB (M_Mo_collection) fun _ =>
    M_Mo_may_j56 l1)
    (M_Mo_may_j56 l1)

def M_Mo_may (l1 : Int32) : M (Int32) :=
  oB (oGI 42 0) fun v1 =>
  oC (v1 = 60000)
    (oB (M_Mo_raise 11) fun v13 =>
    oR 0)
    (oB (oGI 34 0) fun v20 =>
    oB (oGI 32 0) fun v24 =>
    oC (v24 ≤ v20)
      (M_Mo_may_j45 l1)
      (oC (l1 = 0)
        (oR 1)
        (oB (oGI 39 0) fun v35 =>
        oC (32 ≤ v35)
          (M_Mo_may_j45 l1)
          (oR 1))))

def M_Mo_newVariable  : M (Int32) :=
  oB (M_Mo_may 0) fun v2 =>
  oC (v2 = 0)
    (oR (-1))
    (oB (M_Mo_object 8) fun v13 =>
    oB (oSI 62 4100 0 v13 (-1)) fun _ =>
    oB (M_Va_set 4 0 v13 0 0) fun _ =>
    oR v13)

def M_Mo_put_j192 (l1 : Int32) (l2 : Int32) (l3 : Int64) (l5 : Int32) (l6 : Int64) : M (Int32) :=
  oB (M_Mo_append l1 l2 l3 l5 l6) fun _ =>
  oR 1

def M_Mo_put_j174 (l1 : Int32) (l2 : Int32) (l3 : Int64) (l5 : Int32) (l6 : Int64) (l9 : Int32) (k0 : Int32) : M (Int32) :=
  oB (oPI 2050 0 l9) fun _ =>
  oC (k0 = 0)
    (oR 0)
    (M_Mo_put_j192 l1 l2 l3 l5 l6)

def M_Mo_put_j169 (l1 : Int32) (l2 : Int32) (l3 : Int64) (l5 : Int32) (l6 : Int64) (l9 : Int32) : M (Int32) :=
  M_Mo_put_j174 l1 l2 l3 l5 l6 l9 1

def M_Mo_put_j161 (l1 : Int32) (l2 : Int32) (l3 : Int64) (l5 : Int32) (l6 : Int64) (l9 : Int32) : M (Int32) :=
  oB (M_Mo_grow l1) fun v163 =>
  oC (v163 = 0)
    (M_Mo_put_j174 l1 l2 l3 l5 l6 l9 0)
    (M_Mo_put_j169 l1 l2 l3 l5 l6 l9)

def M_Mo_put_j96 (l1 : Int32) (l2 : Int32) (l3 : Int64) (l5 : Int32) (l6 : Int64) : M (Int32) :=
  oB (oGI 2050 0) fun v100 =>
  oB (M_Va_add 16 0 5 l1.toInt64) fun _ =>
  oB (M_Va_add 16 0 l2 l3) fun _ =>
  oB (M_Va_add 16 0 l5 l6) fun _ =>
  oB (oAI 64 4100 0 l1) fun v141 =>
  oB (oAI 63 4100 0 l1) fun v148 =>
  oC (v148 < (2 * v141))
    (M_Mo_put_j161 l1 l2 l3 l5 l6 v100)
    (oB (oAI 63 4100 0 l1) fun v157 =>
    oC (0 < v157)
      (M_Mo_put_j169 l1 l2 l3 l5 l6 v100)
      (M_Mo_put_j161 l1 l2 l3 l5 l6 v100))

def M_Mo_put (l1 : Int32) (l2 : Int32) (l3 : Int64) (l5 : Int32) (l6 : Int64) : M (Int32) :=
  oC (l2 = 0)
    (oB (M_Mo_raise 6) fun v7 =>
    oR 0)
    (oB (M_Mo_entry l1 l2 l3) fun v17 =>
    oC (v17 < 0)
      (oC (l5 = 0)
        (oR 1)
        (oB (oAI 64 4100 0 l1) fun v60 =>
        oB (oAI 63 4100 0 l1) fun v66 =>
        oC (v60 = v66)
          (oB (oAI 63 4100 0 l1) fun v75 =>
          oC (v75 ≤ 0)
            (M_Mo_put_j96 l1 l2 l3 l5 l6)
            (oB (oAI 62 4100 0 l1) fun v86 =>
            oB (oAI 63 4100 0 l1) fun v92 =>
            oB (M_Mo_move l1 v86 v92) fun _ =>
            M_Mo_put_j96 l1 l2 l3 l5 l6))
          (M_Mo_put_j192 l1 l2 l3 l5 l6)))
      (oB (oGI 9087 0) fun v28 =>
      oB (oK (v28 = 1)) fun _ =>
      oB (oSI 70 300000 0 v17 l5.toInt8.toInt32.toInt8.toInt32) fun _ =>
      oB (oGI 9343 0) fun v38 =>
      oB (oK (v38 = 1)) fun _ =>
      oB (oSL 72 300000 0 v17 l6) fun _ =>
      oR 1))

def M_Mo_closure_L95 : (Int32 × Int32 × Int32) → M ((Int32 × Int32 × Int32) ⊕ ((Int32 × Int32))) := fun x =>
  oC (x.1 ≤ x.2.2)
    (oR (Sum.inr (x.1, x.2.1)))
    (oB (oGI 9471 0) fun v102 =>
    oB (oK (v102 = 1)) fun _ =>
    oB (oGI 41 0) fun v106 =>
    oB (oAI 77 64 0 x.2.2) fun v118 =>
    oB (oSI 73 300000 0 (v106 + x.2.2) v118) fun _ =>
    oR (Sum.inl (x.1, x.2.1, x.2.2 + 1)))

def M_Mo_closure_j83 (l3 : Int32) (l4 : Int32) (k0 : Int32) (k1 : Int32) : M (Int32) :=
  oB (oSI 63 4100 0 k1 k0) fun _ =>
  oB (oSI 64 4100 0 l4 l3) fun _ =>
  oB (oW M_Mo_closure_L95 (l3, l4, 0)) fun e95 =>
  oB (oGI 41 0) fun v128 =>
  oB (oPI 41 0 (v128 + e95.1)) fun _ =>
  oR e95.2

def M_Mo_closure (l1 : Int32) (l2 : Int32) (l3 : Int32) : M (Int32) :=
  oB (oGI 43 0) fun v1 =>
  oC ((v1 + l3) ≤ 300000)
    (oB (M_Mo_may 0) fun v21 =>
    oC (v21 = 0)
      (oR (-1))
      (oB (M_Mo_object 6) fun v32 =>
      oB (oGI 37 0) fun v39 =>
      oB (oPI 37 0 (v39 + l3)) fun _ =>
      oB (oGI 43 0) fun v49 =>
      oB (oPI 43 0 (v49 + l3)) fun _ =>
      oB (oSI 62 4100 0 v32 l1) fun _ =>
      oC (0 ≤ l1)
        (oB (oGI 41 0) fun v80 =>
        M_Mo_closure_j83 l3 v32 v80 v32)
        (M_Mo_closure_j83 l3 v32 l2 v32)))
    (oB (M_Mo_raise 11) fun v15 =>
    oR v15)

def M_Mo_thread__L12 : (Int32) → M ((Int32) ⊕ ((Int32))) := fun x =>
  oB (oK ((0 : Int32) ≤ x ∧ x < (33 : Int32))) fun _ =>
  oB (oGI 3584 x) fun v18 =>
  oC (v18 < 0)
    (oR (Sum.inr x))
    (oR (Sum.inl (x + 1)))

def M_Mo_thread_  : M (Int32) :=
  oB (M_Mo_may 1) fun v2 =>
  oC (v2 = 0)
    (oR (-1))
    (oB (oW M_Mo_thread__L12 0) fun e12 =>
    oB (M_Mo_object 7) fun v33 =>
    oB (oK ((0 : Int32) ≤ e12 ∧ e12 < (33 : Int32))) fun _ =>
    oB (M_Th_begin e12 v33) fun _ =>
    oB (oSI 62 4100 0 v33 e12) fun _ =>
    oB (oGI 39 0) fun v56 =>
    oB (oPI 39 0 (v56 + 1)) fun _ =>
    oR v33)

def M_Mo_rawOf_j33 (l1 : Int32) : M (Unit) :=
  oB (M_Mo_is 0 5) fun v36 =>
  oC (v36 = 0)
    (oB (M_Mo_raise 2) fun v44 =>
    oR ())
    (oB (M_Mo_av 0) fun v51 =>
    oC (l1 = 7)
      (oB (M_Mo_ak 1) fun v66 =>
      oB (M_Mo_av 1) fun v71 =>
      oB (M_Mo_raw v51.toInt32 v66 v71) fun v74 =>
      oB (oGI 66 0) fun v80 =>
      oB (oGL 67 0) fun v84 =>
      oB (M_Mo_give v80 v84) fun _ =>
      oR ())
      (oC (l1 = 8)
        (oB (M_Mo_ak 1) fun v103 =>
        oB (M_Mo_av 1) fun v108 =>
        oB (M_Mo_ak 2) fun v113 =>
        oB (M_Mo_av 2) fun v118 =>
        oB (M_Mo_put v51.toInt32 v103 v108 v113 v118) fun v121 =>
        oC (v121 = 0)
          (oR ())
          (oB (M_Mo_give 5 v51.toInt32.toInt64) fun _ =>
          oR ()))
        (oB (M_Mo_border v51.toInt32) fun v141 =>
        oB (M_Mo_give 3 v141) fun _ =>
        oR ())))

def M_Mo_rawOf (l1 : Int32) : M (Unit) :=
  oC (l1 = 9)
    (oB (M_Mo_is 0 4) fun v9 =>
    oC (v9 = 0)
      (M_Mo_rawOf_j33 l1)
      (oB (M_Mo_av 0) fun v23 =>
      oB (oAI 63 4100 0 v23.toInt32) fun v27 =>
      oB (M_Mo_give 3 v27.toInt64) fun _ =>
      oR ()))
    (M_Mo_rawOf_j33 l1)

def M_Mo_create (l1 : Int32) : M (Unit) :=
  oB (M_Mo_is 0 6) fun v4 =>
  oC (v4 = 0)
    (oB (M_Mo_raise 1) fun v12 =>
    oR ())
    (oB (M_Mo_thread_) fun v18 =>
    oC (0 ≤ v18)
      (oB (oAI 62 4100 0 v18) fun v36 =>
      oB (oK ((0 : Int32) ≤ v36 ∧ v36 < (33 : Int32))) fun _ =>
      oB (M_Va_add_ 25 v36 7 0 0) fun _ =>
      oC (l1 = 0)
        (oB (M_Mo_give 7 v18.toInt64) fun _ =>
        oR ())
        (oB (oGI 2050 0) fun v66 =>
        oB (M_Va_add 16 0 7 v18.toInt64) fun _ =>
        oB (M_Mo_closure (-1) v18 0) fun v85 =>
        oB (oPI 2050 0 v66) fun _ =>
        oC (v85 < 0)
          (oR ())
          (oB (M_Mo_give 6 v85.toInt64) fun _ =>
          oR ())))
      (oR ()))

def M_Mo_write_L9 : (Int32 × Int64 × Int32 × Int64 × Int32 × Int64 × Int32) → M ((Int32 × Int64 × Int32 × Int64 × Int32 × Int64 × Int32) ⊕ ((Unit) ⊕ (Int32 × Int64 × Int32 × Int64 × Int64) ⊕ (Int32 × Int64 × Int32 × Int64 × Int32 × Int64) ⊕ (Unit))) := fun x =>
  oC (x.2.2.2.2.1 = 5)
    (oB (M_Mo_raw x.2.2.2.2.2.1.toInt32 x.1 x.2.1) fun v30 =>
    oC (v30 = 0)
      (oB (M_Mo_meta x.2.2.2.2.1 x.2.2.2.2.2.1 1) fun v42 =>
      oC (v42 = 0)
        (oR (Sum.inr (Sum.inr (Sum.inl (x.1, x.2.1, x.2.2.1, x.2.2.2.1, x.2.2.2.2.2.1)))))
        (oB (oGI 66 0) fun v66 =>
        oC (v66 = 6)
          (oR (Sum.inr (Sum.inr (Sum.inr (Sum.inl (x.1, x.2.1, x.2.2.1, x.2.2.2.1, x.2.2.2.2.1, x.2.2.2.2.2.1))))))
          (oC (x.2.2.2.2.2.2 = 100)
            (oR (Sum.inr (Sum.inr (Sum.inr (Sum.inr ())))))
            (oB (oGI 66 0) fun v124 =>
            oB (oGL 67 0) fun v130 =>
            oR (Sum.inl (x.1, x.2.1, x.2.2.1, x.2.2.2.1, v124, v130, x.2.2.2.2.2.2 + 1))))))
      (oR (Sum.inr (Sum.inr (Sum.inl (x.1, x.2.1, x.2.2.1, x.2.2.2.1, x.2.2.2.2.2.1))))))
    (oR (Sum.inr (Sum.inl ())))

def M_Mo_write_j48 (l4 : Int32) (l5 : Int64) (l7 : Int32) (l8 : Int64) (l11 : Int64) : M (Unit) :=
  oB (M_Mo_put l11.toInt32 l4 l5 l7 l8) fun v60 =>
  oR ()

def M_Mo_write (l1 : Int32) (l2 : Int64) (l4 : Int32) (l5 : Int64) (l7 : Int32) (l8 : Int64) : M (Unit) :=
  oB (oW M_Mo_write_L9 (l4, l5, l7, l8, l1, l2, 1)) fun e9 =>
  Sum.elim
    (fun y9_15 : Unit =>
      oB (M_Mo_raise 2) fun v17 =>
      oR ())
    (Sum.elim
      (fun y9_48 : Int32 × Int64 × Int32 × Int64 × Int64 =>
        M_Mo_write_j48 y9_48.1 y9_48.2.1 y9_48.2.2.1 y9_48.2.2.2.1 y9_48.2.2.2.2)
      (Sum.elim
        (fun y9_74 : Int32 × Int64 × Int32 × Int64 × Int32 × Int64 =>
          oB (M_Mo_arguments y9_74.2.2.2.2.1 y9_74.2.2.2.2.2 y9_74.1 y9_74.2.1) fun _ =>
          oB (M_Va_add 7 0 y9_74.2.2.1 y9_74.2.2.2.1) fun _ =>
          oB (M_Mo_expect 3 0 0) fun _ =>
          oB (M_Mo_callGot) fun _ =>
          oR ())
        (fun y9_116 : Unit =>
          oB (M_Mo_raise 4) fun v118 =>
          oR ()))) e9

def M_Mo_list_j145 (l1 : Int32) (l2 : Int32) (l3 : Int32) (l4r : Nat) (l4 : Int32) (l5 : Int32) (l6 : Int32) (l7 : Int32) (l9r : Nat) (l9 : Int32) (k0 : Int32) : M ((Int32 × Int32 × Int32 × Nat × Int32 × Int32 × Int32 × Int32) ⊕ ((Int32 × Int32) ⊕ (Int32 × Int32))) :=
  oB (oAL (l4r + 2) (lnI (l4r + 2)) l4 l5) fun v155 =>
  oB (M_Mo_c l3) fun v159 =>
  oB (oAI (l9r + 1) (lnI (l9r + 1)) l9 k0) fun v175 =>
  oB (oAL (l9r + 2) (lnI (l9r + 2)) l9 k0) fun v183 =>
  oB (M_Mo_put v155.toInt32 3 (((v159 + l7) - 1).toInt64) v175 v183) fun v184 =>
  oC (v184 = 0)
    (oR (Sum.inr (Sum.inl (l1, l2))))
    (oR (Sum.inl (l1, l2, l3, l4r, l4, l5, l6, l7 + 1)))

def M_Mo_list_j116 (l1 : Int32) (l2 : Int32) (l3 : Int32) (l4r : Nat) (l4 : Int32) (l5 : Int32) (l6 : Int32) (l7 : Int32) (l8 : Int32) (k0r : Nat) (k0 : Int32) : M ((Int32 × Int32 × Int32 × Nat × Int32 × Int32 × Int32 × Int32) ⊕ ((Int32 × Int32) ⊕ (Int32 × Int32))) :=
  oC (l8 = 0)
    (M_Mo_list_j145 l1 l2 l3 l4r l4 l5 l6 l7 k0r k0 (l5 + l7))
    (oB (M_Mo_a l3) fun v124 =>
    oB (oAI 35 201 l1 l2) fun v135 =>
    M_Mo_list_j145 l1 l2 l3 l4r l4 l5 l6 l7 k0r k0 ((v124 + l7) - v135))

def M_Mo_list_j100 (l1 : Int32) (l2 : Int32) (l3 : Int32) (l4r : Nat) (l4 : Int32) (l5 : Int32) (l6 : Int32) (l7 : Int32) (k0 : Int32) : M ((Int32 × Int32 × Int32 × Nat × Int32 × Int32 × Int32 × Int32) ⊕ ((Int32 × Int32) ⊕ (Int32 × Int32))) :=
  oC (k0 = 0)
    (M_Mo_list_j116 l1 l2 l3 l4r l4 l5 l6 l7 k0 l4r l4)
    (M_Mo_list_j116 l1 l2 l3 l4r l4 l5 l6 l7 k0 22 l1)

def M_Mo_list_j99 (l1 : Int32) (l2 : Int32) (l3 : Int32) (l4r : Nat) (l4 : Int32) (l5 : Int32) (l6 : Int32) (l7 : Int32) : M ((Int32 × Int32 × Int32 × Nat × Int32 × Int32 × Int32 × Int32) ⊕ ((Int32 × Int32) ⊕ (Int32 × Int32))) :=
  M_Mo_list_j100 l1 l2 l3 l4r l4 l5 l6 l7 0

def M_Mo_list_L65 : (Int32 × Int32 × Int32 × Nat × Int32 × Int32 × Int32 × Int32) → M ((Int32 × Int32 × Int32 × Nat × Int32 × Int32 × Int32 × Int32) ⊕ ((Int32 × Int32) ⊕ (Int32 × Int32))) := fun x =>
  oC (x.2.2.2.2.2.2.1 < x.2.2.2.2.2.2.2)
    (oR (Sum.inr (Sum.inr (x.1, x.2.1))))
    (oB (M_Mo_b x.2.2.1) fun v73 =>
    oC (v73 = 0)
      (oB (M_Mo_a x.2.2.1) fun v80 =>
      oB (oAI 35 201 x.1 x.2.1) fun v91 =>
      oC ((v80 + x.2.2.2.2.2.2.2) < v91)
        (M_Mo_list_j99 x.1 x.2.1 x.2.2.1 x.2.2.2.1 x.2.2.2.2.1 x.2.2.2.2.2.1 x.2.2.2.2.2.2.1 x.2.2.2.2.2.2.2)
        (M_Mo_list_j100 x.1 x.2.1 x.2.2.1 x.2.2.2.1 x.2.2.2.2.1 x.2.2.2.2.2.1 x.2.2.2.2.2.2.1 x.2.2.2.2.2.2.2 1))
      (M_Mo_list_j99 x.1 x.2.1 x.2.2.1 x.2.2.2.1 x.2.2.2.2.1 x.2.2.2.2.2.1 x.2.2.2.2.2.2.1 x.2.2.2.2.2.2.2))

def M_Mo_list_j199 (l1 : Int32) (l2 : Int32) : M (Unit) :=
  oB (oSI 36 201 l1 l2 0) fun _ =>
  oR ()

def M_Mo_list_j34 (l1 : Int32) (l2 : Int32) (l3 : Int32) (l4r : Nat) (l4 : Int32) (l5 : Int32) (k0 : Int32) : M (Unit) :=
  oB (oAI (l4r + 1) (lnI (l4r + 1)) l4 l5) fun v43 =>
  oC (v43 = 5)
    (oB (oW M_Mo_list_L65 (l1, l2, l3, l4r, l4, l5, k0, 1)) fun e65 =>
    Sum.elim
      (fun y65_190 : Int32 × Int32 =>
        M_Mo_list_j199 y65_190.1 y65_190.2)
      (fun y65_199 : Int32 × Int32 =>
        M_Mo_list_j199 y65_199.1 y65_199.2) e65)
    (oB (oSI 36 201 l1 l2 0) fun _ =>
    oB (M_Mo_raise 2) fun v57 =>
    oR ())

def M_Mo_list (l1 : Int32) (l2 : Int32) (l3 : Int32) (l4r : Nat) (l4 : Int32) (l5 : Int32) : M (Unit) :=
  oB (M_Mo_b l3) fun v1 =>
  oC (v1 ≤ 0)
    (oB (oAI 35 201 l1 l2) fun v19 =>
    oB (oAI 36 201 l1 l2) fun v25 =>
    oB (M_Mo_a l3) fun v28 =>
    M_Mo_list_j34 l1 l2 l3 l4r l4 l5 (((v19 + v25) - v28) - 1))
    (oB (M_Mo_b l3) fun v8 =>
    M_Mo_list_j34 l1 l2 l3 l4r l4 l5 v8)

def M_Mo_variableAt_L2 : (Int32 × Int32 × Int32) → M ((Int32 × Int32 × Int32) ⊕ ((Int32 × Int32) ⊕ (Int32 × Int32))) := fun x =>
  oB (oGI 3587 x.1) fun v4 =>
  oC (v4 ≤ x.2.2)
    (oR (Sum.inr (Sum.inr (x.1, x.2.1))))
    (oB (oAI 29 4100 x.1 x.2.2) fun v19 =>
    oB (oAI 63 4100 0 v19) fun v20 =>
    oC (v20 = x.2.1)
      (oR (Sum.inr (Sum.inl (x.1, x.2.2))))
      (oR (Sum.inl (x.1, x.2.1, x.2.2 + 1))))

def M_Mo_variableAt (l1 : Int32) (l2 : Int32) : M (Int32) :=
  oB (oW M_Mo_variableAt_L2 (l1, l2, 0)) fun e2 =>
  Sum.elim
    (fun y2_25 : Int32 × Int32 =>
      oB (oAI 29 4100 y2_25.1 y2_25.2) fun v30 =>
      oR v30)
    (fun y2_38 : Int32 × Int32 =>
      oB (M_Mo_may 0) fun v40 =>
      oC (v40 = 0)
        (oR (-1))
        (oB (M_Mo_object 8) fun v51 =>
        oB (M_Mo_thread y2_38.1) fun v62 =>
        oB (oSI 62 4100 0 v51 v62) fun _ =>
        oB (oSI 63 4100 0 v51 y2_38.2) fun _ =>
        oB (oGI 3587 y2_38.1) fun v79 =>
        oB (oPI 3587 y2_38.1 (v79 + 1)) fun _ =>
        oB (oSI 29 4100 y2_38.1 v79 v51) fun _ =>
        oR v51)) e2

def M_Mo_table  : M (Int32) :=
  oB (M_Mo_may 0) fun v2 =>
  oC (v2 = 0)
    (oR (-1))
    (oB (M_Mo_object 5) fun v12 =>
    oB (oSI 62 4100 0 v12 0) fun _ =>
    oB (oSI 63 4100 0 v12 0) fun _ =>
    oB (oSI 64 4100 0 v12 0) fun _ =>
    oB (oSI 65 4100 0 v12 (-1)) fun _ =>
    oR v12)

def M_Mo_small_j133 (l1 : Int32) (l2 : Int32) (l4 : Int32) (k0 : Int32) (k1 : Int32) (k2r : Nat) (k2 : Int32) : M (Unit) :=
  oB (M_Va_set k2r k2 k1 k0 0) fun _ =>
  oB (M_Mo_c l4) fun v139 =>
  oC (v139 = 0)
    (oR ())
    (oB (oAI 32 201 l1 l2) fun v151 =>
    oB (oSI 32 201 l1 l2 (v151 + 1)) fun _ =>
    oR ())

def M_Mo_small_L161 : (Int32 × Nat × Int32 × Int32 × Int32) → M ((Int32 × Nat × Int32 × Int32 × Int32) ⊕ ((Unit))) := fun x =>
  oB (M_Mo_b x.1) fun v165 =>
  oC (v165 < x.2.2.2.2)
    (oR (Sum.inr ()))
    (oB (M_Va_set x.2.1 x.2.2.1 (x.2.2.2.1 + x.2.2.2.2) 0 0) fun _ =>
    oR (Sum.inl (x.1, x.2.1, x.2.2.1, x.2.2.2.1, x.2.2.2.2 + 1)))

def M_Mo_small (l1 : Int32) (l2 : Int32) (l3 : Int32) (l4 : Int32) (l5 : Int32) (l6r : Nat) (l6 : Int32) (l7 : Int32) : M (Unit) :=
  oB (oAI 33 201 l1 l2) fun v5 =>
  oC (l5 = 0)
    (oB (M_Mo_b l4) fun v78 =>
    oB (M_Va_set_ l6r l6 l7 l6r l6 (v5 + v78)) fun _ =>
    oR ())
  (oC (l5 = 1)
    (oB (M_Mo_bx l4) fun v92 =>
    oB (M_Mo_constant l3 v92) fun _ =>
    oB (oGI 98 0) fun v103 =>
    oB (oGL 99 0) fun v107 =>
    oB (M_Va_set l6r l6 l7 v103 v107) fun _ =>
    oR ())
  (oC (l5 = 3)
    (oB (M_Mo_b l4) fun v122 =>
    oC (v122 = 0)
      (M_Mo_small_j133 l1 l2 l4 1 l7 l6r l6)
      (M_Mo_small_j133 l1 l2 l4 2 l7 l6r l6))
  (oC (l5 = 4)
    (oB (oW M_Mo_small_L161 (l4, l6r, l6, l7, 0)) fun e161 =>
    oR ())
  (oC (l5 = 5)
    (oB (M_Mo_b l4) fun v198 =>
    oB (M_Mo_up l1 l2 v198) fun v201 =>
    oB (M_Mo_load v201) fun _ =>
    oB (oGI 66 0) fun v212 =>
    oB (oGL 67 0) fun v216 =>
    oB (M_Va_set l6r l6 l7 v212 v216) fun _ =>
    oR ())
  (oC (l5 = 6)
    (oB (M_Mo_c l4) fun v231 =>
    oB (M_Mo_rk_ l1 l2 l3 v231) fun _ =>
    oB (M_Mo_b l4) fun v243 =>
    oB (M_Mo_up l1 l2 v243) fun v246 =>
    oB (M_Mo_load v246) fun _ =>
    oB (oGI 66 0) fun v254 =>
    oB (oGL 67 0) fun v258 =>
    oB (oGI 98 0) fun v262 =>
    oB (oGL 99 0) fun v266 =>
    oB (M_Mo_a l4) fun v271 =>
    oB (M_Mo_index v254 v258 v262 v266 v271) fun _ =>
    oR ())
  (oC (l5 = 7)
    (oB (M_Mo_c l4) fun v286 =>
    oB (M_Mo_rk_ l1 l2 l3 v286) fun _ =>
    oB (M_Mo_b l4) fun v302 =>
    oB (oAI (l6r + 1) (lnI (l6r + 1)) l6 (v5 + v302)) fun v306 =>
    oB (M_Mo_b l4) fun v316 =>
    oB (oAL (l6r + 2) (lnI (l6r + 2)) l6 (v5 + v316)) fun v320 =>
    oB (oGI 98 0) fun v322 =>
    oB (oGL 99 0) fun v326 =>
    oB (M_Mo_a l4) fun v331 =>
    oB (M_Mo_index v306 v320 v322 v326 v331) fun _ =>
    oR ())
  (oC (l5 = 8 ∨ l5 = 10)
    (oB (M_Mo_b l4) fun v346 =>
    oB (M_Mo_rk_ l1 l2 l3 v346) fun _ =>
    oB (oGI 98 0) fun v353 =>
    oB (oGL 99 0) fun v359 =>
    oB (M_Mo_c l4) fun v370 =>
    oB (M_Mo_rk_ l1 l2 l3 v370) fun _ =>
    oC (l5 = 8)
      (oB (M_Mo_a l4) fun v389 =>
      oB (M_Mo_up l1 l2 v389) fun v392 =>
      oB (M_Mo_load v392) fun _ =>
      oB (oGI 66 0) fun v400 =>
      oB (oGL 67 0) fun v404 =>
      oB (oGI 98 0) fun v412 =>
      oB (oGL 99 0) fun v416 =>
      oB (M_Mo_write v400 v404 v353 v359 v412 v416) fun _ =>
      oR ())
      (oB (oAI (l6r + 1) (lnI (l6r + 1)) l6 l7) fun v433 =>
      oB (oAL (l6r + 2) (lnI (l6r + 2)) l6 l7) fun v441 =>
      oB (oGI 98 0) fun v447 =>
      oB (oGL 99 0) fun v451 =>
      oB (M_Mo_write v433 v441 v353 v359 v447 v451) fun _ =>
      oR ()))
  (oC (l5 = 9)
    (oB (M_Mo_b l4) fun v466 =>
    oB (M_Mo_up l1 l2 v466) fun v469 =>
    oB (oAI (l6r + 1) (lnI (l6r + 1)) l6 l7) fun v479 =>
    oB (oAL (l6r + 2) (lnI (l6r + 2)) l6 l7) fun v487 =>
    oB (M_Mo_store v469 v479 v487) fun _ =>
    oR ())
  (oB (M_Mo_table) fun v495 =>
  oC (v495 < 0)
    (oR ())
    (oB (M_Va_set l6r l6 l7 5 v495.toInt64) fun _ =>
    oR ()))))))))))

def M_Mo_closure__j97 (l1 : Int32) (l2 : Int32) (l5r : Nat) (l5 : Int32) (l6 : Int32) (l7 : Int32) (l8 : Int32) (l9 : Int32) (k0 : Int32) : M ((Int32 × Int32 × Nat × Int32 × Int32 × Int32 × Int32 × Int32) ⊕ ((Int32) ⊕ (Nat × Int32 × Int32 × Int32 × Int32))) :=
  oC (0 ≤ k0)
    (oB (oSI 77 64 0 l9 k0) fun _ =>
    oB (M_Va_add 16 0 8 k0.toInt64) fun _ =>
    oR (Sum.inl (l1, l2, l5r, l5, l6, l7, l8, l9 + 1)))
    (oR (Sum.inr (Sum.inl l8)))

def M_Mo_closure__L31 : (Int32 × Int32 × Nat × Int32 × Int32 × Int32 × Int32 × Int32) → M ((Int32 × Int32 × Nat × Int32 × Int32 × Int32 × Int32 × Int32) ⊕ ((Int32) ⊕ (Nat × Int32 × Int32 × Int32 × Int32))) := fun x =>
  oB (oAI 45 251 0 x.2.2.2.2.2.1) fun v39 =>
  oC (v39 ≤ x.2.2.2.2.2.2.2)
    (oR (Sum.inr (Sum.inr (x.2.2.1, x.2.2.2.1, x.2.2.2.2.1, x.2.2.2.2.2.1, x.2.2.2.2.2.2.1))))
    (oB (oAI 46 251 0 x.2.2.2.2.2.1) fun v53 =>
    oB (oAI 53 30200 0 (v53 + x.2.2.2.2.2.2.2)) fun v57 =>
    oC (256 ≤ v57)
      (oB (oAI 33 201 x.1 x.2.1) fun v86 =>
      oB (M_Mo_variableAt x.1 (v86 + (v57 &&& 255))) fun v94 =>
      M_Mo_closure__j97 x.1 x.2.1 x.2.2.1 x.2.2.2.1 x.2.2.2.2.1 x.2.2.2.2.2.1 x.2.2.2.2.2.2.1 x.2.2.2.2.2.2.2 v94)
      (oB (M_Mo_up x.1 x.2.1 v57) fun v73 =>
      M_Mo_closure__j97 x.1 x.2.1 x.2.2.1 x.2.2.2.1 x.2.2.2.2.1 x.2.2.2.2.2.1 x.2.2.2.2.2.2.1 x.2.2.2.2.2.2.2 v73))

def M_Mo_closure_ (l1 : Int32) (l2 : Int32) (l3 : Int32) (l4 : Int32) (l5r : Nat) (l5 : Int32) (l6 : Int32) : M (Unit) :=
  oB (oAI 51 251 0 l3) fun v9 =>
  oB (M_Mo_bx l4) fun v12 =>
  oB (oAI 54 256 0 (v9 + v12)) fun v16 =>
  oB (oGI 2050 0) fun v23 =>
  oB (oW M_Mo_closure__L31 (l1, l2, l5r, l5, l6, v16, v23, 0)) fun e31 =>
  Sum.elim
    (fun y31_104 : Int32 =>
      oB (oPI 2050 0 y31_104) fun _ =>
      oR ())
    (fun y31_141 : Nat × Int32 × Int32 × Int32 × Int32 =>
      oB (oAI 45 251 0 y31_141.2.2.2.1) fun v151 =>
      oB (M_Mo_closure y31_141.2.2.2.1 0 v151) fun v152 =>
      oB (oPI 2050 0 y31_141.2.2.2.2) fun _ =>
      oC (v152 < 0)
        (oR ())
        (oB (M_Va_set y31_141.1 y31_141.2.1 y31_141.2.2.1 6 v152.toInt64) fun _ =>
        oR ())) e31

def M_Mo_high_j303 (l1 : Int32) (l2 : Int32) (l4 : Int32) (l8 : Int32) (l9 : Int32) (k0 : Int32) (k1 : Int32) (k2 : Int32) : M ((Int32 × Int32 × Int32 × Int32 × Int32) ⊕ ((Int32 × Int32))) :=
  oB (M_Mo_addAt 10 0 k2 k1 k0 l9) fun _ =>
  oR (Sum.inl (l1, l2, l4, l8, l9 + 1))

def M_Mo_high_L276 : (Int32 × Int32 × Int32 × Int32 × Int32) → M ((Int32 × Int32 × Int32 × Int32 × Int32) ⊕ ((Int32 × Int32))) := fun x =>
  oC (x.2.2.2.1 ≤ x.2.2.2.2)
    (oR (Sum.inr (x.1, x.2.1)))
    (oB (M_Mo_b x.2.2.1) fun v292 =>
    oC (v292 = 0)
      (M_Mo_high_j303 x.1 x.2.1 x.2.2.1 x.2.2.2.1 x.2.2.2.2 1 x.2.1 x.1)
      (M_Mo_high_j303 x.1 x.2.1 x.2.2.1 x.2.2.2.1 x.2.2.2.2 0 x.2.1 x.1))

def M_Mo_high_j235 (l1 : Int32) (l2 : Int32) (l4 : Int32) (k0 : Int32) : M (Unit) :=
  oB (M_Mo_a l4) fun v241 =>
  oC ((k0 - v241) ≤ 250)
    (oB (oPI 1282 0 0) fun _ =>
    oB (M_Mo_a l4) fun v271 =>
    oB (oW M_Mo_high_L276 (l1, l2, l4, k0, v271)) fun e276 =>
    oB (oSI 36 201 e276.1 e276.2 0) fun _ =>
    oB (oAI 33 201 e276.1 e276.2) fun v328 =>
    oB (M_Mo_close e276.1 v328) fun _ =>
    oB (oGI 3586 e276.1) fun v334 =>
    oB (oPI 3586 e276.1 (v334 - 1)) fun _ =>
    oB (oPI 73 0 2) fun _ =>
    oR ())
    (oB (M_Mo_raise 7) fun v254 =>
    oR ())

def M_Mo_high_j405  : M (Unit) :=
  oB (M_Mo_raise 3) fun v407 =>
  oR ()

def M_Mo_high (l1 : Int32) (l2 : Int32) (l3 : Int32) (l4 : Int32) (l5 : Int32) (l6r : Nat) (l6 : Int32) (l7 : Int32) : M (Unit) :=
  oC (l5 = 36)
    (oB (M_Mo_a l4) fun v57 =>
    oB (M_Mo_b l4) fun v62 =>
    oB (M_Mo_gather l1 l2 v57 v62) fun v65 =>
    oC (v65 = 0)
      (oR ())
      (oB (M_Mo_a l4) fun v78 =>
      oB (M_Mo_c l4) fun v83 =>
      oB (M_Mo_expect 0 v78 (v83 - 1)) fun _ =>
      oB (oAI (l6r + 1) (lnI (l6r + 1)) l6 l7) fun v99 =>
      oB (oPI 75 0 v99) fun _ =>
      oB (oAL (l6r + 2) (lnI (l6r + 2)) l6 l7) fun v111 =>
      oB (oPL 76 0 v111) fun _ =>
      oB (oPI 73 0 1) fun _ =>
      oR ()))
  (oC (l5 = 37)
    (oB (M_Mo_a l4) fun v128 =>
    oB (M_Mo_b l4) fun v133 =>
    oB (M_Mo_gather l1 l2 v128 v133) fun v136 =>
    oC (v136 = 0)
      (oR ())
      (oB (oAI (l6r + 1) (lnI (l6r + 1)) l6 l7) fun v153 =>
      oB (oPI 75 0 v153) fun _ =>
      oB (oAL (l6r + 2) (lnI (l6r + 2)) l6 l7) fun v165 =>
      oB (oPL 76 0 v165) fun _ =>
      oB (oAI 33 201 l1 l2) fun v176 =>
      oB (M_Mo_close l1 v176) fun _ =>
      oB (oGI 3586 l1) fun v182 =>
      oB (oPI 3586 l1 (v182 - 1)) fun _ =>
      oB (oPI 73 0 1) fun _ =>
      oR ()))
  (oC (l5 = 38)
    (oB (M_Mo_b l4) fun v200 =>
    oC (v200 ≤ 0)
      (oB (oAI 35 201 l1 l2) fun v227 =>
      oB (oAI 36 201 l1 l2) fun v233 =>
      M_Mo_high_j235 l1 l2 l4 (v227 + v233))
      (oB (M_Mo_a l4) fun v208 =>
      oB (M_Mo_b l4) fun v213 =>
      M_Mo_high_j235 l1 l2 l4 ((v208 + v213) - 1)))
  (oC (l5 = 39)
    (oB (M_Mo_loop l1 l2 l4 l6r l6 l7) fun _ =>
    oR ())
  (oC (l5 = 40)
    (oB (oAI (l6r + 1) (lnI (l6r + 1)) l6 (l7 + 1)) fun v374 =>
    oC (v374 = 3)
      (oB (oAI (l6r + 1) (lnI (l6r + 1)) l6 (l7 + 2)) fun v388 =>
      oC (v388 = 3)
        (oB (oAI (l6r + 1) (lnI (l6r + 1)) l6 l7) fun v400 =>
        oC (v400 = 3)
          (oB (oAL (l6r + 2) (lnI (l6r + 2)) l6 l7) fun v422 =>
          oB (oAL (l6r + 2) (lnI (l6r + 2)) l6 (l7 + 2)) fun v432 =>
          oB (oSL (l6r + 2) (lnI (l6r + 2)) l6 l7 (v422 - v432)) fun _ =>
          oB (oAI 32 201 l1 l2) fun v441 =>
          oB (M_Mo_sbx l4) fun v444 =>
          oB (oSI 32 201 l1 l2 (v441 + v444)) fun _ =>
          oR ())
          (M_Mo_high_j405))
        (M_Mo_high_j405))
      (M_Mo_high_j405))
  (oC (l5 = 41)
    (oB (oPI 898 0 0) fun _ =>
    oB (M_Va_add_ 7 0 l6r l6 (l7 + 1)) fun _ =>
    oB (M_Va_add_ 7 0 l6r l6 (l7 + 2)) fun _ =>
    oB (M_Mo_a l4) fun v490 =>
    oB (M_Mo_c l4) fun v497 =>
    oB (M_Mo_expect 0 (v490 + 3) v497) fun _ =>
    oB (oAI (l6r + 1) (lnI (l6r + 1)) l6 l7) fun v511 =>
    oB (oPI 75 0 v511) fun _ =>
    oB (oAL (l6r + 2) (lnI (l6r + 2)) l6 l7) fun v523 =>
    oB (oPL 76 0 v523) fun _ =>
    oB (oPI 73 0 1) fun _ =>
    oR ())
  (oC (l5 = 42)
    (oB (oAI (l6r + 1) (lnI (l6r + 1)) l6 (l7 + 1)) fun v544 =>
    oC (v544 = 0)
      (oR ())
      (oB (M_Va_set_ l6r l6 l7 l6r l6 (l7 + 1)) fun _ =>
      oB (oAI 32 201 l1 l2) fun v570 =>
      oB (M_Mo_sbx l4) fun v573 =>
      oB (oSI 32 201 l1 l2 (v570 + v573)) fun _ =>
      oR ()))
  (oC (l5 = 43)
    (oB (M_Mo_list l1 l2 l4 l6r l6 l7) fun _ =>
    oR ())
  (oC (l5 = 44)
    (oB (M_Mo_closure_ l1 l2 l3 l4 l6r l6 l7) fun _ =>
    oR ())
  (oB (M_Mo_further l1 l2 l3 l4 l6r l6 l7) fun _ =>
  oR ())))))))))

