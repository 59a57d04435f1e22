def M_Mo_string_j86 (l1r : Nat) (l1 : Int32) (l2 : Int32) (l3 : Int32) (l4 : Int32) (l5 : Int32) (l7 : Int32) (k0 : Int32) : M ((Nat × Int32 × Int32 × Int32 × Int32 × Int32 × Int32 × Int32) ⊕ ((Nat × Int32 × Int32 × Int32 × Int32 × Int32 × Int32))) :=
  oR (Sum.inl (l1r, l1, l2, l3, l4, l5, k0, l7 + 1))

def M_Mo_string_L46 : (Nat × Int32 × Int32 × Int32 × Int32 × Int32 × Int32 × Int32) → M ((Nat × Int32 × Int32 × Int32 × Int32 × Int32 × Int32 × Int32) ⊕ ((Nat × Int32 × Int32 × Int32 × Int32 × Int32 × Int32))) := fun x =>
  oC (x.2.2.2.2.2.2.1 = 0)
    (oR (Sum.inr (x.1, x.2.1, x.2.2.1, x.2.2.2.1, x.2.2.2.2.1, x.2.2.2.2.2.1, x.2.2.2.2.2.2.1)))
    (oC (x.2.2.2.1 ≤ x.2.2.2.2.2.2.2)
      (oR (Sum.inr (x.1, x.2.1, x.2.2.1, x.2.2.2.1, x.2.2.2.2.1, x.2.2.2.2.2.1, x.2.2.2.2.2.2.1)))
      (oB (oAI 62 4100 0 x.2.2.2.2.2.1) fun v67 =>
      oB (oAI 67 400000 0 (v67 + x.2.2.2.2.2.2.2)) fun v71 =>
      oB (oAI x.1 (lnI x.1) x.2.1 (x.2.2.1 + x.2.2.2.2.2.2.2)) fun v77 =>
      oC (v71 = v77)
        (M_Mo_string_j86 x.1 x.2.1 x.2.2.1 x.2.2.2.1 x.2.2.2.2.1 x.2.2.2.2.2.1 x.2.2.2.2.2.2.2 1)
        (M_Mo_string_j86 x.1 x.2.1 x.2.2.1 x.2.2.2.1 x.2.2.2.2.1 x.2.2.2.2.2.1 x.2.2.2.2.2.2.2 0)))

def M_Mo_string_j94 (l1r : Nat) (l1 : Int32) (l2 : Int32) (l3 : Int32) (l4 : Int32) (l5 : Int32) (l6 : Int32) : M ((Nat × Int32 × Int32 × Int32 × Int32 × Int32) ⊕ ((Int32) ⊕ (Nat × Int32 × Int32 × Int32 × Int32))) :=
  oC (l6 = 0)
    (oB (oAI 65 4100 0 l5) fun v108 =>
    oL (v108 - 1) fun l5_111 =>
    oR (Sum.inl (l1r, l1, l2, l3, l4, l5_111)))
    (oR (Sum.inr (Sum.inl l5)))

def M_Mo_string_j41 (l1r : Nat) (l1 : Int32) (l2 : Int32) (l3 : Int32) (l4 : Int32) (l5 : Int32) (k0 : Int32) : M ((Nat × Int32 × Int32 × Int32 × Int32 × Int32) ⊕ ((Int32) ⊕ (Nat × Int32 × Int32 × Int32 × Int32))) :=
  oB (oW M_Mo_string_L46 (l1r, l1, l2, l3, l4, l5, k0, 0)) fun e46 =>
  M_Mo_string_j94 e46.1 e46.2.1 e46.2.2.1 e46.2.2.2.1 e46.2.2.2.2.1 e46.2.2.2.2.2.1 e46.2.2.2.2.2.2

def M_Mo_string_L20 : (Nat × Int32 × Int32 × Int32 × Int32 × Int32) → M ((Nat × Int32 × Int32 × Int32 × Int32 × Int32) ⊕ ((Int32) ⊕ (Nat × Int32 × Int32 × Int32 × Int32))) := fun x =>
  oC (x.2.2.2.2.2 < 0)
    (oR (Sum.inr (Sum.inr (x.1, x.2.1, x.2.2.1, x.2.2.2.1, x.2.2.2.2.1))))
    (oB (oAI 63 4100 0 x.2.2.2.2.2) fun v31 =>
    oC (v31 = x.2.2.2.1)
      (M_Mo_string_j41 x.1 x.2.1 x.2.2.1 x.2.2.2.1 x.2.2.2.2.1 x.2.2.2.2.2 1)
      (M_Mo_string_j41 x.1 x.2.1 x.2.2.1 x.2.2.2.1 x.2.2.2.2.1 x.2.2.2.2.2 0))

def M_Mo_string (l1r : Nat) (l1 : Int32) (l2 : Int32) (l3 : Int32) : M (Int32) :=
  oB (M_Mo_hash l1r l1 l2 l3) fun v4 =>
  oB (oPr l1r l1) fun _ =>
  oB (oAI 68 1024 0 v4) fun v15 =>
  oL (v15 - 1) fun l5_18 =>
  oB (oW M_Mo_string_L20 (l1r, l1, l2, l3, v4, l5_18)) fun e20 =>
  Sum.elim
    (fun y20_99 : Int32 =>
      oR y20_99)
    (fun y20_116 : Nat × Int32 × Int32 × Int32 × Int32 =>
      oB (oGI 44 0) fun v117 =>
      oC ((v117 + y20_116.2.2.2.1) ≤ 400000)
        (oB (M_Mo_may 0) fun v136 =>
        oB (oPr y20_116.1 y20_116.2.1) fun _ =>
        oC (v136 = 0)
          (oR (-1))
          (oB (M_Mo_object 4) fun v146 =>
          oB (oPr y20_116.1 y20_116.2.1) fun _ =>
          oB (oGI 38 0) fun v158 =>
          oB (oCI y20_116.1 y20_116.2.1 (lnI y20_116.1) 67 0 400000 y20_116.2.2.1 v158 y20_116.2.2.2.1) fun _ =>
          oB (oGI 38 0) fun v172 =>
          oB (oSI 62 4100 0 v146 v172) fun _ =>
          oB (oSI 63 4100 0 v146 y20_116.2.2.2.1) fun _ =>
          oB (oGI 38 0) fun v186 =>
          oB (oPI 38 0 (v186 + y20_116.2.2.2.1)) fun _ =>
          oB (oGI 44 0) fun v196 =>
          oB (oPI 44 0 (v196 + y20_116.2.2.2.1)) fun _ =>
          oB (oAI 68 1024 0 y20_116.2.2.2.2) fun v216 =>
          oB (oSI 65 4100 0 v146 v216) fun _ =>
          oB (oSI 68 1024 0 y20_116.2.2.2.2 (v146 + 1)) fun _ =>
          oR v146))
        (oB (M_Mo_raise 11) fun v130 =>
        oB (oPr y20_116.1 y20_116.2.1) fun _ =>
        oR v130)) e20

def M_Mo_say_ (l1 : Int32) (l2 : Int32) : M (Unit) :=
  oB (oGI 96 0) fun v10 =>
  oB (oCI 67 0 400000 87 0 266800 l1 v10 l2) fun _ =>
  oB (oGI 96 0) fun v19 =>
  oB (oPI 96 0 (v19 + l2)) fun _ =>
  oR ()

def M_Mo_sub_j25  : M (Unit) :=
  oB (M_Mo_raise 3) fun v27 =>
  oR ()

def M_Mo_sub_j150 (k0 : Int32) : M (Unit) :=
  oC (k0 < 0)
    (oR ())
    (oB (M_Mo_give 4 k0.toInt64) fun _ =>
    oR ())

def M_Mo_sub_j95 (l1 : Int32) (l2 : Int32) (l3 : Int64) (k0 : Int64) (k1 : Int64) : M (Unit) :=
  oB (M_Mo_from k0 l2) fun v96 =>
  oB (M_Mth_min_ k1 v96) fun v99 =>
  oC ((lg_cmp l3 v99) ≤ 0)
    (oB (oAI 62 4100 0 l1) fun v134 =>
    oB (M_Mo_string 67 0 ((v134 + l3.toInt32) - 1) (((v99 - l3) + 1).toInt32)) fun v147 =>
    M_Mo_sub_j150 v147)
    (oB (M_Mo_string 67 0 0 0) fun v118 =>
    M_Mo_sub_j150 v118)

def M_Mo_sub_j65 (l1 : Int32) (l2 : Int32) (k0 : Int64) (k1 : Int64) : M (Unit) :=
  oB (M_Mo_from k0 l2) fun v66 =>
  oB (M_Mth_max_ k1 v66) fun v69 =>
  oB (M_Mo_is 2 0) fun v78 =>
  oC (v78 = 0)
    (oB (M_Mo_av 2) fun v92 =>
    M_Mo_sub_j95 l1 l2 v69 v92 l2.toInt64)
    (M_Mo_sub_j95 l1 l2 v69 (-1) l2.toInt64)

def M_Mo_sub  : M (Unit) :=
  oB (M_Mo_is 0 4) fun v3 =>
  oC (v3 = 0)
    (M_Mo_sub_j25)
    (oB (M_Mo_integer 1) fun v11 =>
    oC (v11 = 0)
      (M_Mo_sub_j25)
      (oB (M_Mo_integer 2) fun v19 =>
      oC (v19 = 0)
        (M_Mo_sub_j25)
        (oB (M_Mo_av 0) fun v34 =>
        oB (oAI 63 4100 0 v34.toInt32) fun v44 =>
        oB (M_Mo_is 1 0) fun v50 =>
        oC (v50 = 0)
          (oB (M_Mo_av 1) fun v62 =>
          M_Mo_sub_j65 v34.toInt32 v44 v62 1)
          (M_Mo_sub_j65 v34.toInt32 v44 1 1))))

def M_Mo_characters_L2 : (Int32) → M ((Int32) ⊕ ((Unit) ⊕ (Unit) ⊕ (Unit))) := fun x =>
  oB (oGI 898 0) fun v7 =>
  oC (v7 ≤ x)
    (oR (Sum.inr (Sum.inr (Sum.inr ()))))
    (oB (M_Mo_is x 3) fun v16 =>
    oC (v16 = 0)
      (oR (Sum.inr (Sum.inl ())))
      (oB (M_Mo_av x) fun v31 =>
      oC ((lg_cmp v31 0) < 0)
        (oR (Sum.inr (Sum.inr (Sum.inl ()))))
        (oB (M_Mo_av x) fun v41 =>
        oC ((lg_cmp v41 255) ≤ 0)
          (oB (M_Mo_av x) fun v66 =>
          oB (oSI 87 266800 0 x v66.toInt32.toInt8.toInt32.toInt8.toInt32) fun _ =>
          oR (Sum.inl (x + 1)))
          (oR (Sum.inr (Sum.inr (Sum.inl ())))))))

def M_Mo_characters_j51  : M (Unit) :=
  oB (M_Mo_raise 7) fun v54 =>
  oR ()

def M_Mo_characters  : M (Unit) :=
  oB (oW M_Mo_characters_L2 0) fun e2 =>
  Sum.elim
    (fun y2_22 : Unit =>
      oB (M_Mo_raise 3) fun v24 =>
      oR ())
    (Sum.elim
      (fun y2_51 : Unit =>
        M_Mo_characters_j51)
      (fun y2_78 : Unit =>
        oB (oGI 898 0) fun v88 =>
        oB (M_Mo_string 87 0 0 v88) fun v91 =>
        oC (v91 < 0)
          (oR ())
          (oB (M_Mo_give 4 v91.toInt64) fun _ =>
          oR ()))) e2

def M_Mo_word_L2 : (Nat × Int32) → M ((Nat × Int32) ⊕ ((Nat))) := fun x =>
  oC ((stLI x.1) ≤ x.2)
    (oR (Sum.inr x.1))
    (oB (oK ((0 : Int32) ≤ x.2 ∧ x.2 < stLI x.1)) fun _ =>
    oB (oSI 86 64 0 x.2 (((stC x.1 x.2).toInt8.toInt32).toInt8.toInt32)) fun _ =>
    oR (Sum.inl (x.1, x.2 + 1)))

def M_Mo_word (l1 : Nat) : M (Int32) :=
  oB (oW M_Mo_word_L2 (l1, 0)) fun e2 =>
  oB (M_Mo_string 86 0 0 (stLI e2)) fun v38 =>
  oC (v38 < 0)
    (oR v38)
    (oB (oSI 60 4100 0 v38 (vp_nar .boolean 1)) fun _ =>
    oR v38)

def M_Mo_say___L2 : (Nat × Int32) → M ((Nat × Int32) ⊕ ((Unit))) := fun x =>
  oC ((stLI x.1) ≤ x.2)
    (oR (Sum.inr ()))
    (oB (oK ((0 : Int32) ≤ x.2 ∧ x.2 < stLI x.1)) fun _ =>
    oB (M_Mo_say (stC x.1 x.2)) fun _ =>
    oR (Sum.inl (x.1, x.2 + 1)))

def M_Mo_say__ (l1 : Nat) : M (Unit) :=
  oB (oW M_Mo_say___L2 (l1, 0)) fun e2 =>
  oR ()

def M_Mo_words_L2 : (Nat × Int32 × Nat × Int32 × Int32) → M ((Nat × Int32 × Nat × Int32 × Int32) ⊕ ((Unit) ⊕ (Unit))) := fun x =>
  oC ((lnI x.1) ≤ x.2.2.2.2)
    (oR (Sum.inr (Sum.inr ())))
    (oB (oK (((0 : Int32) ≤ x.2.2.2.2 ∧ x.2.2.2.2 < (lnI x.1)) ∧ sbF x.1 + x.2.2.2.2.toNatClampNeg < nSt)) fun _ =>
    oB (M_Mo_word (sbF x.1 + x.2.2.2.2.toNatClampNeg)) fun v14 =>
    oB (oPr x.2.2.1 x.2.2.2.1) fun _ =>
    oB (oPr x.1 x.2.1) fun _ =>
    oB (oSI x.2.2.1 (lnI x.2.2.1) x.2.2.2.1 x.2.2.2.2 v14) fun _ =>
    oB (oAI x.2.2.1 (lnI x.2.2.1) x.2.2.2.1 x.2.2.2.2) fun v20 =>
    oC (0 ≤ v20)
      (oR (Sum.inl (x.1, x.2.1, x.2.2.1, x.2.2.2.1, x.2.2.2.2 + 1)))
      (oR (Sum.inr (Sum.inl ()))))

def M_Mo_words (l1r : Nat) (l1 : Int32) (l2r : Nat) (l2 : Int32) : M (Int32) :=
  oB (oW M_Mo_words_L2 (l1r, l1, l2r, l2, 0)) fun e2 =>
  Sum.elim
    (fun y2_24 : Unit =>
      oR 0)
    (fun y2_32 : Unit =>
      oR 1) e2

def M_Mo_sayValue_j145 (k0 : Int64) : M (Unit) :=
  oB (M_Mo_sayNumber k0) fun _ =>
  oR ()

def M_Mo_sayValue_j119 (l2 : Int64) (k0 : Nat) : M (Unit) :=
  oB (M_Mo_say__ k0) fun _ =>
  oC (0 ≤ (lg_cmp l2 0))
    (oB (oAI 61 4100 0 l2.toInt32) fun v143 =>
    M_Mo_sayValue_j145 v143.toInt64)
    (M_Mo_sayValue_j145 ((-1) - l2))

def M_Mo_sayValue_j166 (l2 : Int64) (k0 : Nat) : M (Unit) :=
  oB (M_Mo_say__ k0) fun _ =>
  oB (oAI 61 4100 0 l2.toInt32) fun v176 =>
  oB (M_Mo_sayNumber v176.toInt64) fun _ =>
  oR ()

def M_Mo_sayValue (l1 : Int32) (l2 : Int64) : M (Unit) :=
  oC (l1 = 0)
    (oB (M_Mo_say__ 46) fun _ =>
    oR ())
  (oC (l1 = 1)
    (oB (M_Mo_say__ 70) fun _ =>
    oR ())
  (oC (l1 = 2)
    (oB (M_Mo_say__ 71) fun _ =>
    oR ())
  (oC (l1 = 3)
    (oB (M_Mo_sayNumber l2) fun _ =>
    oR ())
  (oC (l1 = 4)
    (oB (oAI 62 4100 0 l2.toInt32) fun v89 =>
    oB (oAI 63 4100 0 l2.toInt32) fun v96 =>
    oB (M_Mo_say_ v89 v96) fun _ =>
    oR ())
  (oC (l1 = 6)
    (oC (0 ≤ (lg_cmp l2 0))
      (M_Mo_sayValue_j119 l2 73)
      (M_Mo_sayValue_j119 l2 72))
  (oC (l1 = 5)
    (M_Mo_sayValue_j166 l2 74)
    (M_Mo_sayValue_j166 l2 75)))))))

def M_Mo_tostring_j141  : M (Unit) :=
  oB (oPI 898 0 0) fun _ =>
  oR ()

def M_Mo_tostring  : M (Unit) :=
  oB (M_Mo_ak 0) fun v2 =>
  oB (M_Mo_av 0) fun v8 =>
  oB (M_Mo_meta v2 v8 20) fun v17 =>
  oC (v17 = 0)
    (oC (v2 = 4)
      (oB (M_Mo_give 4 v8) fun _ =>
      M_Mo_tostring_j141)
      (oB (oPI 96 0 0) fun _ =>
      oB (M_Mo_sayValue v2 v8) fun _ =>
      oB (oGI 96 0) fun v120 =>
      oB (M_Mo_string 87 0 0 v120) fun v123 =>
      oC (v123 < 0)
        (M_Mo_tostring_j141)
        (oB (M_Mo_give 4 v123.toInt64) fun _ =>
        M_Mo_tostring_j141)))
    (oB (oGI 66 0) fun v24 =>
    oB (oGL 67 0) fun v30 =>
    oB (oPI 898 0 0) fun _ =>
    oB (M_Va_add 7 0 v2 v8) fun _ =>
    oB (M_Mo_push 4 (-1)) fun v55 =>
    oC (v55 = 0)
      (oB (oPI 898 0 0) fun _ =>
      oR ())
      (oB (oPI 75 0 v24) fun _ =>
      oB (oPL 76 0 v30) fun _ =>
      oB (oPI 73 0 1) fun _ =>
      oR ()))

def M_Mo_join_j245 (l1 : Int32) (l2 : Int32) (l7 : Int32) (l8 : Int32) (l12 : Int32) (l17 : Int32) (k0 : Int32) : M ((Int32 × Int32 × Int32 × Int32 × Int32 × Int64 × Int32) ⊕ ((Unit) ⊕ (Unit) ⊕ (Int32 × Int32 × Int32 × Int32 × Int64 × Int32 × Int32 × Int64) ⊕ (Int32 × Int32 × Int32 × Int32 × Int64))) :=
  oB (oPI 2050 0 l17) fun _ =>
  oC (0 ≤ k0)
    (oR (Sum.inl (l1, l2, l7, l8, 4, k0.toInt64, l12 + (-1))))
    (oR (Sum.inr (Sum.inr (Sum.inl ()))))

def M_Mo_join_j158 (l1 : Int32) (l2 : Int32) (l7 : Int32) (l8 : Int32) (l9 : Int32) (l10 : Int64) (l12 : Int32) (l13 : Int32) (l14 : Int64) (k0 : Int32) (k1 : Int32) : M ((Int32 × Int32 × Int32 × Int32 × Int32 × Int64 × Int32) ⊕ ((Unit) ⊕ (Unit) ⊕ (Int32 × Int32 × Int32 × Int32 × Int64 × Int32 × Int32 × Int64) ⊕ (Int32 × Int32 × Int32 × Int32 × Int64))) :=
  oL (k1 + k0) fun l16_159 =>
  oC (l16_159 ≤ 266740)
    (oB (M_Mo_sayValue l13 l14) fun _ =>
    oB (M_Mo_sayValue l9 l10) fun _ =>
    oB (oGI 2050 0) fun v197 =>
    oB (M_Va_add 16 0 l9 l10) fun _ =>
    oB (oGI 96 0) fun v214 =>
    oC (v214 ≤ 266667)
      (oB (oGI 96 0) fun v239 =>
      oB (M_Mo_string 87 0 0 v239) fun v242 =>
      M_Mo_join_j245 l1 l2 l7 l8 l12 v197 v242)
      (oB (M_Mo_raise 11) fun v226 =>
      M_Mo_join_j245 l1 l2 l7 l8 l12 v197 v226))
    (oR (Sum.inr (Sum.inl ())))

def M_Mo_join_j139 (l1 : Int32) (l2 : Int32) (l7 : Int32) (l8 : Int32) (l9 : Int32) (l10 : Int64) (l12 : Int32) (l13 : Int32) (l14 : Int64) (k0 : Int32) : M ((Int32 × Int32 × Int32 × Int32 × Int32 × Int64 × Int32) ⊕ ((Unit) ⊕ (Unit) ⊕ (Int32 × Int32 × Int32 × Int32 × Int64 × Int32 × Int32 × Int64) ⊕ (Int32 × Int32 × Int32 × Int32 × Int64))) :=
  oC (l9 = 4)
    (oB (oAI 63 4100 0 l10.toInt32) fun v152 =>
    M_Mo_join_j158 l1 l2 l7 l8 l9 l10 l12 l13 l14 v152 k0)
    (M_Mo_join_j158 l1 l2 l7 l8 l9 l10 l12 l13 l14 20 k0)

def M_Mo_join_j115 (l1 : Int32) (l2 : Int32) (l7 : Int32) (l8 : Int32) (l9 : Int32) (l10 : Int64) (l12 : Int32) (l13 : Int32) (l14 : Int64) : M ((Int32 × Int32 × Int32 × Int32 × Int32 × Int64 × Int32) ⊕ ((Unit) ⊕ (Unit) ⊕ (Int32 × Int32 × Int32 × Int32 × Int64 × Int32 × Int32 × Int64) ⊕ (Int32 × Int32 × Int32 × Int32 × Int64))) :=
  oB (oPI 96 0 0) fun _ =>
  oC (l13 = 4)
    (oB (oAI 63 4100 0 l14.toInt32) fun v133 =>
    M_Mo_join_j139 l1 l2 l7 l8 l9 l10 l12 l13 l14 v133)
    (M_Mo_join_j139 l1 l2 l7 l8 l9 l10 l12 l13 l14 20)

def M_Mo_join_j103 (l1 : Int32) (l2 : Int32) (l7 : Int32) (l8 : Int32) (l9 : Int32) (l10 : Int64) (l12 : Int32) (l13 : Int32) (l14 : Int64) : M ((Int32 × Int32 × Int32 × Int32 × Int32 × Int64 × Int32) ⊕ ((Unit) ⊕ (Unit) ⊕ (Int32 × Int32 × Int32 × Int32 × Int64 × Int32 × Int32 × Int64) ⊕ (Int32 × Int32 × Int32 × Int32 × Int64))) :=
  oC (l9 = 4)
    (M_Mo_join_j115 l1 l2 l7 l8 l9 l10 l12 l13 l14)
    (oC (l9 = 3)
      (M_Mo_join_j115 l1 l2 l7 l8 l9 l10 l12 l13 l14)
      (oR (Sum.inr (Sum.inr (Sum.inr (Sum.inl (l1, l2, l7, l9, l10, l12, l13, l14)))))))

def M_Mo_join_L51 : (Int32 × Int32 × Int32 × Int32 × Int32 × Int64 × Int32) → M ((Int32 × Int32 × Int32 × Int32 × Int32 × Int64 × Int32) ⊕ ((Unit) ⊕ (Unit) ⊕ (Int32 × Int32 × Int32 × Int32 × Int64 × Int32 × Int32 × Int64) ⊕ (Int32 × Int32 × Int32 × Int32 × Int64))) := fun x =>
  oB (M_Mo_b x.2.2.1) fun v55 =>
  oC (x.2.2.2.2.2.2 < v55)
    (oR (Sum.inr (Sum.inr (Sum.inr (Sum.inr (x.1, x.2.2.1, x.2.2.2.1, x.2.2.2.2.1, x.2.2.2.2.2.1))))))
    (oB (oAI 20 4300 x.1 (x.2.2.2.1 + x.2.2.2.2.2.2)) fun v73 =>
    oB (oAL 21 4300 x.1 (x.2.2.2.1 + x.2.2.2.2.2.2)) fun v88 =>
    oC (v73 = 4)
      (M_Mo_join_j103 x.1 x.2.1 x.2.2.1 x.2.2.2.1 x.2.2.2.2.1 x.2.2.2.2.2.1 x.2.2.2.2.2.2 v73 v88)
      (oC (v73 = 3)
        (M_Mo_join_j103 x.1 x.2.1 x.2.2.1 x.2.2.2.1 x.2.2.2.2.1 x.2.2.2.2.2.1 x.2.2.2.2.2.2 v73 v88)
        (oR (Sum.inr (Sum.inr (Sum.inr (Sum.inl (x.1, x.2.1, x.2.2.1, x.2.2.2.2.1, x.2.2.2.2.2.1, x.2.2.2.2.2.2, v73, v88))))))))

def M_Mo_join_j273 (l1 : Int32) (l2 : Int32) (l7 : Int32) (l9 : Int32) (l10 : Int64) (l12 : Int32) (l13 : Int32) (l14 : Int64) : M (Unit) :=
  oB (M_Mo_a l7) fun v277 =>
  oB (M_Mo_expect 4 v277 1) fun _ =>
  oB (oSI 40 201 l1 l2 l12) fun _ =>
  oB (M_Mo_either 15 l13 l14 l9 l10) fun v303 =>
  oC (v303 = 0)
    (oB (M_Mo_raise 3) fun v311 =>
    oR ())
    (oR ())

def M_Mo_join (l1 : Int32) (l2 : Int32) (l3 : Int32) (l4 : Int32) (l5 : Int64) : M (Unit) :=
  oB (oAI 31 201 l1 l2) fun v17 =>
  oB (oAI 62 4100 0 v17) fun v18 =>
  oB (oAI 49 251 0 v18) fun v19 =>
  oB (oAI 32 201 l1 l2) fun v25 =>
  oB (oAI 55 20001 0 ((v19 + v25) - 1)) fun v29 =>
  oB (oAI 33 201 l1 l2) fun v37 =>
  oB (oW M_Mo_join_L51 (l1, l2, v29, v37, l4, l5, l3)) fun e51 =>
  Sum.elim
    (fun y51_169 : Unit =>
      oB (M_Mo_raise 11) fun v172 =>
      oR ())
    (Sum.elim
      (fun y51_261 : Unit =>
        oR ())
      (Sum.elim
        (fun y51_273 : Int32 × Int32 × Int32 × Int32 × Int64 × Int32 × Int32 × Int64 =>
          M_Mo_join_j273 y51_273.1 y51_273.2.1 y51_273.2.2.1 y51_273.2.2.2.1 y51_273.2.2.2.2.1 y51_273.2.2.2.2.2.1 y51_273.2.2.2.2.2.2.1 y51_273.2.2.2.2.2.2.2)
        (fun y51_322 : Int32 × Int32 × Int32 × Int32 × Int64 =>
          oB (M_Mo_a y51_322.2.1) fun v330 =>
          oB (M_Va_set 19 y51_322.1 (y51_322.2.2.1 + v330) y51_322.2.2.2.1 y51_322.2.2.2.2) fun _ =>
          oR ()))) e51

def M_Mo_middle_j91 (k0 : Int32) (k1 : Int32) (k2r : Nat) (k2 : Int32) : M (Unit) :=
  oB (M_Va_set k2r k2 k1 k0 0) fun _ =>
  oR ()

def M_Mo_middle_j199 (l1 : Int32) (l2 : Int32) (l4 : Int32) : M (Unit) :=
  oB (oAI 32 201 l1 l2) fun v205 =>
  oB (M_Mo_sbx l4) fun v208 =>
  oB (oSI 32 201 l1 l2 (v205 + v208)) fun _ =>
  oR ()

def M_Mo_middle_j240 (l1 : Int32) (l2 : Int32) (k0 : Int32) (k1 : Int32) : M (Unit) :=
  oC (k1 = k0)
    (oB (oAI 32 201 l1 l2) fun v249 =>
    oB (oSI 32 201 l1 l2 (v249 + 1)) fun _ =>
    oR ())
    (oR ())

def M_Mo_middle_j281 (l1 : Int32) (l2 : Int32) (l6r : Nat) (l6 : Int32) (l7 : Int32) (l8 : Int32) (k0 : Int32) (k1 : Int32) : M (Unit) :=
  oC (k1 = k0)
    (oB (M_Va_set_ l6r l6 l7 l6r l6 l8) fun _ =>
    oR ())
    (oB (oAI 32 201 l1 l2) fun v304 =>
    oB (oSI 32 201 l1 l2 (v304 + 1)) fun _ =>
    oR ())

def M_Mo_middle (l1 : Int32) (l2 : Int32) (l3 : Int32) (l4 : Int32) (l5 : Int32) (l6r : Nat) (l6 : Int32) (l7 : Int32) : M (Unit) :=
  oB (oAI 33 201 l1 l2) fun v5 =>
  oB (M_Mo_b l4) fun v8 =>
  oL (v5 + v8) fun l8_12 =>
  oC (l5 = 27)
    (oB (oAI (l6r + 1) (lnI (l6r + 1)) l6 l8_12) fun v79 =>
    oB (M_Mo_truth v79) fun v80 =>
    oC (v80 = 0)
      (M_Mo_middle_j91 2 l7 l6r l6)
      (M_Mo_middle_j91 1 l7 l6r l6))
  (oC (l5 = 28)
    (oB (M_Mo_a l4) fun v101 =>
    oB (oAI (l6r + 1) (lnI (l6r + 1)) l6 l8_12) fun v111 =>
    oB (oAL (l6r + 2) (lnI (l6r + 2)) l6 l8_12) fun v119 =>
    oB (M_Mo_length v101 v111 v119 l6r l6 l7) fun _ =>
    oR ())
  (oC (l5 = 29)
    (oB (M_Mo_c l4) fun v135 =>
    oB (oAI 33 201 l1 l2) fun v150 =>
    oB (M_Mo_c l4) fun v153 =>
    oB (oAI (l6r + 1) (lnI (l6r + 1)) l6 (v150 + v153)) fun v157 =>
    oB (oAI 33 201 l1 l2) fun v168 =>
    oB (M_Mo_c l4) fun v171 =>
    oB (oAL (l6r + 2) (lnI (l6r + 2)) l6 (v168 + v171)) fun v175 =>
    oB (M_Mo_join l1 l2 (v135 - 1) v157 v175) fun _ =>
    oR ())
  (oC (l5 = 30)
    (oB (M_Mo_a l4) fun v184 =>
    oC (v184 = 0)
      (M_Mo_middle_j199 l1 l2 l4)
      (oB (M_Mo_close l1 (l7 - 1)) fun _ =>
      M_Mo_middle_j199 l1 l2 l4))
  (oC (l5 = 34)
    (oB (oAI (l6r + 1) (lnI (l6r + 1)) l6 l7) fun v223 =>
    oB (M_Mo_truth v223) fun v224 =>
    oB (M_Mo_c l4) fun v229 =>
    oC (v229 = 0)
      (M_Mo_middle_j240 l1 l2 1 v224)
      (M_Mo_middle_j240 l1 l2 0 v224))
  (oC (l5 = 35)
    (oB (oAI (l6r + 1) (lnI (l6r + 1)) l6 l8_12) fun v263 =>
    oB (M_Mo_truth v263) fun v264 =>
    oB (M_Mo_c l4) fun v269 =>
    oC (v269 = 1)
      (M_Mo_middle_j281 l1 l2 l6r l6 l7 l8_12 1 v264)
      (M_Mo_middle_j281 l1 l2 l6r l6 l7 l8_12 0 v264))
  (oB (M_Mo_compare l1 l2 l3 l4 l5) fun _ =>
  oR ()))))))

def M_Mo_begin_j177 (l1 : Int32) (l2 : Int32) : M ((Int32 × Int32) ⊕ ((Unit) ⊕ (Int32))) :=
  oR (Sum.inl (l1, l2 + 1))

def M_Mo_begin_L104 : (Int32 × Int32) → M ((Int32 × Int32) ⊕ ((Unit) ⊕ (Int32))) := fun x =>
  oB (oGI 25 0) fun v106 =>
  oC (v106 ≤ x.2)
    (oR (Sum.inr (Sum.inr x.1)))
    (oB (oAI 2 20001 0 x.2) fun v120 =>
    oC (v120 = 4)
      (oB (oAI 57 20001 0 x.2) fun v138 =>
      oB (oAL 3 20001 0 x.2) fun v147 =>
      oB (M_Mo_string 41 0 v138 v147.toInt32) fun v149 =>
      oC (0 ≤ v149)
        (oB (oSI 60 4100 0 v149 (vp_nar .boolean 1)) fun _ =>
        oB (oSL 3 20001 0 x.2 v149.toInt64) fun _ =>
        M_Mo_begin_j177 x.1 x.2)
        (oR (Sum.inr (Sum.inl ()))))
      (M_Mo_begin_j177 x.1 x.2))

def M_Mo_begin_L185 : (Int32 × Int32) → M ((Int32 × Int32) ⊕ ((Unit) ⊕ (Int32))) := fun x =>
  oC (24 ≤ x.2)
    (oR (Sum.inr (Sum.inr x.1)))
    (oB (oGI 74 0) fun v193 =>
    oB (oAI 85 24 0 x.2) fun v202 =>
    oB (M_Mo_put v193 4 v202.toInt64 6 (((-1) - x.2).toInt64)) fun v210 =>
    oC (v210 = 0)
      (oR (Sum.inr (Sum.inl ())))
      (oR (Sum.inl (x.1, x.2 + 1))))

def M_Mo_begin  : M (Int32) :=
  oB (M_Mo_table) fun v2 =>
  oB (oPI 74 0 v2) fun _ =>
  oB (oGI 74 0) fun v9 =>
  oC (v9 < 0)
    (oR 0)
    (oB (M_Mo_words 78 0 85 0) fun v24 =>
    oC (v24 = 0)
      (oR 0)
      (oB (M_Mo_words 79 0 82 0) fun v39 =>
      oC (v39 = 0)
        (oR 0)
        (oB (M_Mo_words 80 0 83 0) fun v54 =>
        oC (v54 = 0)
          (oR 0)
          (oB (M_Mo_words 81 0 84 0) fun v69 =>
          oC (v69 = 0)
            (oR 0)
            (oB (M_Mo_newVariable) fun v78 =>
            oC (0 ≤ v78)
              (oB (oGI 74 0) fun v95 =>
              oB (M_Va_set 4 0 v78 5 v95.toInt64) fun _ =>
              oB (oW M_Mo_begin_L104 (v78, 0)) fun e104 =>
              Sum.elim
                (fun y104_157 : Unit =>
                  oR 0)
                (fun y104_183 : Int32 =>
                  oB (oW M_Mo_begin_L185 (y104_183, 0)) fun e185 =>
                  Sum.elim
                    (fun y185_216 : Unit =>
                      oR 0)
                    (fun y185_224 : Int32 =>
                      oB (oSI 77 64 0 0 y185_224) fun _ =>
                      oB (M_Mo_closure 0 0 1) fun v235 =>
                      oC (0 ≤ v235)
                        (oB (M_Mo_thread_) fun v246 =>
                        oC (0 ≤ v246)
                          (oB (oK ((0 : Int32) ≤ 0 ∧ 0 < (33 : Int32))) fun _ =>
                          oB (oPI 3585 0 1) fun _ =>
                          oB (oK ((0 : Int32) ≤ 0 ∧ 0 < (33 : Int32))) fun _ =>
                          oB (oPI 3589 0 1) fun _ =>
                          oB (oK ((0 : Int32) ≤ 0 ∧ 0 < (33 : Int32))) fun _ =>
                          oB (oPI 72 0 0) fun _ =>
                          oB (oPI 92 0 0) fun _ =>
                          oB (oPI 898 0 0) fun _ =>
                          oB (M_Mo_enter v235) fun _ =>
                          oR 1)
                          (oR 0))
                        (oR 0)) e185) e104)
              (oR 0))))))

def M_Mo_print_L72 : (Int32 × Int32) → M ((Int32 × Int32) ⊕ ((Int32))) := fun x =>
  oB (oGI 96 0) fun v74 =>
  oC (v74 ≤ x.2)
    (oR (Sum.inr x.1))
    (oB (oGI 95 0) fun v81 =>
    oC (20000 ≤ v81)
      (oR (Sum.inr x.1))
      (oB (oGI 95 0) fun v96 =>
      oB (oPI 95 0 (v96 + 1)) fun _ =>
      oB (oAI 87 266800 0 x.2) fun v110 =>
      oB (oSI 88 20000 0 v96 v110.toInt8.toInt32) fun _ =>
      oR (Sum.inl (x.1, x.2 + 1))))

def M_Mo_print_j118 (l1 : Int32) : M ((Int32) ⊕ ((Unit))) :=
  oR (Sum.inl (l1 + 1))

def M_Mo_print_j70 (l1 : Int32) : M ((Int32) ⊕ ((Unit))) :=
  oB (oW M_Mo_print_L72 (l1, 0)) fun e72 =>
  M_Mo_print_j118 e72

def M_Mo_print_j48 (l1 : Int32) : M ((Int32) ⊕ ((Unit))) :=
  oB (oAI 8 400 0 l1) fun v57 =>
  oB (oAL 9 400 0 l1) fun v66 =>
  oB (M_Mo_sayValue v57 v66) fun _ =>
  M_Mo_print_j70 l1

def M_Mo_print_L2 : (Int32) → M ((Int32) ⊕ ((Unit))) := fun x =>
  oB (oGI 898 0) fun v7 =>
  oC (v7 < x)
    (oR (Sum.inr ()))
    (oB (oPI 96 0 0) fun _ =>
    oB (oGI 898 0) fun v23 =>
    oC (x = v23)
      (oB (M_Mo_say 10) fun _ =>
      M_Mo_print_j70 x)
      (oC (x ≤ 0)
        (M_Mo_print_j48 x)
        (oB (M_Mo_say 9) fun _ =>
        M_Mo_print_j48 x)))

def M_Mo_print  : M (Unit) :=
  oB (oW M_Mo_print_L2 0) fun e2 =>
  oB (M_Mo_giveNone) fun _ =>
  oR ()

def M_Mo_taken_j248 (l1 : Int32) (l2 : Int32) (l3 : Int32) (l7 : Int32) : M ((Int32 × Int32 × Int32 × Int32) ⊕ ((Unit))) :=
  oR (Sum.inl (l1, l2, l3, l7 + 1))

def M_Mo_taken_L178 : (Int32 × Int32 × Int32 × Int32) → M ((Int32 × Int32 × Int32 × Int32) ⊕ ((Unit))) := fun x =>
  oB (oAI 39 201 x.1 x.2.1) fun v185 =>
  oC (v185 ≤ x.2.2.2)
    (oR (Sum.inr ()))
    (oB (oGI 1282 0) fun v195 =>
    oC (v195 ≤ x.2.2.2)
      (oB (oAI 38 201 x.1 x.2.1) fun v238 =>
      oB (M_Va_set 19 x.1 ((x.2.2.1 + v238) + x.2.2.2) 0 0) fun _ =>
      M_Mo_taken_j248 x.1 x.2.1 x.2.2.1 x.2.2.2)
      (oB (oAI 38 201 x.1 x.2.1) fun v211 =>
      oB (M_Va_set_ 19 x.1 ((x.2.2.1 + v211) + x.2.2.2) 10 0 x.2.2.2) fun _ =>
      M_Mo_taken_j248 x.1 x.2.1 x.2.2.1 x.2.2.2))

def M_Mo_taken_j350  : M (Unit) :=
  oB (oPI 1282 0 0) fun _ =>
  oR ()

def M_Mo_taken_L116 : (Int32 × Int32 × Int32) → M ((Int32 × Int32 × Int32) ⊕ ((Int32 × Int32))) := fun x =>
  oB (oGI 1282 0) fun v122 =>
  oC (v122 ≤ x.2.2)
    (oR (Sum.inr (x.1, x.2.1)))
    (oB (M_Va_add_ 22 x.1 10 0 x.2.2) fun _ =>
    oR (Sum.inl (x.1, x.2.1, x.2.2 + 1)))

def M_Mo_taken_j305 (l1 : Int32) (l2 : Int32) (k0 : Int32) (k1 : Int32) : M (Unit) :=
  oC (k1 = k0)
    (M_Mo_taken_j350)
    (oB (oAI 32 201 l1 l2) fun v314 =>
    oB (oSI 32 201 l1 l2 (v314 + 1)) fun _ =>
    M_Mo_taken_j350)

def M_Mo_taken_j290 (l1 : Int32) (l2 : Int32) (k0 : Int32) : M (Unit) :=
  oB (oAI 38 201 l1 l2) fun v295 =>
  oC (v295 = 1)
    (M_Mo_taken_j305 l1 l2 1 k0)
    (M_Mo_taken_j305 l1 l2 0 k0)

def M_Mo_taken_j55 (l1 : Int32) (l2 : Int32) (l3 : Int32) (l4 : Int32) (k0 : Int64) : M (Unit) :=
  oB (oAI 37 201 l1 l2) fun v62 =>
  oC (v62 = 0)
    (oB (oAI 39 201 l1 l2) fun v101 =>
    oC (0 ≤ v101)
      (oB (oW M_Mo_taken_L178 (l1, l2, l3, 0)) fun e178 =>
      M_Mo_taken_j350)
      (oB (oPI 2818 l1 0) fun _ =>
      oB (oW M_Mo_taken_L116 (l1, l2, 0)) fun e116 =>
      oB (oAI 38 201 e116.1 e116.2) fun v157 =>
      oB (oSI 35 201 e116.1 e116.2 v157) fun _ =>
      oB (oGI 1282 0) fun v168 =>
      oB (oSI 36 201 e116.1 e116.2 v168) fun _ =>
      M_Mo_taken_j350))
  (oC (v62 = 1)
    (oB (oAI 38 201 l1 l2) fun v267 =>
    oB (M_Va_set 19 l1 (l3 + v267) l4 k0) fun _ =>
    M_Mo_taken_j350)
  (oC (v62 = 2)
    (oC (l4 ≤ 1)
      (M_Mo_taken_j290 l1 l2 0)
      (M_Mo_taken_j290 l1 l2 1))
  (oC (v62 = 4)
    (oB (oPI 1282 0 0) fun _ =>
    oB (oAI 40 201 l1 l2) fun v337 =>
    oB (M_Mo_join l1 l2 (v337 - 1) l4 k0) fun _ =>
    M_Mo_taken_j350)
  (M_Mo_taken_j350))))

def M_Mo_taken_j30 (l1 : Int32) (l2 : Int32) (l3 : Int32) (k0 : Int32) : M (Unit) :=
  oB (oGI 1282 0) fun v36 =>
  oC (v36 ≤ 0)
    (M_Mo_taken_j55 l1 l2 l3 k0 0)
    (oB (oAL 12 400 0 0) fun v50 =>
    M_Mo_taken_j55 l1 l2 l3 k0 v50)

def M_Mo_taken (l1 : Int32) (l2 : Int32) : M (Unit) :=
  oB (oAI 33 201 l1 l2) fun v5 =>
  oB (oGI 1282 0) fun v11 =>
  oC (v11 ≤ 0)
    (M_Mo_taken_j30 l1 l2 v5 0)
    (oB (oAI 11 400 0 0) fun v25 =>
    M_Mo_taken_j30 l1 l2 v5 v25)

def M_Mo_step  : M (Unit) :=
  oB (oGI 72 0) fun v1 =>
  oB (oK ((0 : Int32) ≤ v1 ∧ v1 < (33 : Int32))) fun _ =>
  oB (M_Th_top v1) fun v6 =>
  oB (oK ((0 : Int32) ≤ v1 ∧ v1 < (33 : Int32))) fun _ =>
  oB (oAI 31 201 v1 v6) fun v19 =>
  oB (oAI 62 4100 0 v19) fun v20 =>
  oB (oAI 49 251 0 v20) fun v31 =>
  oB (oK ((0 : Int32) ≤ v1 ∧ v1 < (33 : Int32))) fun _ =>
  oB (oAI 32 201 v1 v6) fun v37 =>
  oB (oAI 55 20001 0 (v31 + v37)) fun v39 =>
  oB (oK ((0 : Int32) ≤ v1 ∧ v1 < (33 : Int32))) fun _ =>
  oB (oAI 32 201 v1 v6) fun v48 =>
  oB (oSI 32 201 v1 v6 (v48 + 1)) fun _ =>
  oB (oGL 81 0) fun v54 =>
  oB (oPL 81 0 (v54 + 1)) fun _ =>
  oB (M_Mo_op v39) fun v64 =>
  oB (oK ((0 : Int32) ≤ v1 ∧ v1 < (33 : Int32))) fun _ =>
  oB (oK ((0 : Int32) ≤ v1 ∧ v1 < (33 : Int32))) fun _ =>
  oB (oAI 33 201 v1 v6) fun v80 =>
  oB (M_Mo_a v39) fun v83 =>
  oL (v80 + v83) fun l7_87 =>
  oC (12 ≤ v64)
    (oC (v64 = 12)
      (oB (oK ((0 : Int32) ≤ v1 ∧ v1 < (33 : Int32))) fun _ =>
      oB (M_Mo_self v1 v6 v20 v39 19 v1 l7_87) fun _ =>
      oR ())
      (oC (27 ≤ v64)
        (oC (36 ≤ v64)
          (oB (oK ((0 : Int32) ≤ v1 ∧ v1 < (33 : Int32))) fun _ =>
          oB (M_Mo_high v1 v6 v20 v39 v64 19 v1 l7_87) fun _ =>
          oR ())
          (oB (oK ((0 : Int32) ≤ v1 ∧ v1 < (33 : Int32))) fun _ =>
          oB (M_Mo_middle v1 v6 v20 v39 v64 19 v1 l7_87) fun _ =>
          oR ()))
        (oB (oK ((0 : Int32) ≤ v1 ∧ v1 < (33 : Int32))) fun _ =>
        oB (M_Mo_arithmetic v1 v6 v20 v39 v64 19 v1 l7_87) fun _ =>
        oR ())))
    (oB (oK ((0 : Int32) ≤ v1 ∧ v1 < (33 : Int32))) fun _ =>
    oB (M_Mo_small v1 v6 v20 v39 v64 19 v1 l7_87) fun _ =>
    oR ())

def M_Mo_builtIn_j388  : M (Unit) :=
  oB (oPI 898 0 0) fun _ =>
  oR ()

def M_Mo_builtIn_j158 (k0 : Int32) (k2 : Int32) : M (Unit) :=
  oB (oAI 83 7 0 k0) fun v158 =>
  oB (M_Mo_give k2 v158.toInt64) fun _ =>
  M_Mo_builtIn_j388

def M_Mo_builtIn_j252 (k0 : Int32) : M (Unit) :=
  oB (M_Mo_give k0 0) fun _ =>
  M_Mo_builtIn_j388

def M_Mo_builtIn_j251  : M (Unit) :=
  M_Mo_builtIn_j252 1

def M_Mo_builtIn_j344 (k0 : Int32) : M (Unit) :=
  oB (M_Mo_create k0) fun _ =>
  M_Mo_builtIn_j388

def M_Mo_builtIn (l1 : Int32) : M (Unit) :=
  oC (l1 = 0)
    (oB (M_Mo_print) fun _ =>
    M_Mo_builtIn_j388)
  (oC (l1 = 1)
    (oB (M_Mo_tostring) fun _ =>
    oR ())
  (oC (l1 = 2)
    (oB (M_Mo_ak 0) fun v128 =>
    oC (v128 = 0)
      (M_Mo_builtIn_j158 0 4)
      (oB (M_Mo_ak 0) fun v140 =>
      oC (2 < v140)
        (oB (M_Mo_ak 0) fun v153 =>
        M_Mo_builtIn_j158 (v153 - 1) 4)
        (M_Mo_builtIn_j158 1 4)))
  (oC (l1 = 3)
    (oB (M_Mo_ak 0) fun v169 =>
    oB (oPI 64 0 v169) fun _ =>
    oB (M_Mo_av 0) fun v178 =>
    oB (oPL 65 0 v178) fun _ =>
    oB (oPI 73 0 3) fun _ =>
    M_Mo_builtIn_j388)
  (oC (l1 = 4)
    (oB (M_Mo_pcall) fun _ =>
    oR ())
  (oC (l1 = 5)
    (oB (M_Mo_setMeta) fun _ =>
    M_Mo_builtIn_j388)
  (oC (l1 = 6)
    (oB (M_Mo_getMeta) fun _ =>
    M_Mo_builtIn_j388)
  (oC (l1 = 7 ∨ l1 = 8 ∨ l1 = 9)
    (oB (M_Mo_rawOf l1) fun _ =>
    M_Mo_builtIn_j388)
  (oC (l1 = 10)
    (oB (M_Mo_ak 0) fun v222 =>
    oB (M_Mo_ak 1) fun v227 =>
    oC (v222 = v227)
      (oB (M_Mo_av 0) fun v235 =>
      oB (M_Mo_av 1) fun v240 =>
      oC ((lg_cmp v235 v240) = 0)
        (M_Mo_builtIn_j252 2)
        (M_Mo_builtIn_j251))
      (M_Mo_builtIn_j251))
  (oC (l1 = 11)
    (oB (M_Mo_next) fun _ =>
    M_Mo_builtIn_j388)
  (oC (l1 = 12)
    (oB (M_Mo_select) fun _ =>
    M_Mo_builtIn_j388)
  (oC (l1 = 13)
    (oB (M_Mo_sub) fun _ =>
    M_Mo_builtIn_j388)
  (oC (l1 = 14)
    (oB (M_Mo_byteOf) fun _ =>
    M_Mo_builtIn_j388)
  (oC (l1 = 15)
    (oB (M_Mo_characters) fun _ =>
    M_Mo_builtIn_j388)
  (oC (l1 = 16)
    (oB (M_Mo_is 0 4) fun v297 =>
    oC (v297 = 0)
      (oB (M_Mo_raise 3) fun v325 =>
      M_Mo_builtIn_j388)
      (oB (M_Mo_av 0) fun v311 =>
      oB (oAI 63 4100 0 v311.toInt32) fun v315 =>
      oB (M_Mo_give 3 v315.toInt64) fun _ =>
      M_Mo_builtIn_j388))
  (oC (l1 = 17 ∨ l1 = 22)
    (oC (l1 = 22)
      (M_Mo_builtIn_j344 1)
      (M_Mo_builtIn_j344 0))
  (oC (l1 = 18)
    (oB (M_Mo_resume) fun _ =>
    oR ())
  (oC (l1 = 19)
    (oB (M_Mo_giveWay) fun _ =>
    oR ())
  (oC (l1 = 20)
    (oB (M_Mo_state) fun _ =>
    M_Mo_builtIn_j388)
  (oC (l1 = 21)
    (oB (M_Mo_running) fun _ =>
    M_Mo_builtIn_j388)
  (oB (M_Mo_collection) fun _ =>
  oB (oGI 34 0) fun v381 =>
  oB (M_Mo_give 3 v381.toInt64) fun _ =>
  M_Mo_builtIn_j388))))))))))))))))))))

def M_Mo_deliver_L126 : (Int32) → M ((Int32) ⊕ ((Unit))) := fun x =>
  oC (x ≤ 0)
    (oR (Sum.inr ()))
    (oB (M_Va_set_ 10 0 x 10 0 (x - 1)) fun _ =>
    oR (Sum.inl (x + (-1))))

def M_Mo_deliver_j215  : M (Unit) :=
  oB (oPI 1282 0 0) fun _ =>
  oB (M_Mo_raise 3) fun v225 =>
  oR ()

def M_Mo_deliver  : M (Unit) :=
  oB (oPI 73 0 0) fun _ =>
  oB (oGI 72 0) fun v6 =>
  oB (oK ((0 : Int32) ≤ v6 ∧ v6 < (33 : Int32))) fun _ =>
  oB (oGI 3586 v6) fun v11 =>
  oC (v11 = 0)
    (oB (M_Mo_finished) fun _ =>
    oR ())
    (oB (oK ((0 : Int32) ≤ v6 ∧ v6 < (33 : Int32))) fun _ =>
    oB (M_Th_top v6) fun v23 =>
    oB (oK ((0 : Int32) ≤ v6 ∧ v6 < (33 : Int32))) fun _ =>
    oB (oAI 30 201 v6 v23) fun v32 =>
    oC (v32 = 0)
      (oB (oK ((0 : Int32) ≤ v6 ∧ v6 < (33 : Int32))) fun _ =>
      oB (M_Mo_taken v6 v23) fun _ =>
      oR ())
    (oC (v32 = 1 ∨ v32 = 2)
      (oB (oK ((0 : Int32) ≤ v6 ∧ v6 < (33 : Int32))) fun _ =>
      oB (oGI 3586 v6) fun v79 =>
      oB (oPI 3586 v6 (v79 - 1)) fun _ =>
      oB (oGI 1282 0) fun v91 =>
      oC (v91 = 250)
        (oB (oPI 1282 0 0) fun _ =>
        oB (M_Mo_raise 7) fun v111 =>
        oR ())
        (oB (oGI 1282 0) fun v122 =>
        oB (oW M_Mo_deliver_L126 v122) fun e126 =>
        oB (M_Va_set 10 0 0 2 0) fun _ =>
        oB (oGI 1282 0) fun v166 =>
        oB (oPI 1282 0 (v166 + 1)) fun _ =>
        oB (oPI 73 0 2) fun _ =>
        oR ()))
    (oC (v32 = 4)
      (oB (oK ((0 : Int32) ≤ v6 ∧ v6 < (33 : Int32))) fun _ =>
      oB (oGI 3586 v6) fun v184 =>
      oB (oPI 3586 v6 (v184 - 1)) fun _ =>
      oB (oGI 1282 0) fun v196 =>
      oC (v196 = 0)
        (M_Mo_deliver_j215)
        (oB (oAI 11 400 0 0) fun v210 =>
        oC (v210 = 4)
          (oB (oPI 1282 0 1) fun _ =>
          oB (oPI 73 0 2) fun _ =>
          oR ())
          (M_Mo_deliver_j215)))
    (oB (oK ((0 : Int32) ≤ v6 ∧ v6 < (33 : Int32))) fun _ =>
    oB (oGI 3586 v6) fun v250 =>
    oB (oPI 3586 v6 (v250 - 1)) fun _ =>
    oB (oPI 73 0 2) fun _ =>
    oR ()))))

def M_Mo_call_L73 : (Int32 × Int32) → M ((Int32 × Int32) ⊕ ((Int32))) := fun x =>
  oC (x.2 ≤ 0)
    (oR (Sum.inr x.1))
    (oB (M_Va_set_ 7 0 x.2 7 0 (x.2 - 1)) fun _ =>
    oR (Sum.inl (x.1, x.2 + (-1))))

def M_Mo_call_L7 : (Int32) → M ((Int32) ⊕ ((Unit) ⊕ (Unit) ⊕ (Unit))) := fun x =>
  oB (oGI 75 0) fun v8 =>
  oC (v8 = 6)
    (oR (Sum.inr (Sum.inr (Sum.inr ()))))
    (oB (oGI 75 0) fun v18 =>
    oB (oGL 76 0) fun v22 =>
    oB (M_Mo_meta v18 v22 2) fun v26 =>
    oC (v26 = 0)
      (oR (Sum.inr (Sum.inl ())))
      (oC ((x + 1) = 100)
        (oR (Sum.inr (Sum.inr (Sum.inl ()))))
        (oB (oGI 898 0) fun v69 =>
        oB (oW M_Mo_call_L73 (x + 1, v69)) fun e73 =>
        oB (oGI 75 0) fun v104 =>
        oB (oGL 76 0) fun v108 =>
        oB (M_Va_set 7 0 0 v104 v108) fun _ =>
        oB (oGI 898 0) fun v119 =>
        oB (oPI 898 0 (v119 + 1)) fun _ =>
        oB (oGI 66 0) fun v129 =>
        oB (oPI 75 0 v129) fun _ =>
        oB (oGL 67 0) fun v137 =>
        oB (oPL 76 0 v137) fun _ =>
        oR (Sum.inl e73))))

def M_Mo_call  : M (Unit) :=
  oB (oPI 73 0 0) fun _ =>
  oB (oW M_Mo_call_L7 0) fun e7 =>
  Sum.elim
    (fun y7_32 : Unit =>
      oB (oPI 75 0 0) fun _ =>
      oB (M_Mo_raise 1) fun v39 =>
      oR ())
    (Sum.elim
      (fun y7_53 : Unit =>
        oB (oPI 75 0 0) fun _ =>
        oB (M_Mo_raise 4) fun v60 =>
        oR ())
      (fun y7_146 : Unit =>
        oB (oGI 898 0) fun v150 =>
        oC (v150 ≤ 250)
          (oB (oGL 76 0) fun v181 =>
          oC (0 ≤ (lg_cmp v181 0))
            (oB (oGL 76 0) fun v217 =>
            oB (oPI 75 0 0) fun _ =>
            oB (oAI 62 4100 0 v217.toInt32) fun v232 =>
            oC (0 ≤ v232)
              (oB (M_Mo_enter v217.toInt32) fun _ =>
              oR ())
              (oB (oAI 63 4100 0 v217.toInt32) fun v250 =>
              oB (oAI 62 4100 0 v250) fun v251 =>
              oB (oK ((0 : Int32) ≤ v251 ∧ v251 < (33 : Int32))) fun _ =>
              oB (oAI 63 4100 0 v217.toInt32) fun v258 =>
              oB (M_Mo_goesOn v251 v258 3 v217.toInt32 0) fun _ =>
              oR ()))
            (oB (oGL 76 0) fun v194 =>
            oB (M_Mo_builtIn (((-1) - v194).toInt32)) fun _ =>
            oB (oGI 73 0) fun v203 =>
            oC (v203 = 1)
              (oR ())
              (oB (oPI 75 0 0) fun _ =>
              oR ())))
          (oB (oPI 75 0 0) fun _ =>
          oB (oPI 898 0 0) fun _ =>
          oB (M_Mo_raise 7) fun v175 =>
          oR ()))) e7

def M_Mo_run_L54 : (Int32) → M ((Int32) ⊕ ((Unit) ⊕ (Unit))) := fun x =>
  oB (oGI 80 0) fun v55 =>
  oC (v55 = 0)
    (oB (oGI 73 0) fun v62 =>
    oC (v62 = 1)
      (oB (M_Mo_call) fun _ =>
      oR (Sum.inl x))
      (oB (oGI 73 0) fun v77 =>
      oC (v77 = 2)
        (oB (M_Mo_deliver) fun _ =>
        oR (Sum.inl x))
        (oB (oGI 73 0) fun v92 =>
        oC (v92 = 3)
          (oB (M_Mo_error) fun _ =>
          oR (Sum.inl x))
          (oB (oGI 73 0) fun v107 =>
          oC (v107 = 4)
            (oB (M_Mo_halt) fun _ =>
            oR (Sum.inl x))
            (oC (x = 0)
              (oR (Sum.inr (Sum.inl ())))
              (oB (M_Mo_step) fun _ =>
              oR (Sum.inl (x + (-1)))))))))
    (oR (Sum.inr (Sum.inr ())))

def M_Mo_run_j138  : M (Int32) :=
  oB (oGI 80 0) fun v139 =>
  oR v139

def M_Mo_run_j44 (l1 : Int32) (k0 : Int32) (k1 : Int32) : M (Int32) :=
  oB (M_Mo_refuse k1 k0) fun v44 =>
  oC (v44 = 0)
    (oB (oW M_Mo_run_L54 l1) fun e54 =>
    Sum.elim
      (fun y54_125 : Unit =>
        M_Mo_run_j138)
      (fun y54_138 : Unit =>
        M_Mo_run_j138) e54)
    (oR 0)

def M_Mo_run_j24 (l1 : Int32) (k0 : Int32) (k1 : Int32) : M (Int32) :=
  oB (M_Mo_refuse k1 k0) fun v24 =>
  oC (v24 = 0)
    (oB (oGI 5 0) fun v33 =>
    oC (v33 = 0)
      (M_Mo_run_j44 l1 1 2)
      (M_Mo_run_j44 l1 0 2))
    (oR 0)

def M_Mo_run_j19 (l1 : Int32) (k0 : Int32) : M (Int32) :=
  M_Mo_run_j24 l1 1 k0

def M_Mo_run (l1 : Int32) : M (Int32) :=
  oB (oPI 2 0 0) fun _ =>
  oC (l1 < 1)
    (M_Mo_run_j19 l1 1)
    (oC (l1 ≤ 100000)
      (M_Mo_run_j24 l1 0 1)
      (M_Mo_run_j19 l1 1))

def M_Mo_proto_j24 (rec : Int32 → Int32 → M (Unit))  : M (Unit) :=
  oB (oGI 28 0) fun v27 =>
  oB (M_Mo_bad 3 v27) fun v30 =>
  oR ()

def M_Mo_proto_L237 (rec : Int32 → Int32 → M (Unit)) : (Int32 × Int32 × Int32 × Int32) → M ((Int32 × Int32 × Int32 × Int32) ⊕ ((Int32 × Int32))) := fun x =>
  oB (oAI 45 251 0 x.2.2.1) fun v244 =>
  oC (v244 ≤ x.2.2.2)
    (oR (Sum.inr (x.2.1, x.2.2.1)))
    (oB (M_Mo_upvalue x.1) fun _ =>
    oR (Sum.inl (x.1, x.2.1, x.2.2.1, x.2.2.2 + 1)))

def M_Mo_proto_j365 (rec : Int32 → Int32 → M (Unit)) (l2 : Int32) (l3 : Int32) (l4 : Int32) (l5 : Int32) (l6 : Int32) (l7 : Int32) : M ((Int32 × Int32 × Int32 × Int32) ⊕ ((Int32 × Int32) ⊕ (Int32 × Int32))) :=
  oB (oGI 3 0) fun v366 =>
  oC (v366 = 0)
    (oB (oGI 26 0) fun v380 =>
    oB (oSI 55 20001 0 v380 l7) fun _ =>
    oB (oGI 26 0) fun v392 =>
    oB (oPI 26 0 (v392 + 1)) fun _ =>
    oB (oSI 56 20001 0 v392 l6) fun _ =>
    oR (Sum.inl (l2, l3, l4, l5 + 1)))
    (oR (Sum.inr (Sum.inl (l2, l3))))

def M_Mo_proto_L307 (rec : Int32 → Int32 → M (Unit)) : (Int32 × Int32 × Int32 × Int32) → M ((Int32 × Int32 × Int32 × Int32) ⊕ ((Int32 × Int32) ⊕ (Int32 × Int32))) := fun x =>
  oC (x.2.2.1 ≤ x.2.2.2)
    (oR (Sum.inr (Sum.inr (x.1, x.2.1))))
    (oB (oGI 3 0) fun v315 =>
    oC (v315 = 0)
      (oB (oGI 28 0) fun v322 =>
      oB (M_Mo_number 4) fun v329 =>
      oB (oGI 3 0) fun v336 =>
      oC (v336 = 0)
        (oB (oGI 25 0) fun v343 =>
        oB (oGI 26 0) fun v347 =>
        oC ((v343 + v347) = 20000)
          (oB (M_Mo_bad 4 v322) fun v361 =>
          M_Mo_proto_j365 rec x.1 x.2.1 x.2.2.1 x.2.2.2 v322 v329.toInt32)
          (M_Mo_proto_j365 rec x.1 x.2.1 x.2.2.1 x.2.2.2 v322 v329.toInt32))
        (M_Mo_proto_j365 rec x.1 x.2.1 x.2.2.1 x.2.2.2 v322 v329.toInt32))
      (oR (Sum.inr (Sum.inr (x.1, x.2.1)))))

def M_Mo_proto_j505 (rec : Int32 → Int32 → M (Unit)) (l2 : Int32) (l3 : Int32) (l5 : Int32) (l6 : Int32) : M ((Int32 × Int32 × Int32 × Int32) ⊕ ((Unit))) :=
  oB (rec l3 (l2 + 1)) fun _ =>
  oR (Sum.inl (l2, l3, l5, l6 + 1))

def M_Mo_proto_L458 (rec : Int32 → Int32 → M (Unit)) : (Int32 × Int32 × Int32 × Int32) → M ((Int32 × Int32 × Int32 × Int32) ⊕ ((Unit))) := fun x =>
  oC (x.2.2.1 ≤ x.2.2.2)
    (oR (Sum.inr ()))
    (oB (oGI 3 0) fun v466 =>
    oC (v466 = 0)
      (oB (oAI 51 251 0 x.2.1) fun v477 =>
      oC (256 ≤ (v477 + x.2.2.2))
        (M_Mo_proto_j505 rec x.1 x.2.1 x.2.2.1 x.2.2.2)
        (oB (oAI 51 251 0 x.2.1) fun v496 =>
        oB (oGI 23 0) fun v501 =>
        oB (oSI 54 256 0 (v496 + x.2.2.2) v501) fun _ =>
        M_Mo_proto_j505 rec x.1 x.2.1 x.2.2.1 x.2.2.2))
      (oR (Sum.inr ())))

def M_Mo_proto_j410 (rec : Int32 → Int32 → M (Unit)) (l2 : Int32) (l3 : Int32) : M (Unit) :=
  oB (M_Mo_number 1) fun v412 =>
  oB (oGI 3 0) fun v419 =>
  oC (v419 = 0)
    (oB (oSI 52 251 0 l3 v412.toInt32) fun _ =>
    oB (oGI 27 0) fun v440 =>
    oB (oSI 51 251 0 l3 v440) fun _ =>
    oB (oGI 27 0) fun v446 =>
    oB (oPI 27 0 (v446 + v412.toInt32)) fun _ =>
    oB (oW (M_Mo_proto_L458 rec) (l2, l3, v412.toInt32, 0)) fun e458 =>
    oR ())
    (oR ())

def M_Mo_proto_j283 (rec : Int32 → Int32 → M (Unit)) (l2 : Int32) (l3 : Int32) (l4 : Int32) (k0 : Int32) : M (Unit) :=
  oB (M_Mo_need k0) fun _ =>
  oB (oGI 26 0) fun v292 =>
  oB (oSI 49 251 0 l3 v292) fun _ =>
  oB (oSI 50 251 0 l3 l4) fun _ =>
  oB (oW (M_Mo_proto_L307 rec) (l2, l3, l4, 0)) fun e307 =>
  Sum.elim
    (fun y307_372 : Int32 × Int32 =>
      M_Mo_proto_j410 rec y307_372.1 y307_372.2)
    (fun y307_410 : Int32 × Int32 =>
      M_Mo_proto_j410 rec y307_410.1 y307_410.2) e307

def M_Mo_proto_j213 (rec : Int32 → Int32 → M (Unit)) (l1 : Int32) (l2 : Int32) (l3 : Int32) (k0 : Int32) : M (Unit) :=
  oB (M_Mo_need k0) fun _ =>
  oB (oGI 3 0) fun v217 =>
  oC (v217 = 0)
    (oB (oGI 24 0) fun v230 =>
    oB (oSI 46 251 0 l3 v230) fun _ =>
    oB (oW (M_Mo_proto_L237 rec) (l1, l2, l3, 0)) fun e237 =>
    oB (M_Mo_readConstants e237.2) fun _ =>
    oB (M_Mo_number 2) fun v266 =>
    oC (v266.toInt32 ≤ 0)
      (M_Mo_proto_j283 rec e237.1 e237.2 v266.toInt32 0)
      (M_Mo_proto_j283 rec e237.1 e237.2 v266.toInt32 1))
    (oR ())

def M_Mo_proto_j159 (rec : Int32 → Int32 → M (Unit)) (l1 : Int32) (l2 : Int32) (l3 : Int32) (k0 : Int32) : M (Unit) :=
  oB (M_Mo_need k0) fun _ =>
  oB (M_Mo_number 1) fun v169 =>
  oB (oSI 45 251 0 l3 v169.toInt32) fun _ =>
  oC (l1 < 0)
    (oB (oAI 45 251 0 l3) fun v203 =>
    oC (v203 = 1)
      (M_Mo_proto_j213 rec l1 l2 l3 1)
      (M_Mo_proto_j213 rec l1 l2 l3 0))
    (oB (oAI 45 251 0 l3) fun v184 =>
    oC (60 < v184)
      (M_Mo_proto_j213 rec l1 l2 l3 0)
      (M_Mo_proto_j213 rec l1 l2 l3 1))

def M_Mo_proto_j158 (rec : Int32 → Int32 → M (Unit)) (l1 : Int32) (l2 : Int32) (l3 : Int32) : M (Unit) :=
  M_Mo_proto_j159 rec l1 l2 l3 0

def M_Mo_proto_j101 (rec : Int32 → Int32 → M (Unit)) (l1 : Int32) (l2 : Int32) (l3 : Int32) (k0 : Int32) : M (Unit) :=
  oB (M_Mo_need k0) fun _ =>
  oB (M_Mo_number 1) fun v111 =>
  oB (oSI 44 251 0 l3 v111.toInt32) fun _ =>
  oB (oAI 44 251 0 l3) fun v122 =>
  oC (v122 ≤ 1)
    (M_Mo_proto_j158 rec l1 l2 l3)
    (oB (oAI 44 251 0 l3) fun v132 =>
    oC (251 ≤ v132)
      (M_Mo_proto_j158 rec l1 l2 l3)
      (oB (oAI 44 251 0 l3) fun v144 =>
      oB (oAI 42 251 0 l3) fun v150 =>
      oC (v144 < v150)
        (M_Mo_proto_j158 rec l1 l2 l3)
        (M_Mo_proto_j159 rec l1 l2 l3 1)))

def M_Mo_proto_j100 (rec : Int32 → Int32 → M (Unit)) (l1 : Int32) (l2 : Int32) (l3 : Int32) : M (Unit) :=
  M_Mo_proto_j101 rec l1 l2 l3 0

def M_Mo_proto_j96 (rec : Int32 → Int32 → M (Unit)) (l1 : Int32) (l2 : Int32) (l3 : Int32) : M (Unit) :=
  M_Mo_proto_j101 rec l1 l2 l3 1

def M_Mo_proto_body (rec : Int32 → Int32 → M (Unit)) (l1 : Int32) (l2 : Int32) : M (Unit) :=
  oB (oGI 3 0) fun v1 =>
  oC (v1 = 0)
    (oB (oGI 23 0) fun v9 =>
    oC (v9 = 250)
      (M_Mo_proto_j24 rec)
      (oC (l2 ≤ 20)
        (oB (oGI 23 0) fun v37 =>
        oB (oPI 23 0 (v37 + 1)) fun _ =>
        oB (M_Mo_number 1) fun v54 =>
        oB (oSI 42 251 0 v37 v54.toInt32) fun _ =>
        oB (M_Mo_number 1) fun v66 =>
        oB (oSI 43 251 0 v37 v66.toInt32) fun _ =>
        oB (oAI 43 251 0 v37) fun v77 =>
        oC (2 ≤ v77)
          (M_Mo_proto_j100 rec l1 l2 v37)
          (oC (0 ≤ l1)
            (M_Mo_proto_j96 rec l1 l2 v37)
            (oB (oAI 43 251 0 v37) fun v91 =>
            oC (v91 = 1)
              (M_Mo_proto_j96 rec l1 l2 v37)
              (M_Mo_proto_j100 rec l1 l2 v37))))
        (M_Mo_proto_j24 rec)))
    (oR ())

def M_Mo_proto : Nat → Int32 → Int32 → M (Unit)
  | 0 => fun _ _ => oF
  | k + 1 => M_Mo_proto_body (M_Mo_proto k)

