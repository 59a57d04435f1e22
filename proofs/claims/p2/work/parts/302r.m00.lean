def M_Mth_max (l0 : Int32) (l1 : Int32) : M (Int32) :=
  oC (l0 < l1)
    (oR l1)
    (oR l0)

def M_Arr_rangeCheck (l0 : Int32) (l1 : Int32) (l2 : Int32) : M (Unit) :=
  oC (l1 ≤ l2)
    (oC (0 ≤ l1)
      (oC (l2 ≤ l0)
        (oR ())
        (oF))
      (oF))
    (oF)

def M_Mth_min (l0 : Int32) (l1 : Int32) : M (Int32) :=
  oC (l1 < l0)
    (oR l1)
    (oR l0)

def M_Arr_fill_L5 : (Nat × Int32 × Int32 × Int32 × Int32) → M ((Nat × Int32 × Int32 × Int32 × Int32) ⊕ ((Unit))) := fun x =>
  oC (x.2.2.2.2 ≤ x.2.2.2.1)
    (oR (Sum.inr ()))
    (oB (oSI x.1 (lnI x.1) x.2.1 x.2.2.2.1 x.2.2.1) fun _ =>
    oR (Sum.inl (x.1, x.2.1, x.2.2.1, x.2.2.2.1 + 1, x.2.2.2.2)))

def M_Arr_fill (l0r : Nat) (l0 : Int32) (l1 : Int32) : M (Unit) :=
  oL (lnI l0r) fun l3_4 =>
  oB (oW M_Arr_fill_L5 (l0r, l0, l1, 0, l3_4)) fun e5 =>
  oR ()

def M_Arr_fill__L10 : (Nat × Int32 × Int32 × Int32 × Int32) → M ((Nat × Int32 × Int32 × Int32 × Int32) ⊕ ((Unit))) := fun x =>
  oC (x.2.2.1 ≤ x.2.2.2.2)
    (oR (Sum.inr ()))
    (oB (oSI x.1 (lnI x.1) x.2.1 x.2.2.2.2 x.2.2.2.1.toInt8.toInt32) fun _ =>
    oR (Sum.inl (x.1, x.2.1, x.2.2.1, x.2.2.2.1, x.2.2.2.2 + 1)))

def M_Arr_fill_ (l0r : Nat) (l0 : Int32) (l1 : Int32) (l2 : Int32) (l3 : Int32) : M (Unit) :=
  oB (M_Arr_rangeCheck (lnI l0r) l1 l2) fun _ =>
  oB (oPr l0r l0) fun _ =>
  oB (oW M_Arr_fill__L10 (l0r, l0, l2, l3, l1)) fun e10 =>
  oR ()

def M_Arr_fill___L10 : (Nat × Int32 × Int32 × Int64 × Int32) → M ((Nat × Int32 × Int32 × Int64 × Int32) ⊕ ((Unit))) := fun x =>
  oC (x.2.2.1 ≤ x.2.2.2.2)
    (oR (Sum.inr ()))
    (oB (oSL x.1 (lnI x.1) x.2.1 x.2.2.2.2 x.2.2.2.1) fun _ =>
    oR (Sum.inl (x.1, x.2.1, x.2.2.1, x.2.2.2.1, x.2.2.2.2 + 1)))

def M_Arr_fill__ (l0r : Nat) (l0 : Int32) (l1 : Int32) (l2 : Int32) (l3 : Int64) : M (Unit) :=
  oB (M_Arr_rangeCheck (lnI l0r) l1 l2) fun _ =>
  oB (oPr l0r l0) fun _ =>
  oB (oW M_Arr_fill___L10 (l0r, l0, l2, l3, l1)) fun e10 =>
  oR ()

def M_Mth_floorMod (l0 : Int64) (l2 : Int64) : M (Int64) :=
  oB (oK (¬ l2 = 0)) fun _ =>
  oL (l0 - l0 / l2 * l2) fun l4_3 =>
  oC (0 ≤ (lg_cmp (l0 ^^^ l2) 0))
    (oR l4_3)
    (oC ((lg_cmp l4_3 0) = 0)
      (oR l4_3)
      (oR (l4_3 + l2)))

def M_Mth_floorDiv (l0 : Int64) (l2 : Int64) : M (Int64) :=
  oB (oK (¬ l2 = 0)) fun _ =>
  oL (l0 / l2) fun l4_3 =>
  oC (0 ≤ (lg_cmp (l0 ^^^ l2) 0))
    (oR l4_3)
    (oC ((lg_cmp (l4_3 * l2) l0) = 0)
      (oR l4_3)
      (oR (l4_3 - 1)))

def M_Mth_abs (l0 : Int64) : M (Int64) :=
  oC (0 ≤ (lg_cmp l0 0))
    (oR l0)
    (oR (-l0))

def M_Mth_min_ (l0 : Int64) (l2 : Int64) : M (Int64) :=
  oC (0 < (lg_cmp l0 l2))
    (oR l2)
    (oR l0)

def M_Mth_max_ (l0 : Int64) (l2 : Int64) : M (Int64) :=
  oC ((lg_cmp l0 l2) < 0)
    (oR l2)
    (oR l0)

def M_Mo_thrown  : M (Int32) :=
  oB (oGI 2 0) fun v1 =>
  oR v1

def M_Mo_refuse (l1 : Int32) (l2 : Int32) : M (Int32) :=
  oC (l2 = 0)
    (oB (oK (l2 = 0 ∨ l2 = 1)) fun _ =>
    oR l2)
    (oB (oPI 2 0 l1) fun _ =>
    oB (oK (l2 = 0 ∨ l2 = 1)) fun _ =>
    oR l2)

def M_Mo_end_j24 (l1 : Int32) (k0 : Int32) (k1 : Int32) : M (Int32) :=
  oB (M_Mo_refuse k1 k0) fun v24 =>
  oC (v24 = 0)
    (oB (oPI 1 0 l1) fun _ =>
    oR l1)
    (oR 0)

def M_Mo_end_j19 (l1 : Int32) (k0 : Int32) : M (Int32) :=
  M_Mo_end_j24 l1 1 k0

def M_Mo_end (l1 : Int32) : M (Int32) :=
  oB (oPI 2 0 0) fun _ =>
  oC (l1 < 0)
    (M_Mo_end_j19 l1 1)
    (oB (oGI 1 0) fun v13 =>
    oC (l1 ≤ v13)
      (M_Mo_end_j24 l1 0 1)
      (M_Mo_end_j19 l1 1))

def M_Mo_bad (l1 : Int32) (l2 : Int32) : M (Int32) :=
  oB (oGI 3 0) fun v1 =>
  oC (v1 = 0)
    (oB (oPI 3 0 l1) fun _ =>
    oB (oPI 4 0 l2) fun _ =>
    oR 0)
    (oR 0)

def M_Mo_number_L47 : (Int32 × Int64 × Int32) → M ((Int32 × Int64 × Int32) ⊕ ((Int64))) := fun x =>
  oC (x.1 ≤ x.2.2)
    (oR (Sum.inr x.2.1))
    (oB (oGI 28 0) fun v63 =>
    oB (oPI 28 0 (v63 + 1)) fun _ =>
    oB (oAI 41 65536 0 v63) fun v72 =>
    oL ((x.2.1 <<< ((8 : Int32).toInt64 &&& 63)) ||| ((v72 &&& 255).toInt64)) fun l2_79 =>
    oR (Sum.inl (x.1, l2_79, x.2.2 + 1)))

def M_Mo_number (l1 : Int32) : M (Int64) :=
  oB (oGI 3 0) fun v1 =>
  oC (v1 = 0)
    (oB (oGI 28 0) fun v11 =>
    oB (oPI 29 0 v11) fun _ =>
    oB (oGI 1 0) fun v18 =>
    oB (oGI 28 0) fun v22 =>
    oC (l1 ≤ (v18 - v22))
      (oB (oW M_Mo_number_L47 (l1, 0, 0)) fun e47 =>
      oR e47)
      (oB (oGI 28 0) fun v33 =>
      oB (M_Mo_bad 1 v33) fun v36 =>
      oR 0))
    (oR 0)

def M_Mo_need (l1 : Int32) : M (Unit) :=
  oC (l1 = 0)
    (oB (oGI 29 0) fun v7 =>
    oB (M_Mo_bad 2 v7) fun v10 =>
    oR ())
    (oR ())

def M_Mo_upvalue_j76 (l2 : Int32) (l3 : Int32) : M (Unit) :=
  oB (oGI 3 0) fun v77 =>
  oC (v77 = 0)
    (oB (oGI 24 0) fun v90 =>
    oB (oPI 24 0 (v90 + 1)) fun _ =>
    oB (oSI 53 30200 0 v90 ((256 * l2) + l3)) fun _ =>
    oR ())
    (oR ())

def M_Mo_upvalue_j73 (l2 : Int32) (l3 : Int32) (k0 : Int32) : M (Unit) :=
  oB (M_Mo_need k0) fun _ =>
  M_Mo_upvalue_j76 l2 l3

def M_Mo_upvalue_j65 (l2 : Int32) (l3 : Int32) (k0 : Int32) (k1 : Int32) : M (Unit) :=
  oC (k0 ≤ k1)
    (M_Mo_upvalue_j73 l2 l3 0)
    (M_Mo_upvalue_j73 l2 l3 1)

def M_Mo_upvalue_j25 (l1 : Int32) (l2 : Int32) : M (Unit) :=
  oB (M_Mo_number 1) fun v27 =>
  oC (l1 < 0)
    (M_Mo_upvalue_j76 l2 v27.toInt32)
    (oB (oGI 3 0) fun v37 =>
    oC (v37 = 0)
      (oC (l2 = 1)
        (oB (oAI 44 251 0 l1) fun v55 =>
        M_Mo_upvalue_j65 l2 v27.toInt32 v55 v27.toInt32)
        (oB (oAI 45 251 0 l1) fun v64 =>
        M_Mo_upvalue_j65 l2 v27.toInt32 v64 v27.toInt32))
      (M_Mo_upvalue_j76 l2 v27.toInt32))

def M_Mo_upvalue_j22 (l1 : Int32) (l2 : Int32) (k0 : Int32) : M (Unit) :=
  oB (M_Mo_need k0) fun _ =>
  M_Mo_upvalue_j25 l1 l2

def M_Mo_upvalue (l1 : Int32) : M (Unit) :=
  oB (M_Mo_number 1) fun v2 =>
  oC (l1 < 0)
    (M_Mo_upvalue_j25 l1 v2.toInt32)
    (oC (2 ≤ v2.toInt32)
      (M_Mo_upvalue_j22 l1 v2.toInt32 0)
      (M_Mo_upvalue_j22 l1 v2.toInt32 1))

def M_Va_set (l0r : Nat) (l0 : Int32) (l1 : Int32) (l2 : Int32) (l3 : Int64) : M (Unit) :=
  oB (oSI (l0r + 1) (lnI (l0r + 1)) l0 l1 l2.toInt8.toInt32.toInt8.toInt32) fun _ =>
  oB (oSL (l0r + 2) (lnI (l0r + 2)) l0 l1 l3) fun _ =>
  oR ()

def M_Mo_op (l0 : Int32) : M (Int32) :=
  oR (l0 &&& 63)

def M_Mo_c (l0 : Int32) : M (Int32) :=
  oR ((l0 >>> (14 &&& 31)) &&& 511)

def M_Mo_b (l0 : Int32) : M (Int32) :=
  oR (iushr l0 (23 : Int32))

def M_Mo_a (l0 : Int32) : M (Int32) :=
  oR ((l0 >>> (6 &&& 31)) &&& 255)

def M_Mo_uses_j40  : M (Int32) :=
  oR 0

def M_Mo_uses_j29 (l0 : Int32) : M (Int32) :=
  oB (M_Mo_b l0) fun v30 =>
  oC (v30 = 0)
    (oR 1)
    (M_Mo_uses_j40)

def M_Mo_uses (l0 : Int32) : M (Int32) :=
  oB (M_Mo_op l0) fun v1 =>
  oC (v1 = 36)
    (M_Mo_uses_j29 l0)
    (oC (v1 = 37)
      (M_Mo_uses_j29 l0)
      (oC (v1 = 38)
        (M_Mo_uses_j29 l0)
        (oC (v1 = 43)
          (M_Mo_uses_j29 l0)
          (M_Mo_uses_j40))))

def M_Mo_goes_j43  : M (Int32) :=
  oR 0

def M_Mo_goes (l1 : Int32) : M (Int32) :=
  oC (l1 < 0)
    (M_Mo_goes_j43)
    (oB (oGI 31 0) fun v10 =>
    oB (oAI 50 251 0 v10) fun v13 =>
    oC (v13 ≤ l1)
      (M_Mo_goes_j43)
      (oB (oGI 31 0) fun v26 =>
      oB (oAI 49 251 0 v26) fun v29 =>
      oB (oAI 55 20001 0 (v29 + l1)) fun v32 =>
      oB (M_Mo_uses v32) fun v33 =>
      oC (v33 = 0)
        (oR 1)
        (M_Mo_goes_j43)))

def M_Mo_reg (l1 : Int32) : M (Int32) :=
  oB (oGI 30 0) fun v2 =>
  oC (v2 ≤ l1)
    (oR 0)
    (oR 1)

def M_Mo_bx (l0 : Int32) : M (Int32) :=
  oR (iushr l0 (14 : Int32))

def M_Mo_rk (l1 : Int32) : M (Int32) :=
  oC (256 ≤ l1)
    (oB (oGI 31 0) fun v33 =>
    oB (oAI 48 251 0 v33) fun v36 =>
    oC (v36 ≤ (l1 - 256))
      (oR 0)
      (oR 1))
    (oB (oGI 30 0) fun v9 =>
    oC (v9 ≤ l1)
      (oR 0)
      (oR 1))

def M_Mo_sbx (l0 : Int32) : M (Int32) :=
  oR ((iushr l0 (14 : Int32)) - 131071)

def M_Arr_fill____L5 : (Nat × Int32 × Int32 × Int32 × Int32) → M ((Nat × Int32 × Int32 × Int32 × Int32) ⊕ ((Unit))) := fun x =>
  oC (x.2.2.2.2 ≤ x.2.2.2.1)
    (oR (Sum.inr ()))
    (oB (oSI x.1 (lnI x.1) x.2.1 x.2.2.2.1 x.2.2.1.toInt8.toInt32) fun _ =>
    oR (Sum.inl (x.1, x.2.1, x.2.2.1, x.2.2.2.1 + 1, x.2.2.2.2)))

def M_Arr_fill___ (l0r : Nat) (l0 : Int32) (l1 : Int32) : M (Unit) :=
  oL (lnI l0r) fun l3_4 =>
  oB (oW M_Arr_fill____L5 (l0r, l0, l1, 0, l3_4)) fun e5 =>
  oR ()

def M_Mo_raise_j23 (k0 : Int32) : M (Int32) :=
  oB (oPI 73 0 k0) fun _ =>
  oR (-1)

def M_Mo_raise (l1 : Int32) : M (Int32) :=
  oB (oPI 64 0 3) fun _ =>
  oB (oPL 65 0 l1.toInt64) fun _ =>
  oC (l1 = 11)
    (M_Mo_raise_j23 4)
    (M_Mo_raise_j23 3)

def M_Arr_fill_____L10 : (Nat × Int32 × Int32 × Int32 × Int32) → M ((Nat × Int32 × Int32 × Int32 × Int32) ⊕ ((Unit))) := fun x =>
  oC (x.2.2.1 ≤ x.2.2.2.2)
    (oR (Sum.inr ()))
    (oB (oSI x.1 (lnI x.1) x.2.1 x.2.2.2.2 (vp_nar .boolean x.2.2.2.1)) fun _ =>
    oR (Sum.inl (x.1, x.2.1, x.2.2.1, x.2.2.2.1, x.2.2.2.2 + 1)))

def M_Arr_fill____ (l0r : Nat) (l0 : Int32) (l1 : Int32) (l2 : Int32) (l3 : Int32) : M (Unit) :=
  oB (M_Arr_rangeCheck (lnI l0r) l1 l2) fun _ =>
  oB (oPr l0r l0) fun _ =>
  oB (oW M_Arr_fill_____L10 (l0r, l0, l2, l3, l1)) fun e10 =>
  oR ()

def M_Mo_place (l1 : Int32) : M (Unit) :=
  oC (l1 < 0)
    (oR ())
    (oB (oAI 59 4100 0 l1) fun v9 =>
    oC (v9 = 0)
      (oB (oSI 59 4100 0 l1 (vp_nar .boolean 1)) fun _ =>
      oB (oGI 69 0) fun v27 =>
      oB (oPI 69 0 (v27 + 1)) fun _ =>
      oB (oSI 75 4100 0 v27 l1) fun _ =>
      oR ())
      (oR ()))

def M_Mo_mark_j18 (l2 : Int64) : M (Unit) :=
  oB (M_Mo_place l2.toInt32) fun _ =>
  oR ()

def M_Mo_mark (l1 : Int32) (l2 : Int64) : M (Unit) :=
  oC (l1 < 4)
    (oR ())
    (oC (l1 = 6)
      (oC (0 ≤ (lg_cmp l2 0))
        (M_Mo_mark_j18 l2)
        (oR ()))
      (M_Mo_mark_j18 l2))

def M_Mo_load (l1 : Int32) : M (Unit) :=
  oB (oAI 62 4100 0 l1) fun v5 =>
  oC (0 ≤ v5)
    (oB (oAI 62 4100 0 l1) fun v47 =>
    oB (oK ((0 : Int32) ≤ v47 ∧ v47 < (33 : Int32))) fun _ =>
    oB (oAI 63 4100 0 l1) fun v63 =>
    oB (oAI 20 4300 v47 v63) fun v64 =>
    oB (oPI 66 0 v64) fun _ =>
    oB (oAI 63 4100 0 l1) fun v78 =>
    oB (oAL 21 4300 v47 v78) fun v79 =>
    oB (oPL 67 0 v79) fun _ =>
    oR ())
    (oB (oAI 5 4100 0 l1) fun v18 =>
    oB (oPI 66 0 v18) fun _ =>
    oB (oAL 6 4100 0 l1) fun v31 =>
    oB (oPL 67 0 v31) fun _ =>
    oR ())

def M_Mo_closeVariable (l1 : Int32) : M (Unit) :=
  oB (M_Mo_load l1) fun _ =>
  oB (oSI 62 4100 0 l1 (-1)) fun _ =>
  oB (oGI 66 0) fun v18 =>
  oB (oGL 67 0) fun v22 =>
  oB (M_Va_set 4 0 l1 v18 v22) fun _ =>
  oR ()

def M_Mo_hash_L6 : (Nat × Int32 × Int32 × Int32 × Int32 × Int32) → M ((Nat × Int32 × Int32 × Int32 × Int32 × Int32) ⊕ ((Int32))) := fun x =>
  oC (x.2.2.2.1 ≤ x.2.2.2.2.2)
    (oR (Sum.inr x.2.2.2.2.1))
    (oB (oAI x.1 (lnI x.1) x.2.1 (x.2.2.1 + x.2.2.2.2.2)) fun v22 =>
    oL ((31 * x.2.2.2.2.1) + v22) fun l4_24 =>
    oR (Sum.inl (x.1, x.2.1, x.2.2.1, x.2.2.2.1, l4_24, x.2.2.2.2.2 + 1)))

def M_Mo_hash (l1r : Nat) (l1 : Int32) (l2 : Int32) (l3 : Int32) : M (Int32) :=
  oB (oW M_Mo_hash_L6 (l1r, l1, l2, l3, l3, 0)) fun e6 =>
  oR (e6 &&& 1023)

def M_Mo_forget_j41 (l1 : Int32) (l2 : Int32) (l3 : Int32) (l4 : Int32) : M ((Int32 × Int32 × Int32 × Int32) ⊕ ((Int32 × Int32))) :=
  oR (Sum.inl (l1, l2, l3, l4 + 1))

def M_Mo_forget_L5 : (Int32 × Int32 × Int32 × Int32) → M ((Int32 × Int32 × Int32 × Int32) ⊕ ((Int32 × Int32))) := fun x =>
  oB (oGI 3587 x.1) fun v8 =>
  oC (v8 ≤ x.2.2.2)
    (oR (Sum.inr (x.1, x.2.2.1)))
    (oB (oAI 29 4100 x.1 x.2.2.2) fun v20 =>
    oC (v20 = x.2.1)
      (M_Mo_forget_j41 x.1 x.2.1 x.2.2.1 x.2.2.2)
      (oB (oAI 29 4100 x.1 x.2.2.2) fun v39 =>
      oB (oSI 29 4100 x.1 x.2.2.1 v39) fun _ =>
      M_Mo_forget_j41 x.1 x.2.1 (x.2.2.1 + 1) x.2.2.2))

def M_Mo_forget (l1 : Int32) (l2 : Int32) : M (Unit) :=
  oB (oW M_Mo_forget_L5 (l1, l2, 0, 0)) fun e5 =>
  oB (oPI 3587 e5.1 e5.2) fun _ =>
  oR ()

def M_Mo_object_j37 (l1 : Int32) (k0 : Int32) : M (Int32) :=
  oB (oSI 58 4100 0 k0 l1.toInt8.toInt32.toInt8.toInt32) fun _ =>
  oB (oSI 60 4100 0 k0 (vp_nar .boolean 0)) fun _ =>
  oB (oGI 33 0) fun v60 =>
  oB (oPI 33 0 (v60 + 1)) fun _ =>
  oB (oSI 61 4100 0 k0 v60) fun _ =>
  oB (oGI 42 0) fun v72 =>
  oB (oPI 42 0 (v72 + 1)) fun _ =>
  oB (oGI 34 0) fun v82 =>
  oB (oPI 34 0 (v82 + 1)) fun _ =>
  oR k0

def M_Mo_object (l1 : Int32) : M (Int32) :=
  oB (oGI 54 0) fun v1 =>
  oC (v1 ≤ 0)
    (oB (oGI 40 0) fun v28 =>
    oB (oPI 40 0 (v28 + 1)) fun _ =>
    M_Mo_object_j37 l1 v28)
    (oB (oGI 54 0) fun v13 =>
    oB (oPI 54 0 (v13 - 1)) fun _ =>
    oB (oAI 66 4100 0 (v13 - 1)) fun v22 =>
    M_Mo_object_j37 l1 v22)

def M_Mo_slot (l1 : Int32) (l2 : Int32) (l3 : Int64) : M (Int32) :=
  oB (M_Mth_floorMod (((l3 * 31) + l2.toInt64) + (lushr l3 (17 : Int32))) l1.toInt64) fun v15 =>
  oR v15.toInt32

def M_Mo_append (l1 : Int32) (l2 : Int32) (l3 : Int64) (l5 : Int32) (l6 : Int64) : M (Unit) :=
  oB (oAI 64 4100 0 l1) fun v6 =>
  oB (oSI 64 4100 0 l1 (v6 + 1)) fun _ =>
  oB (oAI 62 4100 0 l1) fun v18 =>
  oL (v18 + v6) fun l9_22 =>
  oB (oGI 8959 0) fun v25 =>
  oB (oK (v25 = 1)) fun _ =>
  oB (oSI 69 300000 0 l9_22 l2.toInt8.toInt32.toInt8.toInt32) fun _ =>
  oB (oGI 9215 0) fun v34 =>
  oB (oK (v34 = 1)) fun _ =>
  oB (oSL 71 300000 0 l9_22 l3) fun _ =>
  oB (oGI 9087 0) fun v42 =>
  oB (oK (v42 = 1)) fun _ =>
  oB (oSI 70 300000 0 l9_22 l5.toInt8.toInt32.toInt8.toInt32) fun _ =>
  oB (oGI 9343 0) fun v52 =>
  oB (oK (v52 = 1)) fun _ =>
  oB (oSL 72 300000 0 l9_22 l6) fun _ =>
  oB (oAI 62 4100 0 l1) fun v65 =>
  oB (oAI 63 4100 0 l1) fun v72 =>
  oB (M_Mo_slot v72 l2 l3) fun v75 =>
  oL (v65 + v75) fun l10_79 =>
  oB (oGI 9471 0) fun v82 =>
  oB (oK (v82 = 1)) fun _ =>
  oB (oGI 9599 0) fun v88 =>
  oB (oK (v88 = 1)) fun _ =>
  oB (oAI 74 300000 0 l10_79) fun v93 =>
  oB (oSI 73 300000 0 l9_22 v93) fun _ =>
  oB (oGI 9599 0) fun v96 =>
  oB (oK (v96 = 1)) fun _ =>
  oB (oSI 74 300000 0 l10_79 (v6 + 1)) fun _ =>
  oR ()

def M_Va_add (l0r : Nat) (l0 : Int32) (l1 : Int32) (l2 : Int64) : M (Unit) :=
  oB (oGI (128 * l0r + 2) l0) fun v5 =>
  oB (oSI (l0r + 1) (lnI (l0r + 1)) l0 v5 l1.toInt8.toInt32.toInt8.toInt32) fun _ =>
  oB (oGI (128 * l0r + 2) l0) fun v17 =>
  oB (oPI (128 * l0r + 2) l0 (v17 + 1)) fun _ =>
  oB (oSL (l0r + 2) (lnI (l0r + 2)) l0 v17 l2) fun _ =>
  oR ()

def M_Th_begin (l0 : Int32) (l1 : Int32) : M (Unit) :=
  oB (oPI 3584 l0 l1) fun _ =>
  oB (oPI 3585 l0 0) fun _ =>
  oB (oPI 3586 l0 0) fun _ =>
  oB (oPI 3587 l0 0) fun _ =>
  oB (oPI 3588 l0 0) fun _ =>
  oB (oPI 3589 l0 0) fun _ =>
  oB (oPI 3590 l0 (-1)) fun _ =>
  oB (oPI 3202 l0 0) fun _ =>
  oR ()

def M_Th_top (l0 : Int32) : M (Int32) :=
  oB (oGI 3586 l0) fun v1 =>
  oR (v1 - 1)

def M_Mo_push (l1 : Int32) (l2 : Int32) : M (Int32) :=
  oB (oGI 72 0) fun v1 =>
  oB (oK ((0 : Int32) ≤ v1 ∧ v1 < (33 : Int32))) fun _ =>
  oB (oGI 3586 v1) fun v6 =>
  oC (v6 = 200)
    (oB (M_Mo_raise 4) fun v17 =>
    oR 0)
    (oB (oK ((0 : Int32) ≤ v1 ∧ v1 < (33 : Int32))) fun _ =>
    oB (oGI 3586 v1) fun v25 =>
    oB (oPI 3586 v1 (v25 + 1)) fun _ =>
    oB (oK ((0 : Int32) ≤ v1 ∧ v1 < (33 : Int32))) fun _ =>
    oB (oSI 30 201 v1 v25 l1) fun _ =>
    oB (oK ((0 : Int32) ≤ v1 ∧ v1 < (33 : Int32))) fun _ =>
    oB (oSI 31 201 v1 v25 l2) fun _ =>
    oB (oK ((0 : Int32) ≤ v1 ∧ v1 < (33 : Int32))) fun _ =>
    oB (oSI 36 201 v1 v25 0) fun _ =>
    oB (oK ((0 : Int32) ≤ v1 ∧ v1 < (33 : Int32))) fun _ =>
    oB (oSI 34 201 v1 v25 0) fun _ =>
    oB (oK ((0 : Int32) ≤ v1 ∧ v1 < (33 : Int32))) fun _ =>
    oB (oSI 37 201 v1 v25 0) fun _ =>
    oR 1)

def M_Va_set_ (l0r : Nat) (l0 : Int32) (l1 : Int32) (l2r : Nat) (l2 : Int32) (l3 : Int32) : M (Unit) :=
  oB (oAI (l2r + 1) (lnI (l2r + 1)) l2 l3) fun v10 =>
  oB (oSI (l0r + 1) (lnI (l0r + 1)) l0 l1 v10.toInt8.toInt32) fun _ =>
  oB (oAL (l2r + 2) (lnI (l2r + 2)) l2 l3) fun v22 =>
  oB (oSL (l0r + 2) (lnI (l0r + 2)) l0 l1 v22) fun _ =>
  oR ()

def M_Mo_fault_j21 (l1 : Int32) (k0 : Int32) (k1 : Int32) : M (Int32) :=
  oB (M_Mo_refuse k1 k0) fun v21 =>
  oC (v21 = 0)
    (oC (l1 = 0)
      (oB (oGI 3 0) fun v34 =>
      oR v34)
      (oB (oGI 4 0) fun v41 =>
      oR v41))
    (oR 0)

def M_Mo_fault_j16 (l1 : Int32) (k0 : Int32) : M (Int32) :=
  M_Mo_fault_j21 l1 1 k0

def M_Mo_fault (l1 : Int32) : M (Int32) :=
  oB (oPI 2 0 0) fun _ =>
  oC (l1 < 0)
    (M_Mo_fault_j16 l1 1)
    (oC (l1 ≤ 1)
      (M_Mo_fault_j21 l1 0 1)
      (M_Mo_fault_j16 l1 1))

def M_Mo_limit_j26 (l1 : Int32) (k0 : Int32) (k1 : Int32) : M (Int32) :=
  oB (M_Mo_refuse k1 k0) fun v26 =>
  oC (v26 = 0)
    (oB (oGI 32 0) fun v35 =>
    oB (oPI 32 0 l1) fun _ =>
    oR v35)
    (oR 0)

def M_Mo_limit_j21 (l1 : Int32) (k0 : Int32) : M (Int32) :=
  M_Mo_limit_j26 l1 1 k0

def M_Mo_limit (l1 : Int32) : M (Int32) :=
  oB (oPI 2 0 0) fun _ =>
  oC (l1 < 200)
    (M_Mo_limit_j21 l1 1)
    (oC (l1 ≤ 4000)
      (M_Mo_limit_j26 l1 0 1)
      (M_Mo_limit_j21 l1 1))

def M_Mo_say (l1 : Int32) : M (Unit) :=
  oB (oGI 96 0) fun v6 =>
  oB (oPI 96 0 (v6 + 1)) fun _ =>
  oB (oSI 87 266800 0 v6 l1.toInt8.toInt32.toInt8.toInt32) fun _ =>
  oR ()

def M_Mo_sayNumber_L5 : (Int64 × Int32 × Int64) → M ((Int64 × Int32 × Int64) ⊕ ((Int64 × Int32))) := fun x =>
  oB (M_Mth_abs (x.2.2 - x.2.2 / 10 * 10)) fun v22 =>
  oB (oSI 89 24 0 x.2.1 ((((48 + v22).toInt32).toInt8.toInt32).toInt8.toInt32)) fun _ =>
  oL (x.2.2 / 10) fun l4_35 =>
  oC ((lg_cmp l4_35 0) = 0)
    (oR (Sum.inr (x.1, x.2.1 + 1)))
    (oR (Sum.inl (x.1, x.2.1 + 1, l4_35)))

def M_Mo_sayNumber_L56 : (Int32) → M ((Int32) ⊕ ((Unit))) := fun x =>
  oC (x ≤ 0)
    (oR (Sum.inr ()))
    (oB (oAI 89 24 0 (x + (-1))) fun v69 =>
    oB (M_Mo_say v69) fun _ =>
    oR (Sum.inl (x + (-1))))

def M_Mo_sayNumber (l1 : Int64) : M (Unit) :=
  oB (oW M_Mo_sayNumber_L5 (l1, 0, l1)) fun e5 =>
  oC (0 ≤ (lg_cmp e5.1 0))
    (oB (oW M_Mo_sayNumber_L56 e5.2) fun e56 =>
    oR ())
    (oB (M_Mo_say 45) fun _ =>
    oB (oW M_Mo_sayNumber_L56 e5.2) fun e56 =>
    oR ())

def M_Mo_giveNone  : M (Unit) :=
  oB (oPI 1282 0 0) fun _ =>
  oB (oPI 73 0 2) fun _ =>
  oR ()

def M_Mo_ak (l1 : Int32) : M (Int32) :=
  oB (oGI 898 0) fun v5 =>
  oC (v5 ≤ l1)
    (oR 0)
    (oB (oAI 8 400 0 l1) fun v19 =>
    oR v19)

def M_Mo_av (l1 : Int32) : M (Int64) :=
  oB (oGI 898 0) fun v5 =>
  oC (v5 ≤ l1)
    (oR 0)
    (oB (oAL 9 400 0 l1) fun v19 =>
    oR v19)

def M_Mo_give (l1 : Int32) (l2 : Int64) : M (Unit) :=
  oB (oPI 1282 0 0) fun _ =>
  oB (M_Va_add 10 0 l1 l2) fun _ =>
  oB (oPI 73 0 2) fun _ =>
  oR ()

def M_Mo_pcall_L38 : (Int32) → M ((Int32) ⊕ ((Unit))) := fun x =>
  oB (oGI 898 0) fun v43 =>
  oC (v43 ≤ x)
    (oR (Sum.inr ()))
    (oB (M_Va_set_ 7 0 (x - 1) 7 0 x) fun _ =>
    oR (Sum.inl (x + 1)))

def M_Mo_pcall_j93  : M (Unit) :=
  oB (oPI 73 0 1) fun _ =>
  oR ()

def M_Mo_pcall  : M (Unit) :=
  oB (M_Mo_push 1 (-1)) fun v3 =>
  oC (v3 = 0)
    (oB (oPI 898 0 0) fun _ =>
    oR ())
    (oB (M_Mo_ak 0) fun v21 =>
    oB (oPI 75 0 v21) fun _ =>
    oB (M_Mo_av 0) fun v30 =>
    oB (oPL 76 0 v30) fun _ =>
    oB (oW M_Mo_pcall_L38 1) fun e38 =>
    oB (oGI 898 0) fun v74 =>
    oC (v74 ≤ 0)
      (M_Mo_pcall_j93)
      (oB (oGI 898 0) fun v85 =>
      oB (oPI 898 0 (v85 - 1)) fun _ =>
      M_Mo_pcall_j93))

def M_Mo_is (l1 : Int32) (l2 : Int32) : M (Int32) :=
  oB (M_Mo_ak l1) fun v2 =>
  oC (v2 = l2)
    (oR 1)
    (oR 0)

def M_Mo_isMark_j30  : M (Int32) :=
  oR 0

def M_Mo_isMark (l1 : Int32) : M (Int32) :=
  oB (oAI 63 4100 0 l1) fun v5 =>
  oC (v5 = 1)
    (oB (oAI 62 4100 0 l1) fun v19 =>
    oB (oAI 67 400000 0 v19) fun v20 =>
    oC (v20 = 35)
      (oR 1)
      (M_Mo_isMark_j30))
    (M_Mo_isMark_j30)

def M_Va_add_ (l0r : Nat) (l0 : Int32) (l1r : Nat) (l1 : Int32) (l2 : Int32) : M (Unit) :=
  oB (oAI (l1r + 1) (lnI (l1r + 1)) l1 l2) fun v6 =>
  oB (oAL (l1r + 2) (lnI (l1r + 2)) l1 l2) fun v12 =>
  oB (M_Va_add l0r l0 v6 v12) fun _ =>
  oR ()

def M_Mo_integer_j18  : M (Int32) :=
  oR 1

def M_Mo_integer (l1 : Int32) : M (Int32) :=
  oB (M_Mo_is l1 3) fun v3 =>
  oC (v3 = 0)
    (oB (M_Mo_is l1 0) fun v12 =>
    oC (v12 = 0)
      (oR 0)
      (M_Mo_integer_j18))
    (M_Mo_integer_j18)

def M_Mo_from (l0 : Int64) (l2 : Int32) : M (Int64) :=
  oC ((lg_cmp l0 0) < 0)
    (oC (0 ≤ (lg_cmp l0 (-l2.toInt64)))
      (oR ((l2.toInt64 + l0) + 1))
      (oR 0))
    (oR l0)

def M_Mo_byteOf_j17  : M (Unit) :=
  oB (M_Mo_raise 3) fun v19 =>
  oR ()

def M_Mo_byteOf_j77  : M (Unit) :=
  oB (M_Mo_give 0 0) fun _ =>
  oR ()

def M_Mo_byteOf_j49 (l1 : Int32) (k0 : Int64) : M (Unit) :=
  oB (oAI 63 4100 0 l1) fun v54 =>
  oB (M_Mo_from k0 v54) fun v55 =>
  oC ((lg_cmp v55 1) < 0)
    (M_Mo_byteOf_j77)
    (oB (oAI 63 4100 0 l1) fun v71 =>
    oC ((lg_cmp v55 v71.toInt64) ≤ 0)
      (oB (oAI 62 4100 0 l1) fun v97 =>
      oB (oAI 67 400000 0 ((v97 + v55.toInt32) - 1)) fun v103 =>
      oB (M_Mo_give 3 ((v103 &&& 255).toInt64)) fun _ =>
      oR ())
      (M_Mo_byteOf_j77))

def M_Mo_byteOf  : M (Unit) :=
  oB (M_Mo_is 0 4) fun v3 =>
  oC (v3 = 0)
    (M_Mo_byteOf_j17)
    (oB (M_Mo_integer 1) fun v11 =>
    oC (v11 = 0)
      (M_Mo_byteOf_j17)
      (oB (M_Mo_av 0) fun v26 =>
      oB (M_Mo_is 1 0) fun v34 =>
      oC (v34 = 0)
        (oB (M_Mo_av 1) fun v46 =>
        M_Mo_byteOf_j49 v26.toInt32 v46)
        (M_Mo_byteOf_j49 v26.toInt32 1)))

def M_Mo_goesOn_j25 (l3 : Int32) : M (Unit) :=
  oB (oPI 898 0 0) fun _ =>
  oC (l3 = 3)
    (oB (M_Mo_raise 9) fun v41 =>
    oR ())
    (oB (oPI 1282 0 0) fun _ =>
    oB (M_Va_add 10 0 1 0) fun _ =>
    oB (M_Va_add 10 0 3 9) fun _ =>
    oB (oPI 73 0 2) fun _ =>
    oR ())

def M_Mo_goesOn_L232 : (Int32 × Int32) → M ((Int32 × Int32) ⊕ ((Int32))) := fun x =>
  oB (oGI 898 0) fun v238 =>
  oC (v238 ≤ x.2)
    (oR (Sum.inr x.1))
    (oB (M_Va_set_ 7 0 (x.2 - x.1) 7 0 x.2) fun _ =>
    oR (Sum.inl (x.1, x.2 + 1)))

def M_Mo_goesOn_L144 : (Int32) → M ((Int32) ⊕ ((Unit))) := fun x =>
  oB (oGI 898 0) fun v150 =>
  oC (v150 ≤ x)
    (oR (Sum.inr ()))
    (oB (M_Va_add_ 10 0 7 0 x) fun _ =>
    oR (Sum.inl (x + 1)))

def M_Mo_goesOn (l1 : Int32) (l2 : Int32) (l3 : Int32) (l4 : Int32) (l5 : Int32) : M (Unit) :=
  oB (oGI 3584 l1) fun v1 =>
  oC (v1 = l2)
    (oB (oGI 3585 l1) fun v9 =>
    oC (v9 = 0)
      (oB (oK ((0 : Int32) ≤ 0 ∧ 0 < (33 : Int32))) fun _ =>
      oC (l1 = 0)
        (M_Mo_goesOn_j25 l3)
        (oB (M_Mo_push l3 l4) fun v84 =>
        oC (v84 = 0)
          (oB (oPI 898 0 0) fun _ =>
          oR ())
          (oB (oGI 72 0) fun v101 =>
          oB (oPI 3590 l1 v101) fun _ =>
          oB (oGI 72 0) fun v108 =>
          oB (oK ((0 : Int32) ≤ v108 ∧ v108 < (33 : Int32))) fun _ =>
          oB (oPI 3585 v108 2) fun _ =>
          oB (oPI 3585 l1 1) fun _ =>
          oB (oPI 72 0 l1) fun _ =>
          oB (oGI 3589 l1) fun v126 =>
          oC (v126 = 0)
            (oB (oPI 3589 l1 1) fun _ =>
            oB (oAI 26 260 l1 0) fun v203 =>
            oB (oPI 75 0 v203) fun _ =>
            oB (oAL 27 260 l1 0) fun v216 =>
            oB (oPL 76 0 v216) fun _ =>
            oB (oPI 3202 l1 0) fun _ =>
            oB (oW M_Mo_goesOn_L232 (l5, l5)) fun e232 =>
            oB (oGI 898 0) fun v273 =>
            oB (oPI 898 0 (v273 - e232)) fun _ =>
            oB (oPI 73 0 1) fun _ =>
            oR ())
            (oB (oPI 1282 0 0) fun _ =>
            oB (oW M_Mo_goesOn_L144 l5) fun e144 =>
            oB (oPI 898 0 0) fun _ =>
            oB (oPI 73 0 2) fun _ =>
            oR ()))))
      (M_Mo_goesOn_j25 l3))
    (M_Mo_goesOn_j25 l3)

def M_Mo_back (l1 : Int32) : M (Unit) :=
  oB (oGI 3590 l1) fun v2 =>
  oB (oPI 72 0 v2) fun _ =>
  oB (oPI 3590 l1 (-1)) fun _ =>
  oB (oGI 72 0) fun v14 =>
  oB (oK ((0 : Int32) ≤ v14 ∧ v14 < (33 : Int32))) fun _ =>
  oB (oPI 3585 v14 1) fun _ =>
  oR ()

def M_Mo_state  : M (Unit) :=
  oB (M_Mo_is 0 7) fun v4 =>
  oC (v4 = 0)
    (oB (M_Mo_raise 2) fun v12 =>
    oR ())
    (oB (M_Mo_av 0) fun v35 =>
    oB (oAI 62 4100 0 v35.toInt32) fun v39 =>
    oB (oK ((0 : Int32) ≤ v39 ∧ v39 < (33 : Int32))) fun _ =>
    oB (oGI 3585 v39) fun v41 =>
    oB (oAI 84 4 0 v41) fun v44 =>
    oB (M_Mo_give 4 v44.toInt64) fun _ =>
    oR ())

def M_Mo_running_j36 (k0 : Int32) : M (Unit) :=
  oB (M_Va_add 10 0 k0 0) fun _ =>
  oR ()

def M_Mo_running  : M (Unit) :=
  oB (oGI 72 0) fun v4 =>
  oB (oK ((0 : Int32) ≤ v4 ∧ v4 < (33 : Int32))) fun _ =>
  oB (oGI 3584 v4) fun v7 =>
  oB (M_Mo_give 7 v7.toInt64) fun _ =>
  oB (oGI 72 0) fun v19 =>
  oB (oK ((0 : Int32) ≤ v19 ∧ v19 < (33 : Int32))) fun _ =>
  oB (oK ((0 : Int32) ≤ 0 ∧ 0 < (33 : Int32))) fun _ =>
  oC (v19 = 0)
    (M_Mo_running_j36 2)
    (M_Mo_running_j36 1)

def M_Mo_finished_L35 : (Int32) → M ((Int32) ⊕ ((Unit))) := fun x =>
  oB (oGI 1282 0) fun v40 =>
  oC (v40 ≤ x)
    (oR (Sum.inr ()))
    (oB (M_Va_add_ 13 0 10 0 x) fun _ =>
    oR (Sum.inl (x + 1)))

def M_Mo_finished  : M (Unit) :=
  oB (oGI 72 0) fun v1 =>
  oB (oK ((0 : Int32) ≤ v1 ∧ v1 < (33 : Int32))) fun _ =>
  oB (oPI 3585 v1 3) fun _ =>
  oB (oK ((0 : Int32) ≤ v1 ∧ v1 < (33 : Int32))) fun _ =>
  oB (oK ((0 : Int32) ≤ 0 ∧ 0 < (33 : Int32))) fun _ =>
  oC (v1 = 0)
    (oB (oPI 80 0 1) fun _ =>
    oB (oPI 1666 0 0) fun _ =>
    oB (oW M_Mo_finished_L35 0) fun e35 =>
    oB (oPI 1282 0 0) fun _ =>
    oR ())
    (oB (oK ((0 : Int32) ≤ v1 ∧ v1 < (33 : Int32))) fun _ =>
    oB (M_Mo_back v1) fun _ =>
    oB (oPI 73 0 2) fun _ =>
    oR ())

def M_Mo_expect (l1 : Int32) (l2 : Int32) (l3 : Int32) : M (Unit) :=
  oB (oGI 72 0) fun v1 =>
  oB (oK ((0 : Int32) ≤ v1 ∧ v1 < (33 : Int32))) fun _ =>
  oB (M_Th_top v1) fun v4 =>
  oB (oGI 72 0) fun v10 =>
  oB (oK ((0 : Int32) ≤ v10 ∧ v10 < (33 : Int32))) fun _ =>
  oB (oSI 37 201 v10 v4 l1) fun _ =>
  oB (oGI 72 0) fun v21 =>
  oB (oK ((0 : Int32) ≤ v21 ∧ v21 < (33 : Int32))) fun _ =>
  oB (oSI 38 201 v21 v4 l2) fun _ =>
  oB (oGI 72 0) fun v32 =>
  oB (oK ((0 : Int32) ≤ v32 ∧ v32 < (33 : Int32))) fun _ =>
  oB (oSI 39 201 v32 v4 l3) fun _ =>
  oR ()

def M_Mo_arguments (l1 : Int32) (l2 : Int64) (l4 : Int32) (l5 : Int64) : M (Unit) :=
  oB (oPI 898 0 0) fun _ =>
  oB (M_Va_add 7 0 l1 l2) fun _ =>
  oB (M_Va_add 7 0 l4 l5) fun _ =>
  oR ()

def M_Mo_close_j54 (l1 : Int32) (l2 : Int32) (l3 : Int32) (l4 : Int32) : M ((Int32 × Int32 × Int32 × Int32) ⊕ ((Int32 × Int32))) :=
  oR (Sum.inl (l1, l2, l3, l4 + 1))

def M_Mo_close_L5 : (Int32 × Int32 × Int32 × Int32) → M ((Int32 × Int32 × Int32 × Int32) ⊕ ((Int32 × Int32))) := fun x =>
  oB (oGI 3587 x.1) fun v8 =>
  oC (v8 ≤ x.2.2.2)
    (oR (Sum.inr (x.1, x.2.2.1)))
    (oB (oAI 29 4100 x.1 x.2.2.2) fun v20 =>
    oB (oAI 63 4100 0 v20) fun v29 =>
    oC (v29 < x.2.1)
      (oB (oSI 29 4100 x.1 x.2.2.1 v20) fun _ =>
      M_Mo_close_j54 x.1 x.2.1 (x.2.2.1 + 1) x.2.2.2)
      (oB (M_Mo_closeVariable v20) fun _ =>
      M_Mo_close_j54 x.1 x.2.1 x.2.2.1 x.2.2.2))

def M_Mo_close (l1 : Int32) (l2 : Int32) : M (Unit) :=
  oB (oW M_Mo_close_L5 (l1, l2, 0, 0)) fun e5 =>
  oB (oPI 3587 e5.1 e5.2) fun _ =>
  oR ()

def M_Mo_constant (l1 : Int32) (l2 : Int32) : M (Unit) :=
  oB (oAI 47 251 0 l1) fun v5 =>
  oL (v5 + l2) fun l3_8 =>
  oB (oAI 2 20001 0 l3_8) fun v18 =>
  oB (oPI 98 0 v18) fun _ =>
  oB (oAL 3 20001 0 l3_8) fun v31 =>
  oB (oPL 99 0 v31) fun _ =>
  oR ()

def M_Mo_up (l1 : Int32) (l2 : Int32) (l3 : Int32) : M (Int32) :=
  oB (oGI 9471 0) fun v1 =>
  oB (oK (v1 = 1)) fun _ =>
  oB (oAI 31 201 l1 l2) fun v13 =>
  oB (oAI 63 4100 0 v13) fun v14 =>
  oB (oAI 73 300000 0 (v14 + l3)) fun v17 =>
  oR v17

def M_Mo_rk_ (l1 : Int32) (l2 : Int32) (l3 : Int32) (l4 : Int32) : M (Unit) :=
  oC (l4 ≤ 255)
    (oB (oAI 33 201 l1 l2) fun v33 =>
    oB (oAI 20 4300 l1 (v33 + l4)) fun v37 =>
    oB (oPI 98 0 v37) fun _ =>
    oB (oAI 33 201 l1 l2) fun v54 =>
    oB (oAL 21 4300 l1 (v54 + l4)) fun v58 =>
    oB (oPL 99 0 v58) fun _ =>
    oR ())
    (oB (M_Mo_constant l3 (l4 - 256)) fun _ =>
    oR ())

def M_Mo_callGot  : M (Unit) :=
  oB (oGI 66 0) fun v2 =>
  oB (oPI 75 0 v2) fun _ =>
  oB (oGL 67 0) fun v10 =>
  oB (oPL 76 0 v10) fun _ =>
  oB (oPI 73 0 1) fun _ =>
  oR ()

def M_Mo_store (l1 : Int32) (l2 : Int32) (l3 : Int64) : M (Unit) :=
  oB (oAI 62 4100 0 l1) fun v5 =>
  oC (0 ≤ v5)
    (oB (oAI 62 4100 0 l1) fun v31 =>
    oB (oK ((0 : Int32) ≤ v31 ∧ v31 < (33 : Int32))) fun _ =>
    oB (oAI 63 4100 0 l1) fun v41 =>
    oB (M_Va_set 19 v31 v41 l2 l3) fun _ =>
    oR ())
    (oB (M_Va_set 4 0 l1 l2 l3) fun _ =>
    oR ())

def M_Mo_eventOf (l0 : Int32) : M (Int32) :=
  oC (17 ≤ l0)
    (oC (25 ≤ l0)
      (oR (l0 - 12))
      (oR (l0 - 12)))
    (oR (l0 - 10))

def M_Mo_shifted (l0 : Int64) (l2 : Int64) : M (Int64) :=
  oC ((lg_cmp l2 (-64)) ≤ 0)
    (oR 0)
    (oC ((lg_cmp l2 64) < 0)
      (oC ((lg_cmp l2 0) < 0)
        (oR (lushr l0 ((-l2).toInt32)))
        (oR (l0 <<< (l2.toInt32.toInt64 &&& 63))))
      (oR 0))

def M_Mo_truth (l0 : Int32) : M (Int32) :=
  oC (l0 ≤ 1)
    (oR 0)
    (oR 1)

def M_Mo_order_L19 : (Int32 × Int32 × Int32 × Int32) → M ((Int32 × Int32 × Int32 × Int32) ⊕ ((Int32) ⊕ (Int32 × Int32))) := fun x =>
  oC (x.2.2.1 ≤ x.2.2.2)
    (oR (Sum.inr (Sum.inr (x.1, x.2.1))))
    (oB (oAI 62 4100 0 x.1) fun v34 =>
    oB (oAI 67 400000 0 (v34 + x.2.2.2)) fun v38 =>
    oB (oAI 62 4100 0 x.2.1) fun v52 =>
    oB (oAI 67 400000 0 (v52 + x.2.2.2)) fun v56 =>
    oL ((v38 &&& 255) - (v56 &&& 255)) fun l5_62 =>
    oC (l5_62 = 0)
      (oR (Sum.inl (x.1, x.2.1, x.2.2.1, x.2.2.2 + 1)))
      (oR (Sum.inr (Sum.inl l5_62))))

def M_Mo_order (l1 : Int32) (l2 : Int32) : M (Int32) :=
  oB (oAI 63 4100 0 l1) fun v5 =>
  oB (oAI 63 4100 0 l2) fun v11 =>
  oB (M_Mth_min v5 v11) fun v12 =>
  oB (oW M_Mo_order_L19 (l1, l2, v12, 0)) fun e19 =>
  Sum.elim
    (fun y19_69 : Int32 =>
      oR y19_69)
    (fun y19_78 : Int32 × Int32 =>
      oB (oAI 63 4100 0 y19_78.1) fun v83 =>
      oB (oAI 63 4100 0 y19_78.2) fun v89 =>
      oR (v83 - v89)) e19

def M_Mo_addAt_j36 (l1r : Nat) (l1 : Int32) (l2 : Int32) (l3 : Int32) (l5 : Int32) : M (Unit) :=
  oB (oAI 33 201 l2 l3) fun v46 =>
  oB (M_Va_add_ l1r l1 19 l2 (v46 + l5)) fun _ =>
  oR ()

def M_Mo_addAt (l1r : Nat) (l1 : Int32) (l2 : Int32) (l3 : Int32) (l4 : Int32) (l5 : Int32) : M (Unit) :=
  oC (l4 = 0)
    (M_Mo_addAt_j36 l1r l1 l2 l3 l5)
    (oB (oAI 35 201 l2 l3) fun v12 =>
    oC (l5 < v12)
      (M_Mo_addAt_j36 l1r l1 l2 l3 l5)
      (oB (oAI 35 201 l2 l3) fun v28 =>
      oB (M_Va_add_ l1r l1 22 l2 (l5 - v28)) fun _ =>
      oR ()))

def M_Mo_loop_j40  : M (Unit) :=
  oB (M_Mo_raise 3) fun v42 =>
  oR ()

def M_Mo_loop_j140 (l1 : Int32) (l2 : Int32) (l3 : Int32) (l4r : Nat) (l4 : Int32) (l5 : Int32) (k0 : Int32) : M (Unit) :=
  oC (k0 = 0)
    (oR ())
    (oB (oAI 32 201 l1 l2) fun v154 =>
    oB (M_Mo_sbx l3) fun v156 =>
    oB (oSI 32 201 l1 l2 (v154 + v156)) fun _ =>
    oB (M_Va_set_ l4r l4 (l5 + 3) l4r l4 l5) fun _ =>
    oR ())

def M_Mo_loop (l1 : Int32) (l2 : Int32) (l3 : Int32) (l4r : Nat) (l4 : Int32) (l5 : Int32) : M (Unit) :=
  oB (oAI (l4r + 1) (lnI (l4r + 1)) l4 (l5 + 2)) fun v9 =>
  oC (v9 = 3)
    (oB (oAI (l4r + 1) (lnI (l4r + 1)) l4 l5) fun v21 =>
    oC (v21 = 3)
      (oB (oAI (l4r + 1) (lnI (l4r + 1)) l4 (l5 + 1)) fun v35 =>
      oC (v35 = 3)
        (oB (oAL (l4r + 2) (lnI (l4r + 2)) l4 l5) fun v55 =>
        oB (oAL (l4r + 2) (lnI (l4r + 2)) l4 (l5 + 2)) fun v65 =>
        oB (oSL (l4r + 2) (lnI (l4r + 2)) l4 l5 (v55 + v65)) fun _ =>
        oB (oAL (l4r + 2) (lnI (l4r + 2)) l4 (l5 + 2)) fun v77 =>
        oC ((lg_cmp v77 0) ≤ 0)
          (oB (oAL (l4r + 2) (lnI (l4r + 2)) l4 l5) fun v120 =>
          oB (oAL (l4r + 2) (lnI (l4r + 2)) l4 (l5 + 1)) fun v130 =>
          oC ((lg_cmp v120 v130) < 0)
            (M_Mo_loop_j140 l1 l2 l3 l4r l4 l5 0)
            (M_Mo_loop_j140 l1 l2 l3 l4r l4 l5 1))
          (oB (oAL (l4r + 2) (lnI (l4r + 2)) l4 l5) fun v90 =>
          oB (oAL (l4r + 2) (lnI (l4r + 2)) l4 (l5 + 1)) fun v100 =>
          oC (0 < (lg_cmp v90 v100))
            (M_Mo_loop_j140 l1 l2 l3 l4r l4 l5 0)
            (M_Mo_loop_j140 l1 l2 l3 l4r l4 l5 1)))
        (M_Mo_loop_j40))
      (M_Mo_loop_j40))
    (M_Mo_loop_j40)

def M_Mo_thread_L2 : (Int32 × Int32) → M ((Int32 × Int32) ⊕ ((Int32))) := fun x =>
  oB (oK ((0 : Int32) ≤ x.2 ∧ x.2 < (33 : Int32))) fun _ =>
  oC (x.2 = x.1)
    (oR (Sum.inr x.2))
    (oR (Sum.inl (x.1, x.2 + 1)))

def M_Mo_thread (l1 : Int32) : M (Int32) :=
  oB (oW M_Mo_thread_L2 (l1, 0)) fun e2 =>
  oR e2

def M_Mo_further_j160 (l1 : Int32) (l2 : Int32) (l5r : Nat) (l5 : Int32) (l6 : Int32) (l7 : Int32) (l8 : Int32) (l9 : Int32) : M ((Int32 × Int32 × Nat × Int32 × Int32 × Int32 × Int32 × Int32) ⊕ ((Unit))) :=
  oR (Sum.inl (l1, l2, l5r, l5, l6, l7, l8, l9 + 1))

def M_Mo_further_L110 : (Int32 × Int32 × Nat × Int32 × Int32 × Int32 × Int32 × Int32) → M ((Int32 × Int32 × Nat × Int32 × Int32 × Int32 × Int32 × Int32) ⊕ ((Unit))) := fun x =>
  oC (x.2.2.2.2.2.1 ≤ x.2.2.2.2.2.2.2)
    (oR (Sum.inr ()))
    (oB (oAI 34 201 x.1 x.2.1) fun v124 =>
    oC (v124 ≤ x.2.2.2.2.2.2.2)
      (oB (M_Va_set x.2.2.1 x.2.2.2.1 (x.2.2.2.2.1 + x.2.2.2.2.2.2.2) 0 0) fun _ =>
      M_Mo_further_j160 x.1 x.2.1 x.2.2.1 x.2.2.2.1 x.2.2.2.2.1 x.2.2.2.2.2.1 x.2.2.2.2.2.2.1 x.2.2.2.2.2.2.2)
      (oB (M_Va_set_ x.2.2.1 x.2.2.2.1 (x.2.2.2.2.1 + x.2.2.2.2.2.2.2) x.2.2.1 x.2.2.2.1 (x.2.2.2.2.2.2.1 + x.2.2.2.2.2.2.2)) fun _ =>
      M_Mo_further_j160 x.1 x.2.1 x.2.2.1 x.2.2.2.1 x.2.2.2.2.1 x.2.2.2.2.2.1 x.2.2.2.2.2.2.1 x.2.2.2.2.2.2.2))

def M_Mo_further_L60 : (Int32 × Int32 × Int32 × Nat × Int32 × Int32 × Int32 × Int32) → M ((Int32 × Int32 × Int32 × Nat × Int32 × Int32 × Int32 × Int32) ⊕ ((Int32 × Int32 × Int32 × Int32))) := fun x =>
  oC (x.2.2.2.2.2.1 ≤ x.2.2.2.2.2.2.2)
    (oR (Sum.inr (x.1, x.2.1, x.2.2.1, x.2.2.2.2.2.1)))
    (oB (M_Va_add_ 22 x.1 x.2.2.2.1 x.2.2.2.2.1 (x.2.2.2.2.2.2.1 + x.2.2.2.2.2.2.2)) fun _ =>
    oR (Sum.inl (x.1, x.2.1, x.2.2.1, x.2.2.2.1, x.2.2.2.2.1, x.2.2.2.2.2.1, x.2.2.2.2.2.2.1, x.2.2.2.2.2.2.2 + 1)))

def M_Mo_further_j24 (l1 : Int32) (l2 : Int32) (l4 : Int32) (l5r : Nat) (l5 : Int32) (l6 : Int32) (k0 : Int32) : M (Unit) :=
  oB (oAI 33 201 l1 l2) fun v31 =>
  oB (oAI 34 201 l1 l2) fun v37 =>
  oL (v31 - v37) fun l8_39 =>
  oB (M_Mo_b l4) fun v43 =>
  oC (v43 = 0)
    (oB (oPI 2818 l1 0) fun _ =>
    oB (oW M_Mo_further_L60 (l1, l2, l4, l5r, l5, k0, l8_39, 0)) fun e60 =>
    oB (M_Mo_a e60.2.2.1) fun v94 =>
    oB (oSI 35 201 e60.1 e60.2.1 v94) fun _ =>
    oB (oSI 36 201 e60.1 e60.2.1 e60.2.2.2) fun _ =>
    oR ())
    (oB (oW M_Mo_further_L110 (l1, l2, l5r, l5, l6, k0, l8_39, 0)) fun e110 =>
    oR ())

def M_Mo_further (l1 : Int32) (l2 : Int32) (l3 : Int32) (l4 : Int32) (l5r : Nat) (l5 : Int32) (l6 : Int32) : M (Unit) :=
  oB (M_Mo_b l4) fun v2 =>
  oC (v2 = 0)
    (oB (oAI 34 201 l1 l2) fun v13 =>
    M_Mo_further_j24 l1 l2 l4 l5r l5 l6 v13)
    (oB (M_Mo_b l4) fun v19 =>
    M_Mo_further_j24 l1 l2 l4 l5r l5 l6 (v19 - 1))

def M_Mo_none_j34 (k0 : Int32) (k1 : Int32) : M (Int32) :=
  oB (M_Mo_refuse k1 k0) fun v34 =>
  oB (oK (v34 = 0 ∨ v34 = 1)) fun _ =>
  oR v34

def M_Mo_none_j29 (k0 : Int32) : M (Int32) :=
  M_Mo_none_j34 1 k0

def M_Mo_none (l1 : Int32) : M (Int32) :=
  oB (oPI 2 0 0) fun _ =>
  oB (oGI 5 0) fun v8 =>
  oC (v8 = 0)
    (M_Mo_none_j29 1)
    (oC (l1 < 0)
      (M_Mo_none_j29 1)
      (oB (oGI 1666 0) fun v23 =>
      oC (l1 < v23)
        (M_Mo_none_j34 0 1)
        (M_Mo_none_j29 1)))

def M_Mo_value (l1 : Int32) : M (Int64) :=
  oB (M_Mo_none l1) fun v2 =>
  oC (v2 = 0)
    (oB (oAI 14 400 0 l1) fun v18 =>
    oB (oAL 15 400 0 l1) fun v28 =>
    oC (3 ≤ v18)
      (oC (v18 = 3)
        (oR v28)
        (oC (v18 = 4)
          (oB (oAI 63 4100 0 v28.toInt32) fun v55 =>
          oR v55.toInt64)
          (oC (0 ≤ (lg_cmp v28 0))
            (oB (oAI 61 4100 0 v28.toInt32) fun v78 =>
            oR v78.toInt64)
            (oR ((-1) - v28)))))
      (oR 0))
    (oR 0)

def M_Mo_byteOf__j53 (l1 : Int32) (l2 : Int32) (k0 : Int32) (k1 : Int32) : M (Int32) :=
  oB (M_Mo_refuse k1 k0) fun v53 =>
  oC (v53 = 0)
    (oB (oAL 15 400 0 l1) fun v77 =>
    oB (oAI 62 4100 0 v77.toInt32) fun v79 =>
    oB (oAI 67 400000 0 (v79 + l2)) fun v82 =>
    oR (v82 &&& 255))
    (oR 0)

def M_Mo_byteOf__j48 (l1 : Int32) (l2 : Int32) (k0 : Int32) : M (Int32) :=
  M_Mo_byteOf__j53 l1 l2 1 k0

def M_Mo_byteOf_ (l1 : Int32) (l2 : Int32) : M (Int32) :=
  oB (M_Mo_none l1) fun v2 =>
  oC (v2 = 0)
    (oB (oAI 14 400 0 l1) fun v20 =>
    oC (v20 = 4)
      (oC (l2 < 0)
        (M_Mo_byteOf__j48 l1 l2 2)
        (oB (oAL 15 400 0 l1) fun v42 =>
        oB (oAI 63 4100 0 v42.toInt32) fun v44 =>
        oC (l2 < v44)
          (M_Mo_byteOf__j53 l1 l2 0 2)
          (M_Mo_byteOf__j48 l1 l2 2)))
      (M_Mo_byteOf__j48 l1 l2 2))
    (oR 0)

def M_Mo_output_j31 (l1 : Int32) (k0 : Int32) (k1 : Int32) : M (Int32) :=
  oB (M_Mo_refuse k1 k0) fun v31 =>
  oC (v31 = 0)
    (oB (oAI 88 20000 0 l1) fun v44 =>
    oR (v44 &&& 255))
    (oR 0)

def M_Mo_output_j26 (l1 : Int32) (k0 : Int32) : M (Int32) :=
  M_Mo_output_j31 l1 1 k0

def M_Mo_output (l1 : Int32) : M (Int32) :=
  oB (oPI 2 0 0) fun _ =>
  oB (oGI 5 0) fun v8 =>
  oC (v8 = 0)
    (M_Mo_output_j26 l1 1)
    (oC (l1 < 0)
      (M_Mo_output_j26 l1 1)
      (oB (oGI 95 0) fun v20 =>
      oC (l1 < v20)
        (M_Mo_output_j31 l1 0 1)
        (M_Mo_output_j26 l1 1)))

def M_Mo_count (l1 : Int32) : M (Int32) :=
  oB (oPI 2 0 0) fun _ =>
  oC (l1 = 0)
    (oB (oGI 1 0) fun v10 =>
    oR v10)
    (oC (l1 < 1)
      (oR (-1))
      (oC (l1 ≤ 11)
        (oB (oGI 5 0) fun v28 =>
        oC (v28 = 0)
          (oR 0)
          (oC (l1 = 1)
            (oB (oGI 95 0) fun v93 =>
            oR v93)
          (oC (l1 = 2)
            (oB (oGL 81 0) fun v98 =>
            oR ((v98 &&& 2147483647).toInt32))
          (oC (l1 = 3)
            (oB (oGI 34 0) fun v108 =>
            oR v108)
          (oC (l1 = 4)
            (oB (oGI 33 0) fun v113 =>
            oR v113)
          (oC (l1 = 5)
            (oB (oGI 35 0) fun v118 =>
            oR v118)
          (oC (l1 = 6)
            (oB (oGI 36 0) fun v123 =>
            oR v123)
          (oC (l1 = 7)
            (oB (oGI 37 0) fun v128 =>
            oR v128)
          (oC (l1 = 8)
            (oB (oGI 38 0) fun v133 =>
            oR v133)
          (oC (l1 = 9)
            (oB (oGI 72 0) fun v138 =>
            oB (oK ((0 : Int32) ≤ v138 ∧ v138 < (33 : Int32))) fun _ =>
            oB (oGI 3586 v138) fun v141 =>
            oR v141)
          (oC (l1 = 10)
            (oB (oGI 1666 0) fun v149 =>
            oR v149)
          (oB (oGI 39 0) fun v154 =>
          oR v154))))))))))))
        (oR (-1))))

def M_Arr_fill______L10 : (Nat × Int32 × Int32 × Int32 × Int32) → M ((Nat × Int32 × Int32 × Int32 × Int32) ⊕ ((Unit))) := fun x =>
  oC (x.2.2.1 ≤ x.2.2.2.2)
    (oR (Sum.inr ()))
    (oB (oSI x.1 (lnI x.1) x.2.1 x.2.2.2.2 x.2.2.2.1) fun _ =>
    oR (Sum.inl (x.1, x.2.1, x.2.2.1, x.2.2.2.1, x.2.2.2.2 + 1)))

def M_Arr_fill_____ (l0r : Nat) (l0 : Int32) (l1 : Int32) (l2 : Int32) (l3 : Int32) : M (Unit) :=
  oB (M_Arr_rangeCheck (lnI l0r) l1 l2) fun _ =>
  oB (oPr l0r l0) fun _ =>
  oB (oW M_Arr_fill______L10 (l0r, l0, l2, l3, l1)) fun e10 =>
  oR ()

def M_Mo_readConstants_j213 (l2 : Int32) (l3 : Int32) : M ((Int32 × Int32) ⊕ ((Unit))) :=
  oR (Sum.inl (l2, l3 + 1))

def M_Mo_readConstants_j184 (l2 : Int32) (l3 : Int32) (l4 : Int32) (l5 : Int64) : M ((Int32 × Int32) ⊕ ((Unit))) :=
  oB (oGI 3 0) fun v185 =>
  oC (v185 = 0)
    (oB (oGI 25 0) fun v197 =>
    oB (oPI 25 0 (v197 + 1)) fun _ =>
    oB (M_Va_set 1 0 v197 l4 l5) fun _ =>
    M_Mo_readConstants_j213 l2 l3)
    (M_Mo_readConstants_j213 l2 l3)

def M_Mo_readConstants_j173 (l2 : Int32) (l3 : Int32) (l4 : Int32) (l5 : Int64) (l7 : Int32) : M ((Int32 × Int32) ⊕ ((Unit))) :=
  oB (oGI 28 0) fun v175 =>
  oB (oPI 28 0 (v175 + l7)) fun _ =>
  M_Mo_readConstants_j184 l2 l3 l4 l5

def M_Mo_readConstants_j110 (l2 : Int32) (l3 : Int32) (l4 : Int32) (l5 : Int64) : M ((Int32 × Int32) ⊕ ((Unit))) :=
  oC (l4 = 4)
    (oB (M_Mo_number 2) fun v118 =>
    oB (oGI 25 0) fun v129 =>
    oB (oGI 28 0) fun v133 =>
    oB (oSI 57 20001 0 v129 v133) fun _ =>
    oB (oGI 3 0) fun v143 =>
    oC (v143 = 0)
      (oB (oGI 1 0) fun v150 =>
      oB (oGI 28 0) fun v154 =>
      oC (v118.toInt32 ≤ (v150 - v154))
        (M_Mo_readConstants_j173 l2 l3 l4 v118.toInt32.toInt64 v118.toInt32)
        (oB (oGI 28 0) fun v166 =>
        oB (M_Mo_bad 1 v166) fun v169 =>
        M_Mo_readConstants_j173 l2 l3 l4 v118.toInt32.toInt64 v118.toInt32))
      (M_Mo_readConstants_j173 l2 l3 l4 v118.toInt32.toInt64 v118.toInt32))
    (M_Mo_readConstants_j184 l2 l3 l4 l5)

def M_Mo_readConstants_j90 (l2 : Int32) (l3 : Int32) (l4 : Int32) (k0 : Int32) : M ((Int32 × Int32) ⊕ ((Unit))) :=
  oB (M_Mo_need k0) fun _ =>
  oC (l4 = 3)
    (oB (M_Mo_number 8) fun v105 =>
    M_Mo_readConstants_j110 l2 l3 l4 v105)
    (M_Mo_readConstants_j110 l2 l3 l4 0)

def M_Mo_readConstants_j78 (l2 : Int32) (l3 : Int32) (l4 : Int32) : M ((Int32 × Int32) ⊕ ((Unit))) :=
  oC (5 ≤ l4)
    (M_Mo_readConstants_j90 l2 l3 l4 0)
    (M_Mo_readConstants_j90 l2 l3 l4 1)

def M_Mo_readConstants_L26 : (Int32 × Int32) → M ((Int32 × Int32) ⊕ ((Unit))) := fun x =>
  oC (x.1 ≤ x.2)
    (oR (Sum.inr ()))
    (oB (oGI 3 0) fun v32 =>
    oC (v32 = 0)
      (oB (M_Mo_number 1) fun v40 =>
      oB (oGI 3 0) fun v47 =>
      oC (v47 = 0)
        (oB (oGI 25 0) fun v54 =>
        oB (oGI 26 0) fun v58 =>
        oC ((v54 + v58) = 20000)
          (oB (oGI 29 0) fun v71 =>
          oB (M_Mo_bad 4 v71) fun v74 =>
          M_Mo_readConstants_j78 x.1 x.2 v40.toInt32)
          (M_Mo_readConstants_j78 x.1 x.2 v40.toInt32))
        (M_Mo_readConstants_j78 x.1 x.2 v40.toInt32))
      (oR (Sum.inr ())))

def M_Mo_readConstants (l1 : Int32) : M (Unit) :=
  oB (M_Mo_number 2) fun v2 =>
  oB (oGI 25 0) fun v13 =>
  oB (oSI 47 251 0 l1 v13) fun _ =>
  oB (oSI 48 251 0 l1 v2.toInt32) fun _ =>
  oB (oW M_Mo_readConstants_L26 (v2.toInt32, 0)) fun e26 =>
  oR ()

def M_Mo_makes_j36  : M (Int32) :=
  oR 0

def M_Mo_makes_j32  : M (Int32) :=
  oR 1

def M_Mo_makes_j16 (l0 : Int32) : M (Int32) :=
  oB (M_Mo_op l0) fun v17 =>
  oC (v17 = 45)
    (oB (M_Mo_b l0) fun v26 =>
    oC (v26 = 0)
      (M_Mo_makes_j32)
      (M_Mo_makes_j36))
    (M_Mo_makes_j36)

def M_Mo_makes (l0 : Int32) : M (Int32) :=
  oB (M_Mo_op l0) fun v1 =>
  oC (v1 = 36)
    (oB (M_Mo_c l0) fun v10 =>
    oC (v10 = 0)
      (M_Mo_makes_j32)
      (M_Mo_makes_j16 l0))
    (M_Mo_makes_j16 l0)

def M_Mo_named_j242  : M (Int32) :=
  oR 0

def M_Mo_named_j270  : M (Int32) :=
  oR 0

def M_Mo_named_j300  : M (Int32) :=
  oR 0

def M_Mo_named_j296  : M (Int32) :=
  oR 1

def M_Mo_named_j336  : M (Int32) :=
  oR 0

def M_Mo_named_j371  : M (Int32) :=
  oR 0

def M_Mo_named_j404  : M (Int32) :=
  oR 0

def M_Mo_named_j439  : M (Int32) :=
  oR 0

def M_Mo_named_j472  : M (Int32) :=
  oR 0

def M_Mo_named_j514  : M (Int32) :=
  oR 0

def M_Mo_named_j547  : M (Int32) :=
  oR 0

def M_Mo_named_j578  : M (Int32) :=
  oR 0

def M_Mo_named_j615  : M (Int32) :=
  oR 0

def M_Mo_named_j596 (l2 : Int32) (l3 : Int32) : M (Int32) :=
  oB (M_Mo_sbx l3) fun v601 =>
  oB (M_Mo_goes ((l2 + 1) + v601)) fun v605 =>
  oC (v605 = 0)
    (M_Mo_named_j615)
    (oR 1)

def M_Mo_named_j645  : M (Int32) :=
  oR 0

def M_Mo_named_j666  : M (Int32) :=
  oR 0

def M_Mo_named_j696  : M (Int32) :=
  oR 0

def M_Mo_named_j750  : M (Int32) :=
  oR 0

def M_Mo_named_j746  : M (Int32) :=
  oR 1

def M_Mo_named_j726 (l5 : Int32) (l7 : Int32) : M (Int32) :=
  oC (l7 < 2)
    (M_Mo_named_j746)
    (oB (M_Mo_reg ((l5 + l7) - 2)) fun v740 =>
    oC (v740 = 0)
      (M_Mo_named_j750)
      (M_Mo_named_j746))

def M_Mo_named_j784  : M (Int32) :=
  oR 0

def M_Mo_named_j780  : M (Int32) :=
  oR 1

def M_Mo_named_j819  : M (Int32) :=
  oR 0

def M_Mo_named_j815  : M (Int32) :=
  oR 1

def M_Mo_named_j851  : M (Int32) :=
  oR 0

def M_Mo_named_j883  : M (Int32) :=
  oR 0

def M_Mo_named_j908  : M (Int32) :=
  oR 0

def M_Mo_named_j940  : M (Int32) :=
  oR 0

def M_Mo_named_j977  : M (Int32) :=
  oR 0

def M_Mo_named_j973  : M (Int32) :=
  oR 1

def M_Mo_named_j1005  : M (Int32) :=
  oR 0

def M_Mo_named_j1040  : M (Int32) :=
  oR 0

def M_Mo_named_j1036  : M (Int32) :=
  oR 1

def M_Mo_named (l1 : Int32) (l2 : Int32) (l3 : Int32) (l4 : Int32) : M (Int32) :=
  oB (M_Mo_a l3) fun v1 =>
  oB (M_Mo_b l3) fun v7 =>
  oB (M_Mo_c l3) fun v13 =>
  oC (l4 = 0 ∨ l4 = 25 ∨ l4 = 26 ∨ l4 = 27 ∨ l4 = 28)
    (oB (M_Mo_reg v1) fun v223 =>
    oC (v223 = 0)
      (M_Mo_named_j242)
      (oB (M_Mo_reg v7) fun v232 =>
      oC (v232 = 0)
        (M_Mo_named_j242)
        (oR 1)))
  (oC (l4 = 1)
    (oB (M_Mo_reg v1) fun v247 =>
    oC (v247 = 0)
      (M_Mo_named_j270)
      (oB (M_Mo_bx l3) fun v254 =>
      oB (oAI 48 251 0 l1) fun v262 =>
      oC (v262 ≤ v254)
        (M_Mo_named_j270)
        (oR 1)))
  (oC (l4 = 3)
    (oB (M_Mo_reg v1) fun v275 =>
    oC (v275 = 0)
      (M_Mo_named_j300)
      (oC (v13 = 0)
        (M_Mo_named_j296)
        (oB (M_Mo_goes (l2 + 2)) fun v290 =>
        oC (v290 = 0)
          (M_Mo_named_j300)
          (M_Mo_named_j296))))
  (oC (l4 = 4)
    (oB (M_Mo_reg (v1 + v7)) fun v308 =>
    oB (oK (v308 = 0 ∨ v308 = 1)) fun _ =>
    oR v308)
  (oC (l4 = 5 ∨ l4 = 9)
    (oB (M_Mo_reg v1) fun v315 =>
    oC (v315 = 0)
      (M_Mo_named_j336)
      (oB (oAI 45 251 0 l1) fun v328 =>
      oC (v328 ≤ v7)
        (M_Mo_named_j336)
        (oR 1)))
  (oC (l4 = 6)
    (oB (M_Mo_reg v1) fun v341 =>
    oC (v341 = 0)
      (M_Mo_named_j371)
      (oB (oAI 45 251 0 l1) fun v354 =>
      oC (v354 ≤ v7)
        (M_Mo_named_j371)
        (oB (M_Mo_rk v13) fun v361 =>
        oC (v361 = 0)
          (M_Mo_named_j371)
          (oR 1))))
  (oC (l4 = 7)
    (oB (M_Mo_reg v1) fun v376 =>
    oC (v376 = 0)
      (M_Mo_named_j404)
      (oB (M_Mo_reg v7) fun v385 =>
      oC (v385 = 0)
        (M_Mo_named_j404)
        (oB (M_Mo_rk v13) fun v394 =>
        oC (v394 = 0)
          (M_Mo_named_j404)
          (oR 1))))
  (oC (l4 = 8)
    (oB (oAI 45 251 0 l1) fun v413 =>
    oC (v413 ≤ v1)
      (M_Mo_named_j439)
      (oB (M_Mo_rk v7) fun v420 =>
      oC (v420 = 0)
        (M_Mo_named_j439)
        (oB (M_Mo_rk v13) fun v429 =>
        oC (v429 = 0)
          (M_Mo_named_j439)
          (oR 1))))
  (oC (l4 = 10)
    (oB (M_Mo_reg v1) fun v444 =>
    oC (v444 = 0)
      (M_Mo_named_j472)
      (oB (M_Mo_rk v7) fun v453 =>
      oC (v453 = 0)
        (M_Mo_named_j472)
        (oB (M_Mo_rk v13) fun v462 =>
        oC (v462 = 0)
          (M_Mo_named_j472)
          (oR 1))))
  (oC (l4 = 11)
    (oB (M_Mo_reg v1) fun v477 =>
    oB (oK (v477 = 0 ∨ v477 = 1)) fun _ =>
    oR v477)
  (oC (l4 = 12)
    (oB (M_Mo_reg (v1 + 1)) fun v486 =>
    oC (v486 = 0)
      (M_Mo_named_j514)
      (oB (M_Mo_reg v7) fun v495 =>
      oC (v495 = 0)
        (M_Mo_named_j514)
        (oB (M_Mo_rk v13) fun v504 =>
        oC (v504 = 0)
          (M_Mo_named_j514)
          (oR 1))))
  (oC (l4 = 13 ∨ l4 = 14 ∨ l4 = 15 ∨ l4 = 16 ∨ l4 = 19 ∨ l4 = 20 ∨ l4 = 21 ∨ l4 = 22 ∨ l4 = 23 ∨ l4 = 24)
    (oB (M_Mo_reg v1) fun v519 =>
    oC (v519 = 0)
      (M_Mo_named_j547)
      (oB (M_Mo_rk v7) fun v528 =>
      oC (v528 = 0)
        (M_Mo_named_j547)
        (oB (M_Mo_rk v13) fun v537 =>
        oC (v537 = 0)
          (M_Mo_named_j547)
          (oR 1))))
  (oC (l4 = 29)
    (oB (M_Mo_reg v1) fun v552 =>
    oC (v552 = 0)
      (M_Mo_named_j578)
      (oC (v13 ≤ v7)
        (M_Mo_named_j578)
        (oB (M_Mo_reg v13) fun v568 =>
        oC (v568 = 0)
          (M_Mo_named_j578)
          (oR 1))))
  (oC (l4 = 30)
    (oC (v1 = 0)
      (M_Mo_named_j596 l2 l3)
      (oB (M_Mo_reg (v1 - 1)) fun v590 =>
      oC (v590 = 0)
        (M_Mo_named_j615)
        (M_Mo_named_j596 l2 l3)))
  (oC (l4 = 31 ∨ l4 = 32 ∨ l4 = 33)
    (oC (2 ≤ v1)
      (M_Mo_named_j645)
      (oB (M_Mo_rk v7) fun v626 =>
      oC (v626 = 0)
        (M_Mo_named_j645)
        (oB (M_Mo_rk v13) fun v635 =>
        oC (v635 = 0)
          (M_Mo_named_j645)
          (oR 1))))
  (oC (l4 = 34)
    (oB (M_Mo_reg v1) fun v650 =>
    oC (v650 = 0)
      (M_Mo_named_j666)
      (oC (2 ≤ v13)
        (M_Mo_named_j666)
        (oR 1)))
  (oC (l4 = 35)
    (oB (M_Mo_reg v1) fun v671 =>
    oC (v671 = 0)
      (M_Mo_named_j696)
      (oB (M_Mo_reg v7) fun v680 =>
      oC (v680 = 0)
        (M_Mo_named_j696)
        (oC (2 ≤ v13)
          (M_Mo_named_j696)
          (oR 1))))
  (oC (l4 = 36)
    (oB (M_Mo_reg v1) fun v701 =>
    oC (v701 = 0)
      (M_Mo_named_j750)
      (oC (v7 = 0)
        (M_Mo_named_j726 v1 v13)
        (oB (M_Mo_reg ((v1 + v7) - 1)) fun v720 =>
        oC (v720 = 0)
          (M_Mo_named_j750)
          (M_Mo_named_j726 v1 v13))))
  (oC (l4 = 37)
    (oB (M_Mo_reg v1) fun v755 =>
    oC (v755 = 0)
      (M_Mo_named_j784)
      (oC (v7 = 0)
        (M_Mo_named_j780)
        (oB (M_Mo_reg ((v1 + v7) - 1)) fun v774 =>
        oC (v774 = 0)
          (M_Mo_named_j784)
          (M_Mo_named_j780))))
  (oC (l4 = 38)
    (oB (M_Mo_reg v1) fun v789 =>
    oC (v789 = 0)
      (M_Mo_named_j819)
      (oC (v7 < 2)
        (M_Mo_named_j815)
        (oB (M_Mo_reg ((v1 + v7) - 2)) fun v809 =>
        oC (v809 = 0)
          (M_Mo_named_j819)
          (M_Mo_named_j815))))
  (oC (l4 = 39)
    (oB (M_Mo_reg (v1 + 3)) fun v826 =>
    oC (v826 = 0)
      (M_Mo_named_j851)
      (oB (M_Mo_sbx l3) fun v837 =>
      oB (M_Mo_goes ((l2 + 1) + v837)) fun v841 =>
      oC (v841 = 0)
        (M_Mo_named_j851)
        (oR 1)))
  (oC (l4 = 40)
    (oB (M_Mo_reg (v1 + 3)) fun v858 =>
    oC (v858 = 0)
      (M_Mo_named_j883)
      (oB (M_Mo_sbx l3) fun v869 =>
      oB (M_Mo_goes ((l2 + 1) + v869)) fun v873 =>
      oC (v873 = 0)
        (M_Mo_named_j883)
        (oR 1)))
  (oC (l4 = 41)
    (oC (v13 ≤ 0)
      (M_Mo_named_j908)
      (oB (M_Mo_reg ((v1 + 2) + v13)) fun v898 =>
      oC (v898 = 0)
        (M_Mo_named_j908)
        (oR 1)))
  (oC (l4 = 42)
    (oB (M_Mo_reg (v1 + 1)) fun v915 =>
    oC (v915 = 0)
      (M_Mo_named_j940)
      (oB (M_Mo_sbx l3) fun v926 =>
      oB (M_Mo_goes ((l2 + 1) + v926)) fun v930 =>
      oC (v930 = 0)
        (M_Mo_named_j940)
        (oR 1)))
  (oC (l4 = 43)
    (oC (v13 ≤ 0)
      (M_Mo_named_j977)
      (oB (M_Mo_reg v1) fun v950 =>
      oC (v950 = 0)
        (M_Mo_named_j977)
        (oC (v7 = 0)
          (M_Mo_named_j973)
          (oB (M_Mo_reg (v1 + v7)) fun v967 =>
          oC (v967 = 0)
            (M_Mo_named_j977)
            (M_Mo_named_j973)))))
  (oC (l4 = 44)
    (oB (M_Mo_reg v1) fun v982 =>
    oC (v982 = 0)
      (M_Mo_named_j1005)
      (oB (M_Mo_bx l3) fun v989 =>
      oB (oAI 52 251 0 l1) fun v997 =>
      oC (v997 ≤ v989)
        (M_Mo_named_j1005)
        (oR 1)))
  (oC (l4 = 45)
    (oB (M_Mo_reg v1) fun v1010 =>
    oC (v1010 = 0)
      (M_Mo_named_j1040)
      (oC (v7 < 2)
        (M_Mo_named_j1036)
        (oB (M_Mo_reg ((v1 + v7) - 2)) fun v1030 =>
        oC (v1030 = 0)
          (M_Mo_named_j1040)
          (M_Mo_named_j1036))))
  (oR 0)))))))))))))))))))))))))))

def M_Mo_markRow_L3 : (Nat × Int32 × Int32 × Int32 × Int32) → M ((Nat × Int32 × Int32 × Int32 × Int32) ⊕ ((Unit))) := fun x =>
  oC ((x.2.2.1 + x.2.2.2.1) ≤ x.2.2.2.2)
    (oR (Sum.inr ()))
    (oB (oAI (x.1 + 1) (lnI (x.1 + 1)) x.2.1 x.2.2.2.2) fun v18 =>
    oB (oAL (x.1 + 2) (lnI (x.1 + 2)) x.2.1 x.2.2.2.2) fun v25 =>
    oB (M_Mo_mark v18 v25) fun _ =>
    oR (Sum.inl (x.1, x.2.1, x.2.2.1, x.2.2.2.1, x.2.2.2.2 + 1)))

def M_Mo_markRow (l1r : Nat) (l1 : Int32) (l2 : Int32) (l3 : Int32) : M (Unit) :=
  oB (oW M_Mo_markRow_L3 (l1r, l1, l2, l3, l2)) fun e3 =>
  oR ()

def M_Th_reach_j126 (l0 : Int32) (l2 : Int32) : M ((Int32 × Int32) ⊕ ((Int32))) :=
  oR (Sum.inl (l0, l2 + 1))

def M_Th_reach_j45 (l0 : Int32) (l2 : Int32) : M ((Int32 × Int32) ⊕ ((Int32))) :=
  oB (oAI 30 201 l0 l2) fun v50 =>
  oC (v50 = 0)
    (oB (oAI 33 201 l0 l2) fun v67 =>
    oB (oAI 34 201 l0 l2) fun v73 =>
    oB (oAI 31 201 l0 l2) fun v88 =>
    oB (oAI 62 4100 0 v88) fun v89 =>
    oB (oAI 44 251 0 v89) fun v90 =>
    oB (oAI 34 201 l0 l2) fun v96 =>
    oB (M_Mo_markRow 19 l0 (v67 - v73) (v90 + v96)) fun _ =>
    oB (oGI 3586 l0) fun v103 =>
    oC (l2 = (v103 - 1))
      (oB (oAI 36 201 l0 l2) fun v122 =>
      oB (M_Mo_markRow 22 l0 0 v122) fun _ =>
      M_Th_reach_j126 l0 l2)
      (M_Th_reach_j126 l0 l2))
    (M_Th_reach_j126 l0 l2)

def M_Th_reach_L18 : (Int32 × Int32) → M ((Int32 × Int32) ⊕ ((Int32))) := fun x =>
  oB (oGI 3586 x.1) fun v20 =>
  oC (v20 ≤ x.2)
    (oR (Sum.inr x.1))
    (oB (oAI 31 201 x.1 x.2) fun v31 =>
    oC (v31 < 0)
      (M_Th_reach_j45 x.1 x.2)
      (oB (oAI 31 201 x.1 x.2) fun v41 =>
      oB (M_Mo_place v41) fun _ =>
      M_Th_reach_j45 x.1 x.2))

def M_Th_reach_L134 : (Int32 × Int32) → M ((Int32 × Int32) ⊕ ((Unit))) := fun x =>
  oB (oGI 3587 x.1) fun v136 =>
  oC (v136 ≤ x.2)
    (oR (Sum.inr ()))
    (oB (oAI 29 4100 x.1 x.2) fun v148 =>
    oB (M_Mo_place v148) fun _ =>
    oR (Sum.inl (x.1, x.2 + 1)))

def M_Th_reach (l0 : Int32) : M (Unit) :=
  oB (oGI 3202 l0) fun v10 =>
  oB (M_Mo_markRow 25 l0 0 v10) fun _ =>
  oB (oW M_Th_reach_L18 (l0, 0)) fun e18 =>
  oB (oW M_Th_reach_L134 (e18, 0)) fun e134 =>
  oR ()

def M_Mo_threadGoes_L2 : (Int32 × Int32) → M ((Int32 × Int32) ⊕ ((Int32))) := fun x =>
  oB (oGI 3587 x.1) fun v4 =>
  oC (v4 ≤ x.2)
    (oR (Sum.inr x.1))
    (oB (oAI 29 4100 x.1 x.2) fun v16 =>
    oB (M_Mo_closeVariable v16) fun _ =>
    oR (Sum.inl (x.1, x.2 + 1)))

def M_Mo_threadGoes (l1 : Int32) : M (Unit) :=
  oB (oW M_Mo_threadGoes_L2 (l1, 0)) fun e2 =>
  oB (oPI 3587 e2 0) fun _ =>
  oB (oPI 3584 e2 (-1)) fun _ =>
  oB (oGI 39 0) fun v38 =>
  oB (oPI 39 0 (v38 - 1)) fun _ =>
  oR ()

def M_Mo_unchain_L48 : (Int32 × Int32) → M ((Int32 × Int32) ⊕ ((Int32 × Int32))) := fun x =>
  oB (oAI 65 4100 0 x.2) fun v53 =>
  oC ((v53 - 1) = x.1)
    (oR (Sum.inr (x.1, x.2)))
    (oB (oAI 65 4100 0 x.2) fun v65 =>
    oL (v65 - 1) fun l3_68 =>
    oR (Sum.inl (x.1, l3_68)))

def M_Mo_unchain (l1 : Int32) : M (Unit) :=
  oB (oAI 62 4100 0 l1) fun v10 =>
  oB (oAI 63 4100 0 l1) fun v16 =>
  oB (M_Mo_hash 67 0 v10 v16) fun v17 =>
  oB (oAI 68 1024 0 v17) fun v26 =>
  oL (v26 - 1) fun l3_29 =>
  oC (l3_29 = l1)
    (oB (oAI 65 4100 0 l1) fun v45 =>
    oB (oSI 68 1024 0 v17 v45) fun _ =>
    oR ())
    (oB (oW M_Mo_unchain_L48 (l1, l3_29)) fun e48 =>
    oB (oAI 65 4100 0 e48.1) fun v82 =>
    oB (oSI 65 4100 0 e48.2 v82) fun _ =>
    oR ())

def M_Mo_entry_j91 (l1 : Int32) (l2 : Int32) (l3 : Int64) (l5 : Int32) : M ((Int32 × Int32 × Int64 × Int32) ⊕ ((Int32 × Int32) ⊕ (Unit))) :=
  oB (oGI 9471 0) fun v92 =>
  oB (oK (v92 = 1)) fun _ =>
  oB (oAI 62 4100 0 l1) fun v100 =>
  oB (oAI 73 300000 0 (v100 + l5)) fun v104 =>
  oL (v104 - 1) fun l5_107 =>
  oR (Sum.inl (l1, l2, l3, l5_107))

def M_Mo_entry_L39 : (Int32 × Int32 × Int64 × Int32) → M ((Int32 × Int32 × Int64 × Int32) ⊕ ((Int32 × Int32) ⊕ (Unit))) := fun x =>
  oC (x.2.2.2 < 0)
    (oR (Sum.inr (Sum.inr ())))
    (oB (oGI 8959 0) fun v45 =>
    oB (oK (v45 = 1)) fun _ =>
    oB (oAI 62 4100 0 x.1) fun v53 =>
    oB (oAI 69 300000 0 (v53 + x.2.2.2)) fun v57 =>
    oC (v57 = x.2.1)
      (oB (oGI 9215 0) fun v63 =>
      oB (oK (v63 = 1)) fun _ =>
      oB (oAI 62 4100 0 x.1) fun v71 =>
      oB (oAL 71 300000 0 (v71 + x.2.2.2)) fun v75 =>
      oC ((lg_cmp v75 x.2.2.1) = 0)
        (oR (Sum.inr (Sum.inl (x.1, x.2.2.2))))
        (M_Mo_entry_j91 x.1 x.2.1 x.2.2.1 x.2.2.2))
      (M_Mo_entry_j91 x.1 x.2.1 x.2.2.1 x.2.2.2))

def M_Mo_entry (l1 : Int32) (l2 : Int32) (l3 : Int64) : M (Int32) :=
  oB (oAI 63 4100 0 l1) fun v5 =>
  oC (v5 = 0)
    (oR (-1))
    (oB (oGI 9599 0) fun v12 =>
    oB (oK (v12 = 1)) fun _ =>
    oB (oAI 62 4100 0 l1) fun v20 =>
    oB (oAI 63 4100 0 l1) fun v27 =>
    oB (M_Mo_slot v27 l2 l3) fun v30 =>
    oB (oPr 74 0) fun _ =>
    oB (oAI 74 300000 0 (v20 + v30)) fun v34 =>
    oL (v34 - 1) fun l5_37 =>
    oB (oW M_Mo_entry_L39 (l1, l2, l3, l5_37)) fun e39 =>
    Sum.elim
      (fun y39_81 : Int32 × Int32 =>
        oB (oAI 62 4100 0 y39_81.1) fun v86 =>
        oR (v86 + y39_81.2))
      (fun y39_112 : Unit =>
        oR (-1)) e39)

def M_Mo_move_j117 (l1 : Int32) (l4 : Int32) (l5 : Int32) (l6 : Int32) : M ((Int32 × Int32 × Int32 × Int32) ⊕ ((Unit))) :=
  oR (Sum.inl (l1, l4, l5, l6 + 1))

def M_Mo_move_L52 : (Int32 × Int32 × Int32 × Int32) → M ((Int32 × Int32 × Int32 × Int32) ⊕ ((Unit))) := fun x =>
  oC (x.2.2.1 ≤ x.2.2.2)
    (oR (Sum.inr ()))
    (oB (oGI 9087 0) fun v60 =>
    oB (oK (v60 = 1)) fun _ =>
    oB (oAI 70 300000 0 (x.2.1 + x.2.2.2)) fun v68 =>
    oC (v68 = 0)
      (M_Mo_move_j117 x.1 x.2.1 x.2.2.1 x.2.2.2)
      (oB (oGI 8959 0) fun v75 =>
      oB (oK (v75 = 1)) fun _ =>
      oB (oAI 69 300000 0 (x.2.1 + x.2.2.2)) fun v83 =>
      oB (oGI 9215 0) fun v85 =>
      oB (oK (v85 = 1)) fun _ =>
      oB (oAL 71 300000 0 (x.2.1 + x.2.2.2)) fun v93 =>
      oB (oGI 9087 0) fun v95 =>
      oB (oK (v95 = 1)) fun _ =>
      oB (oAI 70 300000 0 (x.2.1 + x.2.2.2)) fun v103 =>
      oB (oGI 9343 0) fun v105 =>
      oB (oK (v105 = 1)) fun _ =>
      oB (oAL 72 300000 0 (x.2.1 + x.2.2.2)) fun v113 =>
      oB (M_Mo_append x.1 v83 v93 v103 v113) fun _ =>
      M_Mo_move_j117 x.1 x.2.1 x.2.2.1 x.2.2.2))

def M_Mo_move (l1 : Int32) (l2 : Int32) (l3 : Int32) : M (Unit) :=
  oB (oAI 62 4100 0 l1) fun v5 =>
  oB (oAI 64 4100 0 l1) fun v13 =>
  oB (oSI 62 4100 0 l1 l2) fun _ =>
  oB (oSI 63 4100 0 l1 l3) fun _ =>
  oB (oSI 64 4100 0 l1 0) fun _ =>
  oB (oGI 9599 0) fun v38 =>
  oB (oK (v38 = 1)) fun _ =>
  oB (M_Arr_fill_____ 74 0 l2 (l2 + l3) 0) fun _ =>
  oB (oW M_Mo_move_L52 (l1, v5, v13, 0)) fun e52 =>
  oR ()

def M_Mo_topOf_L5 : (Int32 × Int32) → M ((Int32 × Int32) ⊕ ((Int32 × Int32) ⊕ (Unit))) := fun x =>
  oC (x.2 < 0)
    (oR (Sum.inr (Sum.inr ())))
    (oB (oAI 30 201 x.1 x.2) fun v14 =>
    oC (v14 = 0)
      (oR (Sum.inr (Sum.inl (x.1, x.2))))
      (oR (Sum.inl (x.1, x.2 + (-1)))))

def M_Mo_topOf (l1 : Int32) : M (Int32) :=
  oB (M_Th_top l1) fun v1 =>
  oB (oW M_Mo_topOf_L5 (l1, v1)) fun e5 =>
  Sum.elim
    (fun y5_18 : Int32 × Int32 =>
      oB (oAI 33 201 y5_18.1 y5_18.2) fun v23 =>
      oB (oAI 31 201 y5_18.1 y5_18.2) fun v37 =>
      oB (oAI 62 4100 0 v37) fun v38 =>
      oB (oAI 44 251 0 v38) fun v39 =>
      oR (v23 + v39))
    (fun y5_48 : Unit =>
      oR 0) e5

def M_Mo_raw_j54 (k0 : Int64) : M (Int32) :=
  oB (oPL 67 0 k0) fun _ =>
  oB (oGI 66 0) fun v58 =>
  oC (v58 = 0)
    (oR 0)
    (oR 1)

def M_Mo_raw_j34 (l5 : Int32) (k0 : Int32) : M (Int32) :=
  oB (oPI 66 0 k0) fun _ =>
  oC (0 ≤ l5)
    (oB (oGI 9343 0) fun v48 =>
    oB (oK (v48 = 1)) fun _ =>
    oB (oAL 72 300000 0 l5) fun v53 =>
    M_Mo_raw_j54 v53)
    (M_Mo_raw_j54 0)

def M_Mo_raw_j15 (k0 : Int32) : M (Int32) :=
  oC (0 ≤ k0)
    (oB (oGI 9087 0) fun v28 =>
    oB (oK (v28 = 1)) fun _ =>
    oB (oAI 70 300000 0 k0) fun v33 =>
    M_Mo_raw_j34 k0 v33)
    (M_Mo_raw_j34 k0 0)

def M_Mo_raw (l1 : Int32) (l2 : Int32) (l3 : Int64) : M (Int32) :=
  oC (l2 = 0)
    (M_Mo_raw_j15 (-1))
    (oB (M_Mo_entry l1 l2 l3) fun v12 =>
    M_Mo_raw_j15 v12)

def M_Mo_setMeta_j27  : M (Unit) :=
  oB (M_Mo_raise 2) fun v29 =>
  oR ()

def M_Mo_setMeta_j104 (l1 : Int32) (k0 : Int32) (k1 : Int32) : M (Unit) :=
  oB (oSI 65 4100 0 k1 k0) fun _ =>
  oB (M_Mo_give 5 l1.toInt64) fun _ =>
  oR ()

def M_Mo_setMeta_j80 (l1 : Int32) : M (Unit) :=
  oB (M_Mo_is 1 5) fun v88 =>
  oC (v88 = 0)
    (M_Mo_setMeta_j104 l1 (-1) l1)
    (oB (M_Mo_av 1) fun v96 =>
    M_Mo_setMeta_j104 l1 v96.toInt32 l1)

def M_Mo_setMeta_j34  : M (Unit) :=
  oB (M_Mo_av 0) fun v36 =>
  oB (oAI 65 4100 0 v36.toInt32) fun v46 =>
  oC (v46 < 0)
    (M_Mo_setMeta_j80 v36.toInt32)
    (oB (oAI 65 4100 0 v36.toInt32) fun v56 =>
    oB (oAI 82 22 0 21) fun v64 =>
    oB (M_Mo_raw v56 4 v64.toInt64) fun v66 =>
    oC (v66 = 0)
      (M_Mo_setMeta_j80 v36.toInt32)
      (oB (M_Mo_raise 8) fun v75 =>
      oR ()))

def M_Mo_setMeta  : M (Unit) :=
  oB (M_Mo_is 0 5) fun v3 =>
  oC (v3 = 0)
    (M_Mo_setMeta_j27)
    (oB (M_Mo_is 1 5) fun v12 =>
    oC (v12 = 0)
      (oB (M_Mo_is 1 0) fun v21 =>
      oC (v21 = 0)
        (M_Mo_setMeta_j27)
        (M_Mo_setMeta_j34))
      (M_Mo_setMeta_j34))

def M_Mo_getMeta_j23  : M (Unit) :=
  oB (M_Mo_give 0 0) fun _ =>
  oR ()

def M_Mo_getMeta  : M (Unit) :=
  oB (M_Mo_is 0 5) fun v3 =>
  oC (v3 = 0)
    (M_Mo_getMeta_j23)
    (oB (M_Mo_av 0) fun v15 =>
    oB (oAI 65 4100 0 v15.toInt32) fun v19 =>
    oC (0 ≤ v19)
      (oB (M_Mo_av 0) fun v36 =>
      oB (oAI 65 4100 0 v36.toInt32) fun v40 =>
      oB (oAI 82 22 0 21) fun v51 =>
      oB (M_Mo_raw v40 4 v51.toInt64) fun v53 =>
      oC (v53 = 0)
        (oB (M_Mo_give 5 v40.toInt64) fun _ =>
        oR ())
        (oB (oGI 66 0) fun v61 =>
        oB (oGL 67 0) fun v65 =>
        oB (M_Mo_give v61 v65) fun _ =>
        oR ()))
      (M_Mo_getMeta_j23))

