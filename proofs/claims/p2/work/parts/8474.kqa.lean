/-! Made by wip/l2n/kpgen2.py: who leaves the face alone. -/
theorem kq_Mth_max (l0 : Int32) (l1 : Int32) : Kq true (M_Mth_max l0 l1) := by
  unfold M_Mth_max
  repeat' (first | with_reducible (first | apply kq_C | exact kq_R _ | intro _) | omega)
theorem kq_Arr_rangeCheck (l0 : Int32) (l1 : Int32) (l2 : Int32) : Kq true (M_Arr_rangeCheck l0 l1 l2) := by
  unfold M_Arr_rangeCheck
  repeat' (first | with_reducible (first | apply kq_C | exact kq_R _ | exact kq_F | intro _) | omega)
theorem kq_Mth_min (l0 : Int32) (l1 : Int32) : Kq true (M_Mth_min l0 l1) := by
  unfold M_Mth_min
  repeat' (first | with_reducible (first | apply kq_C | exact kq_R _ | intro _) | omega)
theorem kq_Mth_floorMod (l0 : Int64) (l2 : Int64) : Kq true (M_Mth_floorMod l0 l2) := by
  unfold M_Mth_floorMod
  repeat' (first | with_reducible (first | apply kq_B | apply kq_C | exact kq_R _ | exact kq_K _ | apply kq_L | intro _) | omega)
theorem kq_Mth_floorDiv (l0 : Int64) (l2 : Int64) : Kq true (M_Mth_floorDiv l0 l2) := by
  unfold M_Mth_floorDiv
  repeat' (first | with_reducible (first | apply kq_B | apply kq_C | exact kq_R _ | exact kq_K _ | apply kq_L | intro _) | omega)
theorem kq_Mth_abs (l0 : Int64) : Kq true (M_Mth_abs l0) := by
  unfold M_Mth_abs
  repeat' (first | with_reducible (first | apply kq_C | exact kq_R _ | intro _) | omega)
theorem kq_Mth_min_ (l0 : Int64) (l2 : Int64) : Kq true (M_Mth_min_ l0 l2) := by
  unfold M_Mth_min_
  repeat' (first | with_reducible (first | apply kq_C | exact kq_R _ | intro _) | omega)
theorem kq_Mth_max_ (l0 : Int64) (l2 : Int64) : Kq true (M_Mth_max_ l0 l2) := by
  unfold M_Mth_max_
  repeat' (first | with_reducible (first | apply kq_C | exact kq_R _ | intro _) | omega)
theorem kq_Va_set (l0r : Nat) (l0 : Int32) (l1 : Int32) (l2 : Int32) (l3 : Int64) : Kq true (M_Va_set l0r l0 l1 l2 l3) := by
  unfold M_Va_set
  repeat' (first | with_reducible (first | apply kq_B | exact kq_R _ | exact kq_SI _ _ _ _ _ | exact kq_SL _ _ _ _ _ | intro _) | omega)
theorem kq_Mo_op (l0 : Int32) : Kq true (M_Mo_op l0) := by
  unfold M_Mo_op
  repeat' (first | with_reducible (first | exact kq_R _ | intro _) | omega)
theorem kq_Mo_c (l0 : Int32) : Kq true (M_Mo_c l0) := by
  unfold M_Mo_c
  repeat' (first | with_reducible (first | exact kq_R _ | intro _) | omega)
theorem kq_Mo_b (l0 : Int32) : Kq true (M_Mo_b l0) := by
  unfold M_Mo_b
  repeat' (first | with_reducible (first | exact kq_R _ | intro _) | omega)
theorem kq_Mo_a (l0 : Int32) : Kq true (M_Mo_a l0) := by
  unfold M_Mo_a
  repeat' (first | with_reducible (first | exact kq_R _ | intro _) | omega)
theorem kq_Mo_bx (l0 : Int32) : Kq true (M_Mo_bx l0) := by
  unfold M_Mo_bx
  repeat' (first | with_reducible (first | exact kq_R _ | intro _) | omega)
theorem kq_Mo_sbx (l0 : Int32) : Kq true (M_Mo_sbx l0) := by
  unfold M_Mo_sbx
  repeat' (first | with_reducible (first | exact kq_R _ | intro _) | omega)
theorem kq_Mo_raise_j23 (k0 : Int32) : Kq true (M_Mo_raise_j23 k0) := by
  unfold M_Mo_raise_j23
  repeat' (first | with_reducible (first | apply kq_B | exact kq_R _ | (refine kq_PI ?_) | intro _) | omega)
theorem kq_Mo_raise (l1 : Int32) : Kq true (M_Mo_raise l1) := by
  unfold M_Mo_raise
  repeat' (first | with_reducible (first | apply kq_B | apply kq_C | exact kq_Mo_raise_j23 _ | exact kq_PL _ _ _ | (refine kq_PI ?_) | intro _) | omega)
theorem kq_Arr_fill_____L10 (x) : Kq true (M_Arr_fill_____L10 x) := by
  unfold M_Arr_fill_____L10
  repeat' (first | with_reducible (first | apply kq_B | apply kq_C | exact kq_R _ | exact kq_SI _ _ _ _ _ | intro _) | omega)
theorem kq_Arr_fill____ (l0r : Nat) (l0 : Int32) (l1 : Int32) (l2 : Int32) (l3 : Int32) : Kq true (M_Arr_fill____ l0r l0 l1 l2 l3) := by
  unfold M_Arr_fill____
  repeat' (first | with_reducible (first | apply kq_B | exact kq_Arr_rangeCheck _ _ _ | exact kq_Arr_fill_____L10 _ | exact kq_R _ | exact kq_Pr _ _ | apply kq_W | intro _) | omega)
theorem kq_Mo_place (l1 : Int32) : Kq true (M_Mo_place l1) := by
  unfold M_Mo_place
  repeat' (first | with_reducible (first | apply kq_B | apply kq_C | exact kq_R _ | exact kq_GI _ _ | exact kq_AI _ _ _ _ | exact kq_SI _ _ _ _ _ | (refine kq_PI ?_) | intro _) | omega)
theorem kq_Mo_mark_j18 (l2 : Int64) : Kq true (M_Mo_mark_j18 l2) := by
  unfold M_Mo_mark_j18
  repeat' (first | with_reducible (first | apply kq_B | exact kq_Mo_place _ | exact kq_R _ | intro _) | omega)
theorem kq_Mo_mark (l1 : Int32) (l2 : Int64) : Kq true (M_Mo_mark l1 l2) := by
  unfold M_Mo_mark
  repeat' (first | with_reducible (first | apply kq_C | exact kq_Mo_mark_j18 _ | exact kq_R _ | intro _) | omega)
theorem kq_Mo_load (l1 : Int32) : Kq true (M_Mo_load l1) := by
  unfold M_Mo_load
  repeat' (first | with_reducible (first | apply kq_B | apply kq_C | exact kq_R _ | exact kq_PL _ _ _ | exact kq_AI _ _ _ _ | exact kq_AL _ _ _ _ | exact kq_K _ | (refine kq_PI ?_) | intro _) | omega)
theorem kq_Mo_closeVariable (l1 : Int32) : Kq true (M_Mo_closeVariable l1) := by
  unfold M_Mo_closeVariable
  repeat' (first | with_reducible (first | apply kq_B | exact kq_Mo_load _ | exact kq_Va_set _ _ _ _ _ | exact kq_R _ | exact kq_GI _ _ | exact kq_GL _ _ | exact kq_SI _ _ _ _ _ | intro _) | omega)
theorem kq_Mo_hash_L6 (x) : Kq true (M_Mo_hash_L6 x) := by
  unfold M_Mo_hash_L6
  repeat' (first | with_reducible (first | apply kq_B | apply kq_C | exact kq_R _ | exact kq_AI _ _ _ _ | apply kq_L | intro _) | omega)
theorem kq_Mo_hash (l1r : Nat) (l1 : Int32) (l2 : Int32) (l3 : Int32) : Kq true (M_Mo_hash l1r l1 l2 l3) := by
  unfold M_Mo_hash
  repeat' (first | with_reducible (first | apply kq_B | exact kq_Mo_hash_L6 _ | exact kq_R _ | apply kq_W | intro _) | omega)
theorem kq_Mo_forget_j41 (l1 : Int32) (l2 : Int32) (l3 : Int32) (l4 : Int32) : Kq true (M_Mo_forget_j41 l1 l2 l3 l4) := by
  unfold M_Mo_forget_j41
  repeat' (first | with_reducible (first | exact kq_R _ | intro _) | omega)
theorem kq_Mo_forget_L5 (x) : Kq true (M_Mo_forget_L5 x) := by
  unfold M_Mo_forget_L5
  repeat' (first | with_reducible (first | apply kq_B | apply kq_C | exact kq_Mo_forget_j41 _ _ _ _ | exact kq_R _ | exact kq_GI _ _ | exact kq_AI _ _ _ _ | exact kq_SI _ _ _ _ _ | intro _) | omega)
theorem kq_Mo_forget (l1 : Int32) (l2 : Int32) : Kq true (M_Mo_forget l1 l2) := by
  unfold M_Mo_forget
  repeat' (first | with_reducible (first | apply kq_B | exact kq_Mo_forget_L5 _ | exact kq_R _ | apply kq_W | (refine kq_PI ?_) | intro _) | omega)
theorem kq_Mo_object_j37 (l1 : Int32) (k0 : Int32) : Kq true (M_Mo_object_j37 l1 k0) := by
  unfold M_Mo_object_j37
  repeat' (first | with_reducible (first | apply kq_B | exact kq_R _ | exact kq_GI _ _ | exact kq_SI _ _ _ _ _ | (refine kq_PI ?_) | intro _) | omega)
theorem kq_Mo_object (l1 : Int32) : Kq true (M_Mo_object l1) := by
  unfold M_Mo_object
  repeat' (first | with_reducible (first | apply kq_B | apply kq_C | exact kq_Mo_object_j37 _ _ | exact kq_GI _ _ | exact kq_AI _ _ _ _ | (refine kq_PI ?_) | intro _) | omega)
theorem kq_Mo_slot (l1 : Int32) (l2 : Int32) (l3 : Int64) : Kq true (M_Mo_slot l1 l2 l3) := by
  unfold M_Mo_slot
  repeat' (first | with_reducible (first | apply kq_B | exact kq_Mth_floorMod _ _ | exact kq_R _ | intro _) | omega)
theorem kq_Mo_append (l1 : Int32) (l2 : Int32) (l3 : Int64) (l5 : Int32) (l6 : Int64) : Kq true (M_Mo_append l1 l2 l3 l5 l6) := by
  unfold M_Mo_append
  repeat' (first | with_reducible (first | apply kq_B | exact kq_Mo_slot _ _ _ | exact kq_R _ | exact kq_GI _ _ | exact kq_AI _ _ _ _ | exact kq_SI _ _ _ _ _ | exact kq_SL _ _ _ _ _ | exact kq_K _ | apply kq_L | intro _) | omega)
theorem kq_Va_add (l0r : Nat) (l0 : Int32) (l1 : Int32) (l2 : Int64) : Kq true (M_Va_add l0r l0 l1 l2) := by
  unfold M_Va_add
  repeat' (first | with_reducible (first | apply kq_B | exact kq_R _ | exact kq_GI _ _ | exact kq_SI _ _ _ _ _ | exact kq_SL _ _ _ _ _ | (refine kq_PI ?_) | intro _) | omega)
theorem kq_Th_begin (l0 : Int32) (l1 : Int32) : Kq true (M_Th_begin l0 l1) := by
  unfold M_Th_begin
  repeat' (first | with_reducible (first | apply kq_B | exact kq_R _ | (refine kq_PI ?_) | intro _) | omega)
theorem kq_Th_top (l0 : Int32) : Kq true (M_Th_top l0) := by
  unfold M_Th_top
  repeat' (first | with_reducible (first | apply kq_B | exact kq_R _ | exact kq_GI _ _ | intro _) | omega)
theorem kq_Mo_push (l1 : Int32) (l2 : Int32) : Kq true (M_Mo_push l1 l2) := by
  unfold M_Mo_push
  repeat' (first | with_reducible (first | apply kq_B | apply kq_C | exact kq_Mo_raise _ | exact kq_R _ | exact kq_GI _ _ | exact kq_SI _ _ _ _ _ | exact kq_K _ | (refine kq_PI ?_) | intro _) | omega)
theorem kq_Va_set_ (l0r : Nat) (l0 : Int32) (l1 : Int32) (l2r : Nat) (l2 : Int32) (l3 : Int32) : Kq true (M_Va_set_ l0r l0 l1 l2r l2 l3) := by
  unfold M_Va_set_
  repeat' (first | with_reducible (first | apply kq_B | exact kq_R _ | exact kq_AI _ _ _ _ | exact kq_AL _ _ _ _ | exact kq_SI _ _ _ _ _ | exact kq_SL _ _ _ _ _ | intro _) | omega)
theorem kq_Mo_say (l1 : Int32) : Kq true (M_Mo_say l1) := by
  unfold M_Mo_say
  repeat' (first | with_reducible (first | apply kq_B | exact kq_R _ | exact kq_GI _ _ | exact kq_SI _ _ _ _ _ | (refine kq_PI ?_) | intro _) | omega)
theorem kq_Mo_sayNumber_L5 (x) : Kq true (M_Mo_sayNumber_L5 x) := by
  unfold M_Mo_sayNumber_L5
  repeat' (first | with_reducible (first | apply kq_B | apply kq_C | exact kq_Mth_abs _ | exact kq_R _ | exact kq_SI _ _ _ _ _ | apply kq_L | intro _) | omega)
theorem kq_Mo_sayNumber_L56 (x) : Kq true (M_Mo_sayNumber_L56 x) := by
  unfold M_Mo_sayNumber_L56
  repeat' (first | with_reducible (first | apply kq_B | apply kq_C | exact kq_Mo_say _ | exact kq_R _ | exact kq_AI _ _ _ _ | intro _) | omega)
theorem kq_Mo_sayNumber (l1 : Int64) : Kq true (M_Mo_sayNumber l1) := by
  unfold M_Mo_sayNumber
  repeat' (first | with_reducible (first | apply kq_B | apply kq_C | exact kq_Mo_sayNumber_L5 _ | exact kq_Mo_sayNumber_L56 _ | exact kq_Mo_say _ | exact kq_R _ | apply kq_W | intro _) | omega)
theorem kq_Mo_giveNone  : Kq true (M_Mo_giveNone) := by
  unfold M_Mo_giveNone
  repeat' (first | with_reducible (first | apply kq_B | exact kq_R _ | (refine kq_PI ?_) | intro _) | omega)
theorem kq_Mo_ak (l1 : Int32) : Kq true (M_Mo_ak l1) := by
  unfold M_Mo_ak
  repeat' (first | with_reducible (first | apply kq_B | apply kq_C | exact kq_R _ | exact kq_GI _ _ | exact kq_AI _ _ _ _ | intro _) | omega)
theorem kq_Mo_av (l1 : Int32) : Kq true (M_Mo_av l1) := by
  unfold M_Mo_av
  repeat' (first | with_reducible (first | apply kq_B | apply kq_C | exact kq_R _ | exact kq_GI _ _ | exact kq_AL _ _ _ _ | intro _) | omega)
theorem kq_Mo_give (l1 : Int32) (l2 : Int64) : Kq true (M_Mo_give l1 l2) := by
  unfold M_Mo_give
  repeat' (first | with_reducible (first | apply kq_B | exact kq_Va_add _ _ _ _ | exact kq_R _ | (refine kq_PI ?_) | intro _) | omega)
theorem kq_Mo_pcall_L38 (x) : Kq true (M_Mo_pcall_L38 x) := by
  unfold M_Mo_pcall_L38
  repeat' (first | with_reducible (first | apply kq_B | apply kq_C | exact kq_Va_set_ _ _ _ _ _ _ | exact kq_R _ | exact kq_GI _ _ | intro _) | omega)
theorem kq_Mo_pcall_j93  : Kq true (M_Mo_pcall_j93) := by
  unfold M_Mo_pcall_j93
  repeat' (first | with_reducible (first | apply kq_B | exact kq_R _ | (refine kq_PI ?_) | intro _) | omega)
theorem kq_Mo_pcall  : Kq true (M_Mo_pcall) := by
  unfold M_Mo_pcall
  repeat' (first | with_reducible (first | apply kq_B | apply kq_C | exact kq_Mo_push _ _ | exact kq_Mo_ak _ | exact kq_Mo_av _ | exact kq_Mo_pcall_L38 _ | exact kq_Mo_pcall_j93 | exact kq_R _ | exact kq_GI _ _ | exact kq_PL _ _ _ | apply kq_W | (refine kq_PI ?_) | intro _) | omega)
theorem kq_Mo_is (l1 : Int32) (l2 : Int32) : Kq true (M_Mo_is l1 l2) := by
  unfold M_Mo_is
  repeat' (first | with_reducible (first | apply kq_B | apply kq_C | exact kq_Mo_ak _ | exact kq_R _ | intro _) | omega)
theorem kq_Mo_isMark_j30  : Kq true (M_Mo_isMark_j30) := by
  unfold M_Mo_isMark_j30
  repeat' (first | with_reducible (first | exact kq_R _ | intro _) | omega)
theorem kq_Mo_isMark (l1 : Int32) : Kq true (M_Mo_isMark l1) := by
  unfold M_Mo_isMark
  repeat' (first | with_reducible (first | apply kq_B | apply kq_C | exact kq_Mo_isMark_j30 | exact kq_R _ | exact kq_AI _ _ _ _ | intro _) | omega)
theorem kq_Va_add_ (l0r : Nat) (l0 : Int32) (l1r : Nat) (l1 : Int32) (l2 : Int32) : Kq true (M_Va_add_ l0r l0 l1r l1 l2) := by
  unfold M_Va_add_
  repeat' (first | with_reducible (first | apply kq_B | exact kq_Va_add _ _ _ _ | exact kq_R _ | exact kq_AI _ _ _ _ | exact kq_AL _ _ _ _ | intro _) | omega)
theorem kq_Mo_integer_j18  : Kq true (M_Mo_integer_j18) := by
  unfold M_Mo_integer_j18
  repeat' (first | with_reducible (first | exact kq_R _ | intro _) | omega)
theorem kq_Mo_integer (l1 : Int32) : Kq true (M_Mo_integer l1) := by
  unfold M_Mo_integer
  repeat' (first | with_reducible (first | apply kq_B | apply kq_C | exact kq_Mo_is _ _ | exact kq_Mo_integer_j18 | exact kq_R _ | intro _) | omega)
theorem kq_Mo_from (l0 : Int64) (l2 : Int32) : Kq true (M_Mo_from l0 l2) := by
  unfold M_Mo_from
  repeat' (first | with_reducible (first | apply kq_C | exact kq_R _ | intro _) | omega)
theorem kq_Mo_byteOf_j17  : Kq true (M_Mo_byteOf_j17) := by
  unfold M_Mo_byteOf_j17
  repeat' (first | with_reducible (first | apply kq_B | exact kq_Mo_raise _ | exact kq_R _ | intro _) | omega)
theorem kq_Mo_byteOf_j77  : Kq true (M_Mo_byteOf_j77) := by
  unfold M_Mo_byteOf_j77
  repeat' (first | with_reducible (first | apply kq_B | exact kq_Mo_give _ _ | exact kq_R _ | intro _) | omega)
theorem kq_Mo_byteOf_j49 (l1 : Int32) (k0 : Int64) : Kq true (M_Mo_byteOf_j49 l1 k0) := by
  unfold M_Mo_byteOf_j49
  repeat' (first | with_reducible (first | apply kq_B | apply kq_C | exact kq_Mo_from _ _ | exact kq_Mo_byteOf_j77 | exact kq_Mo_give _ _ | exact kq_R _ | exact kq_AI _ _ _ _ | intro _) | omega)
theorem kq_Mo_byteOf  : Kq true (M_Mo_byteOf) := by
  unfold M_Mo_byteOf
  repeat' (first | with_reducible (first | apply kq_B | apply kq_C | exact kq_Mo_is _ _ | exact kq_Mo_byteOf_j17 | exact kq_Mo_integer _ | exact kq_Mo_av _ | exact kq_Mo_byteOf_j49 _ _ | intro _) | omega)
