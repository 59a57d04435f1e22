/-! Made by wip/l2n/ugen.py: what was printed stays within its row. -/
theorem uk_Mth_max (l0 : Int32) (l1 : Int32) : Uk (M_Mth_max l0 l1) := by
  unfold M_Mth_max
  repeat' with_reducible (first | apply uk_C | exact uk_R _ | intro _)
theorem uk_Mth_min (l0 : Int32) (l1 : Int32) : Uk (M_Mth_min l0 l1) := by
  unfold M_Mth_min
  repeat' with_reducible (first | apply uk_C | exact uk_R _ | intro _)
theorem uk_Mth_floorMod (l0 : Int64) (l2 : Int64) : Uk (M_Mth_floorMod l0 l2) := by
  unfold M_Mth_floorMod
  repeat' with_reducible (first | apply uk_B | apply uk_C | exact uk_R _ | exact uk_K _ | apply uk_L | intro _)
theorem uk_Mth_floorDiv (l0 : Int64) (l2 : Int64) : Uk (M_Mth_floorDiv l0 l2) := by
  unfold M_Mth_floorDiv
  repeat' with_reducible (first | apply uk_B | apply uk_C | exact uk_R _ | exact uk_K _ | apply uk_L | intro _)
theorem uk_Mth_abs (l0 : Int64) : Uk (M_Mth_abs l0) := by
  unfold M_Mth_abs
  repeat' with_reducible (first | apply uk_C | exact uk_R _ | intro _)
theorem uk_Mth_min_ (l0 : Int64) (l2 : Int64) : Uk (M_Mth_min_ l0 l2) := by
  unfold M_Mth_min_
  repeat' with_reducible (first | apply uk_C | exact uk_R _ | intro _)
theorem uk_Mth_max_ (l0 : Int64) (l2 : Int64) : Uk (M_Mth_max_ l0 l2) := by
  unfold M_Mth_max_
  repeat' with_reducible (first | apply uk_C | exact uk_R _ | intro _)
theorem uk_Mo_thrown  : Uk (M_Mo_thrown) := by
  unfold M_Mo_thrown
  repeat' with_reducible (first | apply uk_B | exact uk_R _ | exact uk_GI _ _ | intro _)
theorem uk_Mo_refuse (l1 : Int32) (l2 : Int32) : Uk (M_Mo_refuse l1 l2) := by
  unfold M_Mo_refuse
  repeat' with_reducible (first | apply uk_B | apply uk_C | exact uk_R _ | exact uk_PI (by omega) | exact uk_K _ | intro _)
theorem uk_Mo_bad (l1 : Int32) (l2 : Int32) : Uk (M_Mo_bad l1 l2) := by
  unfold M_Mo_bad
  repeat' with_reducible (first | apply uk_B | apply uk_C | exact uk_R _ | exact uk_GI _ _ | exact uk_PI (by omega) | intro _)
theorem uk_Mo_number_L47 (x) : Uk (M_Mo_number_L47 x) := by
  unfold M_Mo_number_L47
  repeat' with_reducible (first | apply uk_B | apply uk_C | exact uk_R _ | exact uk_GI _ _ | exact uk_PI (by omega) | exact uk_AI _ _ _ _ | apply uk_L | intro _)
theorem uk_Mo_number (l1 : Int32) : Uk (M_Mo_number l1) := by
  unfold M_Mo_number
  repeat' with_reducible (first | apply uk_B | apply uk_C | exact uk_Mo_number_L47 _ | exact uk_Mo_bad _ _ | exact uk_R _ | exact uk_GI _ _ | exact uk_PI (by omega) | apply uk_W | intro _)
theorem uk_Mo_need (l1 : Int32) : Uk (M_Mo_need l1) := by
  unfold M_Mo_need
  repeat' with_reducible (first | apply uk_B | apply uk_C | exact uk_Mo_bad _ _ | exact uk_R _ | exact uk_GI _ _ | intro _)
theorem uk_Mo_upvalue_j76 (l2 : Int32) (l3 : Int32) : Uk (M_Mo_upvalue_j76 l2 l3) := by
  unfold M_Mo_upvalue_j76
  repeat' with_reducible (first | apply uk_B | apply uk_C | exact uk_R _ | exact uk_GI _ _ | exact uk_PI (by omega) | exact uk_SI | intro _)
theorem uk_Mo_upvalue_j73 (l2 : Int32) (l3 : Int32) (k0 : Int32) : Uk (M_Mo_upvalue_j73 l2 l3 k0) := by
  unfold M_Mo_upvalue_j73
  repeat' with_reducible (first | apply uk_B | exact uk_Mo_need _ | exact uk_Mo_upvalue_j76 _ _ | intro _)
theorem uk_Mo_upvalue_j65 (l2 : Int32) (l3 : Int32) (k0 : Int32) (k1 : Int32) : Uk (M_Mo_upvalue_j65 l2 l3 k0 k1) := by
  unfold M_Mo_upvalue_j65
  repeat' with_reducible (first | apply uk_C | exact uk_Mo_upvalue_j73 _ _ _ | intro _)
theorem uk_Mo_upvalue_j25 (l1 : Int32) (l2 : Int32) : Uk (M_Mo_upvalue_j25 l1 l2) := by
  unfold M_Mo_upvalue_j25
  repeat' with_reducible (first | apply uk_B | apply uk_C | exact uk_Mo_number _ | exact uk_Mo_upvalue_j76 _ _ | exact uk_Mo_upvalue_j65 _ _ _ _ | exact uk_GI _ _ | exact uk_AI _ _ _ _ | intro _)
theorem uk_Mo_upvalue_j22 (l1 : Int32) (l2 : Int32) (k0 : Int32) : Uk (M_Mo_upvalue_j22 l1 l2 k0) := by
  unfold M_Mo_upvalue_j22
  repeat' with_reducible (first | apply uk_B | exact uk_Mo_need _ | exact uk_Mo_upvalue_j25 _ _ | intro _)
theorem uk_Mo_upvalue (l1 : Int32) : Uk (M_Mo_upvalue l1) := by
  unfold M_Mo_upvalue
  repeat' with_reducible (first | apply uk_B | apply uk_C | exact uk_Mo_number _ | exact uk_Mo_upvalue_j25 _ _ | exact uk_Mo_upvalue_j22 _ _ _ | intro _)
theorem uk_Va_set (l0r : Nat) (l0 : Int32) (l1 : Int32) (l2 : Int32) (l3 : Int64) : Uk (M_Va_set l0r l0 l1 l2 l3) := by
  unfold M_Va_set
  repeat' with_reducible (first | apply uk_B | exact uk_R _ | exact uk_SI | exact uk_SL | intro _)
theorem uk_Mo_op (l0 : Int32) : Uk (M_Mo_op l0) := by
  unfold M_Mo_op
  repeat' with_reducible (first | exact uk_R _ | intro _)
theorem uk_Mo_c (l0 : Int32) : Uk (M_Mo_c l0) := by
  unfold M_Mo_c
  repeat' with_reducible (first | exact uk_R _ | intro _)
theorem uk_Mo_b (l0 : Int32) : Uk (M_Mo_b l0) := by
  unfold M_Mo_b
  repeat' with_reducible (first | exact uk_R _ | intro _)
theorem uk_Mo_a (l0 : Int32) : Uk (M_Mo_a l0) := by
  unfold M_Mo_a
  repeat' with_reducible (first | exact uk_R _ | intro _)
theorem uk_Mo_uses_j40  : Uk (M_Mo_uses_j40) := by
  unfold M_Mo_uses_j40
  repeat' with_reducible (first | exact uk_R _ | intro _)
theorem uk_Mo_uses_j29 (l0 : Int32) : Uk (M_Mo_uses_j29 l0) := by
  unfold M_Mo_uses_j29
  repeat' with_reducible (first | apply uk_B | apply uk_C | exact uk_Mo_b _ | exact uk_Mo_uses_j40 | exact uk_R _ | intro _)
theorem uk_Mo_uses (l0 : Int32) : Uk (M_Mo_uses l0) := by
  unfold M_Mo_uses
  repeat' with_reducible (first | apply uk_B | apply uk_C | exact uk_Mo_op _ | exact uk_Mo_uses_j29 _ | exact uk_Mo_uses_j40 | intro _)
theorem uk_Mo_goes_j43  : Uk (M_Mo_goes_j43) := by
  unfold M_Mo_goes_j43
  repeat' with_reducible (first | exact uk_R _ | intro _)
theorem uk_Mo_goes (l1 : Int32) : Uk (M_Mo_goes l1) := by
  unfold M_Mo_goes
  repeat' with_reducible (first | apply uk_B | apply uk_C | exact uk_Mo_goes_j43 | exact uk_Mo_uses _ | exact uk_R _ | exact uk_GI _ _ | exact uk_AI _ _ _ _ | intro _)
theorem uk_Mo_reg (l1 : Int32) : Uk (M_Mo_reg l1) := by
  unfold M_Mo_reg
  repeat' with_reducible (first | apply uk_B | apply uk_C | exact uk_R _ | exact uk_GI _ _ | intro _)
theorem uk_Mo_bx (l0 : Int32) : Uk (M_Mo_bx l0) := by
  unfold M_Mo_bx
  repeat' with_reducible (first | exact uk_R _ | intro _)
theorem uk_Mo_rk (l1 : Int32) : Uk (M_Mo_rk l1) := by
  unfold M_Mo_rk
  repeat' with_reducible (first | apply uk_B | apply uk_C | exact uk_R _ | exact uk_GI _ _ | exact uk_AI _ _ _ _ | intro _)
theorem uk_Mo_sbx (l0 : Int32) : Uk (M_Mo_sbx l0) := by
  unfold M_Mo_sbx
  repeat' with_reducible (first | exact uk_R _ | intro _)
theorem uk_Mo_raise_j23 (k0 : Int32) : Uk (M_Mo_raise_j23 k0) := by
  unfold M_Mo_raise_j23
  repeat' with_reducible (first | apply uk_B | exact uk_R _ | exact uk_PI (by omega) | intro _)
theorem uk_Mo_raise (l1 : Int32) : Uk (M_Mo_raise l1) := by
  unfold M_Mo_raise
  repeat' with_reducible (first | apply uk_B | apply uk_C | exact uk_Mo_raise_j23 _ | exact uk_PI (by omega) | exact uk_PL | intro _)
theorem uk_Mo_place (l1 : Int32) : Uk (M_Mo_place l1) := by
  unfold M_Mo_place
  repeat' with_reducible (first | apply uk_B | apply uk_C | exact uk_R _ | exact uk_GI _ _ | exact uk_PI (by omega) | exact uk_AI _ _ _ _ | exact uk_SI | intro _)
theorem uk_Mo_mark_j18 (l2 : Int64) : Uk (M_Mo_mark_j18 l2) := by
  unfold M_Mo_mark_j18
  repeat' with_reducible (first | apply uk_B | exact uk_Mo_place _ | exact uk_R _ | intro _)
theorem uk_Mo_mark (l1 : Int32) (l2 : Int64) : Uk (M_Mo_mark l1 l2) := by
  unfold M_Mo_mark
  repeat' with_reducible (first | apply uk_C | exact uk_Mo_mark_j18 _ | exact uk_R _ | intro _)
theorem uk_Mo_load (l1 : Int32) : Uk (M_Mo_load l1) := by
  unfold M_Mo_load
  repeat' with_reducible (first | apply uk_B | apply uk_C | exact uk_R _ | exact uk_PI (by omega) | exact uk_PL | exact uk_AI _ _ _ _ | exact uk_AL _ _ _ _ | exact uk_K _ | intro _)
theorem uk_Mo_closeVariable (l1 : Int32) : Uk (M_Mo_closeVariable l1) := by
  unfold M_Mo_closeVariable
  repeat' with_reducible (first | apply uk_B | exact uk_Mo_load _ | exact uk_Va_set _ _ _ _ _ | exact uk_R _ | exact uk_GI _ _ | exact uk_GL _ _ | exact uk_SI | intro _)
theorem uk_Mo_hash_L6 (x) : Uk (M_Mo_hash_L6 x) := by
  unfold M_Mo_hash_L6
  repeat' with_reducible (first | apply uk_B | apply uk_C | exact uk_R _ | exact uk_AI _ _ _ _ | apply uk_L | intro _)
theorem uk_Mo_hash (l1r : Nat) (l1 : Int32) (l2 : Int32) (l3 : Int32) : Uk (M_Mo_hash l1r l1 l2 l3) := by
  unfold M_Mo_hash
  repeat' with_reducible (first | apply uk_B | exact uk_Mo_hash_L6 _ | exact uk_R _ | apply uk_W | intro _)
theorem uk_Mo_forget_j41 (l1 : Int32) (l2 : Int32) (l3 : Int32) (l4 : Int32) : Uk (M_Mo_forget_j41 l1 l2 l3 l4) := by
  unfold M_Mo_forget_j41
  repeat' with_reducible (first | exact uk_R _ | intro _)
theorem uk_Mo_forget_L5 (x) : Uk (M_Mo_forget_L5 x) := by
  unfold M_Mo_forget_L5
  repeat' with_reducible (first | apply uk_B | apply uk_C | exact uk_Mo_forget_j41 _ _ _ _ | exact uk_R _ | exact uk_GI _ _ | exact uk_AI _ _ _ _ | exact uk_SI | intro _)
theorem uk_Mo_forget (l1 : Int32) (l2 : Int32) : Uk (M_Mo_forget l1 l2) := by
  unfold M_Mo_forget
  repeat' with_reducible (first | apply uk_B | exact uk_Mo_forget_L5 _ | exact uk_R _ | exact uk_PI (by omega) | apply uk_W | intro _)
theorem uk_Mo_object_j37 (l1 : Int32) (k0 : Int32) : Uk (M_Mo_object_j37 l1 k0) := by
  unfold M_Mo_object_j37
  repeat' with_reducible (first | apply uk_B | exact uk_R _ | exact uk_GI _ _ | exact uk_PI (by omega) | exact uk_SI | intro _)
theorem uk_Mo_object (l1 : Int32) : Uk (M_Mo_object l1) := by
  unfold M_Mo_object
  repeat' with_reducible (first | apply uk_B | apply uk_C | exact uk_Mo_object_j37 _ _ | exact uk_GI _ _ | exact uk_PI (by omega) | exact uk_AI _ _ _ _ | intro _)
theorem uk_Mo_slot (l1 : Int32) (l2 : Int32) (l3 : Int64) : Uk (M_Mo_slot l1 l2 l3) := by
  unfold M_Mo_slot
  repeat' with_reducible (first | apply uk_B | exact uk_Mth_floorMod _ _ | exact uk_R _ | intro _)
theorem uk_Mo_append (l1 : Int32) (l2 : Int32) (l3 : Int64) (l5 : Int32) (l6 : Int64) : Uk (M_Mo_append l1 l2 l3 l5 l6) := by
  unfold M_Mo_append
  repeat' with_reducible (first | apply uk_B | exact uk_Mo_slot _ _ _ | exact uk_R _ | exact uk_GI _ _ | exact uk_AI _ _ _ _ | exact uk_SI | exact uk_SL | exact uk_K _ | apply uk_L | intro _)
theorem uk_Va_add (l0r : Nat) (l0 : Int32) (l1 : Int32) (l2 : Int64) : Uk (M_Va_add l0r l0 l1 l2) := by
  unfold M_Va_add
  repeat' with_reducible (first | apply uk_B | exact uk_R _ | exact uk_GI _ _ | exact uk_PI (by omega) | exact uk_SI | exact uk_SL | intro _)
theorem uk_Th_begin (l0 : Int32) (l1 : Int32) : Uk (M_Th_begin l0 l1) := by
  unfold M_Th_begin
  repeat' with_reducible (first | apply uk_B | exact uk_R _ | exact uk_PI (by omega) | intro _)
theorem uk_Th_top (l0 : Int32) : Uk (M_Th_top l0) := by
  unfold M_Th_top
  repeat' with_reducible (first | apply uk_B | exact uk_R _ | exact uk_GI _ _ | intro _)
theorem uk_Mo_push (l1 : Int32) (l2 : Int32) : Uk (M_Mo_push l1 l2) := by
  unfold M_Mo_push
  repeat' with_reducible (first | apply uk_B | apply uk_C | exact uk_Mo_raise _ | exact uk_R _ | exact uk_GI _ _ | exact uk_PI (by omega) | exact uk_SI | exact uk_K _ | intro _)
theorem uk_Va_set_ (l0r : Nat) (l0 : Int32) (l1 : Int32) (l2r : Nat) (l2 : Int32) (l3 : Int32) : Uk (M_Va_set_ l0r l0 l1 l2r l2 l3) := by
  unfold M_Va_set_
  repeat' with_reducible (first | apply uk_B | exact uk_R _ | exact uk_AI _ _ _ _ | exact uk_AL _ _ _ _ | exact uk_SI | exact uk_SL | intro _)
theorem uk_Mo_fault_j21 (l1 : Int32) (k0 : Int32) (k1 : Int32) : Uk (M_Mo_fault_j21 l1 k0 k1) := by
  unfold M_Mo_fault_j21
  repeat' with_reducible (first | apply uk_B | apply uk_C | exact uk_Mo_refuse _ _ | exact uk_R _ | exact uk_GI _ _ | intro _)
theorem uk_Mo_fault_j16 (l1 : Int32) (k0 : Int32) : Uk (M_Mo_fault_j16 l1 k0) := by
  unfold M_Mo_fault_j16
  repeat' with_reducible (first | exact uk_Mo_fault_j21 _ _ _ | intro _)
theorem uk_Mo_fault (l1 : Int32) : Uk (M_Mo_fault l1) := by
  unfold M_Mo_fault
  repeat' with_reducible (first | apply uk_B | apply uk_C | exact uk_Mo_fault_j16 _ _ | exact uk_Mo_fault_j21 _ _ _ | exact uk_PI (by omega) | intro _)
theorem uk_Mo_say (l1 : Int32) : Uk (M_Mo_say l1) := by
  unfold M_Mo_say
  repeat' with_reducible (first | apply uk_B | exact uk_R _ | exact uk_GI _ _ | exact uk_PI (by omega) | exact uk_SI | intro _)
theorem uk_Mo_sayNumber_L5 (x) : Uk (M_Mo_sayNumber_L5 x) := by
  unfold M_Mo_sayNumber_L5
  repeat' with_reducible (first | apply uk_B | apply uk_C | exact uk_Mth_abs _ | exact uk_R _ | exact uk_SI | apply uk_L | intro _)
theorem uk_Mo_sayNumber_L56 (x) : Uk (M_Mo_sayNumber_L56 x) := by
  unfold M_Mo_sayNumber_L56
  repeat' with_reducible (first | apply uk_B | apply uk_C | exact uk_Mo_say _ | exact uk_R _ | exact uk_AI _ _ _ _ | intro _)
theorem uk_Mo_sayNumber (l1 : Int64) : Uk (M_Mo_sayNumber l1) := by
  unfold M_Mo_sayNumber
  repeat' with_reducible (first | apply uk_B | apply uk_C | exact uk_Mo_sayNumber_L5 _ | exact uk_Mo_sayNumber_L56 _ | exact uk_Mo_say _ | exact uk_R _ | apply uk_W | intro _)
theorem uk_Mo_giveNone  : Uk (M_Mo_giveNone) := by
  unfold M_Mo_giveNone
  repeat' with_reducible (first | apply uk_B | exact uk_R _ | exact uk_PI (by omega) | intro _)
theorem uk_Mo_ak (l1 : Int32) : Uk (M_Mo_ak l1) := by
  unfold M_Mo_ak
  repeat' with_reducible (first | apply uk_B | apply uk_C | exact uk_R _ | exact uk_GI _ _ | exact uk_AI _ _ _ _ | intro _)
theorem uk_Mo_av (l1 : Int32) : Uk (M_Mo_av l1) := by
  unfold M_Mo_av
  repeat' with_reducible (first | apply uk_B | apply uk_C | exact uk_R _ | exact uk_GI _ _ | exact uk_AL _ _ _ _ | intro _)
theorem uk_Mo_give (l1 : Int32) (l2 : Int64) : Uk (M_Mo_give l1 l2) := by
  unfold M_Mo_give
  repeat' with_reducible (first | apply uk_B | exact uk_Va_add _ _ _ _ | exact uk_R _ | exact uk_PI (by omega) | intro _)
theorem uk_Mo_pcall_L38 (x) : Uk (M_Mo_pcall_L38 x) := by
  unfold M_Mo_pcall_L38
  repeat' with_reducible (first | apply uk_B | apply uk_C | exact uk_Va_set_ _ _ _ _ _ _ | exact uk_R _ | exact uk_GI _ _ | intro _)
theorem uk_Mo_pcall_j93  : Uk (M_Mo_pcall_j93) := by
  unfold M_Mo_pcall_j93
  repeat' with_reducible (first | apply uk_B | exact uk_R _ | exact uk_PI (by omega) | intro _)
theorem uk_Mo_pcall  : Uk (M_Mo_pcall) := by
  unfold M_Mo_pcall
  repeat' with_reducible (first | apply uk_B | apply uk_C | exact uk_Mo_push _ _ | exact uk_Mo_ak _ | exact uk_Mo_av _ | exact uk_Mo_pcall_L38 _ | exact uk_Mo_pcall_j93 | exact uk_R _ | exact uk_GI _ _ | exact uk_PI (by omega) | exact uk_PL | apply uk_W | intro _)
theorem uk_Mo_is (l1 : Int32) (l2 : Int32) : Uk (M_Mo_is l1 l2) := by
  unfold M_Mo_is
  repeat' with_reducible (first | apply uk_B | apply uk_C | exact uk_Mo_ak _ | exact uk_R _ | intro _)
theorem uk_Mo_isMark_j30  : Uk (M_Mo_isMark_j30) := by
  unfold M_Mo_isMark_j30
  repeat' with_reducible (first | exact uk_R _ | intro _)
theorem uk_Mo_isMark (l1 : Int32) : Uk (M_Mo_isMark l1) := by
  unfold M_Mo_isMark
  repeat' with_reducible (first | apply uk_B | apply uk_C | exact uk_Mo_isMark_j30 | exact uk_R _ | exact uk_AI _ _ _ _ | intro _)
theorem uk_Va_add_ (l0r : Nat) (l0 : Int32) (l1r : Nat) (l1 : Int32) (l2 : Int32) : Uk (M_Va_add_ l0r l0 l1r l1 l2) := by
  unfold M_Va_add_
  repeat' with_reducible (first | apply uk_B | exact uk_Va_add _ _ _ _ | exact uk_R _ | exact uk_AI _ _ _ _ | exact uk_AL _ _ _ _ | intro _)
theorem uk_Mo_integer_j18  : Uk (M_Mo_integer_j18) := by
  unfold M_Mo_integer_j18
  repeat' with_reducible (first | exact uk_R _ | intro _)
theorem uk_Mo_integer (l1 : Int32) : Uk (M_Mo_integer l1) := by
  unfold M_Mo_integer
  repeat' with_reducible (first | apply uk_B | apply uk_C | exact uk_Mo_is _ _ | exact uk_Mo_integer_j18 | exact uk_R _ | intro _)
theorem uk_Mo_from (l0 : Int64) (l2 : Int32) : Uk (M_Mo_from l0 l2) := by
  unfold M_Mo_from
  repeat' with_reducible (first | apply uk_C | exact uk_R _ | intro _)
theorem uk_Mo_byteOf_j17  : Uk (M_Mo_byteOf_j17) := by
  unfold M_Mo_byteOf_j17
  repeat' with_reducible (first | apply uk_B | exact uk_Mo_raise _ | exact uk_R _ | intro _)
theorem uk_Mo_byteOf_j77  : Uk (M_Mo_byteOf_j77) := by
  unfold M_Mo_byteOf_j77
  repeat' with_reducible (first | apply uk_B | exact uk_Mo_give _ _ | exact uk_R _ | intro _)
theorem uk_Mo_byteOf_j49 (l1 : Int32) (k0 : Int64) : Uk (M_Mo_byteOf_j49 l1 k0) := by
  unfold M_Mo_byteOf_j49
  repeat' with_reducible (first | apply uk_B | apply uk_C | exact uk_Mo_from _ _ | exact uk_Mo_byteOf_j77 | exact uk_Mo_give _ _ | exact uk_R _ | exact uk_AI _ _ _ _ | intro _)
theorem uk_Mo_byteOf  : Uk (M_Mo_byteOf) := by
  unfold M_Mo_byteOf
  repeat' with_reducible (first | apply uk_B | apply uk_C | exact uk_Mo_is _ _ | exact uk_Mo_byteOf_j17 | exact uk_Mo_integer _ | exact uk_Mo_av _ | exact uk_Mo_byteOf_j49 _ _ | intro _)
theorem uk_Mo_goesOn_j25 (l3 : Int32) : Uk (M_Mo_goesOn_j25 l3) := by
  unfold M_Mo_goesOn_j25
  repeat' with_reducible (first | apply uk_B | apply uk_C | exact uk_Mo_raise _ | exact uk_Va_add _ _ _ _ | exact uk_R _ | exact uk_PI (by omega) | intro _)
theorem uk_Mo_goesOn_L232 (x) : Uk (M_Mo_goesOn_L232 x) := by
  unfold M_Mo_goesOn_L232
  repeat' with_reducible (first | apply uk_B | apply uk_C | exact uk_Va_set_ _ _ _ _ _ _ | exact uk_R _ | exact uk_GI _ _ | intro _)
theorem uk_Mo_goesOn_L144 (x) : Uk (M_Mo_goesOn_L144 x) := by
  unfold M_Mo_goesOn_L144
  repeat' with_reducible (first | apply uk_B | apply uk_C | exact uk_Va_add_ _ _ _ _ _ | exact uk_R _ | exact uk_GI _ _ | intro _)
theorem uk_Mo_goesOn (l1 : Int32) (l2 : Int32) (l3 : Int32) (l4 : Int32) (l5 : Int32) : Uk (M_Mo_goesOn l1 l2 l3 l4 l5) := by
  unfold M_Mo_goesOn
  repeat' with_reducible (first | apply uk_B | apply uk_C | exact uk_Mo_goesOn_j25 _ | exact uk_Mo_push _ _ | exact uk_Mo_goesOn_L232 _ | exact uk_Mo_goesOn_L144 _ | exact uk_R _ | exact uk_GI _ _ | exact uk_PI (by omega) | exact uk_PL | exact uk_AI _ _ _ _ | exact uk_AL _ _ _ _ | exact uk_K _ | apply uk_W | intro _)
theorem uk_Mo_back (l1 : Int32) : Uk (M_Mo_back l1) := by
  unfold M_Mo_back
  repeat' with_reducible (first | apply uk_B | exact uk_R _ | exact uk_GI _ _ | exact uk_PI (by omega) | exact uk_K _ | intro _)
theorem uk_Mo_state  : Uk (M_Mo_state) := by
  unfold M_Mo_state
  repeat' with_reducible (first | apply uk_B | apply uk_C | exact uk_Mo_is _ _ | exact uk_Mo_raise _ | exact uk_Mo_av _ | exact uk_Mo_give _ _ | exact uk_R _ | exact uk_GI _ _ | exact uk_AI _ _ _ _ | exact uk_K _ | intro _)
theorem uk_Mo_running_j36 (k0 : Int32) : Uk (M_Mo_running_j36 k0) := by
  unfold M_Mo_running_j36
  repeat' with_reducible (first | apply uk_B | exact uk_Va_add _ _ _ _ | exact uk_R _ | intro _)
theorem uk_Mo_running  : Uk (M_Mo_running) := by
  unfold M_Mo_running
  repeat' with_reducible (first | apply uk_B | apply uk_C | exact uk_Mo_give _ _ | exact uk_Mo_running_j36 _ | exact uk_GI _ _ | exact uk_K _ | intro _)
theorem uk_Mo_finished_L35 (x) : Uk (M_Mo_finished_L35 x) := by
  unfold M_Mo_finished_L35
  repeat' with_reducible (first | apply uk_B | apply uk_C | exact uk_Va_add_ _ _ _ _ _ | exact uk_R _ | exact uk_GI _ _ | intro _)
theorem uk_Mo_finished  : Uk (M_Mo_finished) := by
  unfold M_Mo_finished
  repeat' with_reducible (first | apply uk_B | apply uk_C | exact uk_Mo_finished_L35 _ | exact uk_Mo_back _ | exact uk_R _ | exact uk_GI _ _ | exact uk_PI (by omega) | exact uk_K _ | apply uk_W | intro _)
theorem uk_Mo_expect (l1 : Int32) (l2 : Int32) (l3 : Int32) : Uk (M_Mo_expect l1 l2 l3) := by
  unfold M_Mo_expect
  repeat' with_reducible (first | apply uk_B | exact uk_Th_top _ | exact uk_R _ | exact uk_GI _ _ | exact uk_SI | exact uk_K _ | intro _)
