/-! Made by wip/l2n/kpgen2.py: who leaves the face alone. -/
theorem kq_Mo_high_j303 (l1 : Int32) (l2 : Int32) (l4 : Int32) (l8 : Int32) (l9 : Int32) (k0 : Int32) (k1 : Int32) (k2 : Int32) : Kq true (M_Mo_high_j303 l1 l2 l4 l8 l9 k0 k1 k2) := by
  unfold M_Mo_high_j303
  repeat' (first | with_reducible (first | apply kq_B | exact kq_Mo_addAt _ _ _ _ _ _ | exact kq_R _ | intro _) | omega)
theorem kq_Mo_high_L276 (x) : Kq true (M_Mo_high_L276 x) := by
  unfold M_Mo_high_L276
  repeat' (first | with_reducible (first | apply kq_B | apply kq_C | exact kq_Mo_b _ | exact kq_Mo_high_j303 _ _ _ _ _ _ _ _ | exact kq_R _ | intro _) | omega)
theorem kq_Mo_high_j235 (l1 : Int32) (l2 : Int32) (l4 : Int32) (k0 : Int32) : Kq true (M_Mo_high_j235 l1 l2 l4 k0) := by
  unfold M_Mo_high_j235
  repeat' (first | with_reducible (first | apply kq_B | apply kq_C | exact kq_Mo_a _ | exact kq_Mo_high_L276 _ | exact kq_Mo_close _ _ | exact kq_Mo_raise _ | exact kq_R _ | exact kq_GI _ _ | exact kq_AI _ _ _ _ | exact kq_SI _ _ _ _ _ | apply kq_W | (refine kq_PI ?_) | intro _) | omega)
theorem kq_Mo_high_j405  : Kq true (M_Mo_high_j405) := by
  unfold M_Mo_high_j405
  repeat' (first | with_reducible (first | apply kq_B | exact kq_Mo_raise _ | exact kq_R _ | intro _) | omega)
theorem kq_Mo_high (l1 : Int32) (l2 : Int32) (l3 : Int32) (l4 : Int32) (l5 : Int32) (l6r : Nat) (l6 : Int32) (l7 : Int32) : Kq true (M_Mo_high l1 l2 l3 l4 l5 l6r l6 l7) := by
  unfold M_Mo_high
  repeat' (first | with_reducible (first | apply kq_B | apply kq_C | exact kq_Mo_a _ | exact kq_Mo_b _ | exact kq_Mo_gather _ _ _ _ | exact kq_Mo_c _ | exact kq_Mo_expect _ _ _ | exact kq_Mo_close _ _ | exact kq_Mo_high_j235 _ _ _ _ | exact kq_Mo_loop _ _ _ _ _ _ | exact kq_Mo_sbx _ | exact kq_Mo_high_j405 | exact kq_Va_add_ _ _ _ _ _ | exact kq_Va_set_ _ _ _ _ _ _ | exact kq_Mo_list _ _ _ _ _ _ | exact kq_Mo_closure_ _ _ _ _ _ _ _ | exact kq_Mo_further _ _ _ _ _ _ _ | exact kq_R _ | exact kq_GI _ _ | exact kq_PL _ _ _ | exact kq_AI _ _ _ _ | exact kq_AL _ _ _ _ | exact kq_SI _ _ _ _ _ | exact kq_SL _ _ _ _ _ | (refine kq_PI ?_) | intro _) | omega)
theorem kq_Mo_string_j86 (l1r : Nat) (l1 : Int32) (l2 : Int32) (l3 : Int32) (l4 : Int32) (l5 : Int32) (l7 : Int32) (k0 : Int32) : Kq true (M_Mo_string_j86 l1r l1 l2 l3 l4 l5 l7 k0) := by
  unfold M_Mo_string_j86
  repeat' (first | with_reducible (first | exact kq_R _ | intro _) | omega)
theorem kq_Mo_string_L46 (x) : Kq true (M_Mo_string_L46 x) := by
  unfold M_Mo_string_L46
  repeat' (first | with_reducible (first | apply kq_B | apply kq_C | exact kq_Mo_string_j86 _ _ _ _ _ _ _ _ | exact kq_R _ | exact kq_AI _ _ _ _ | intro _) | omega)
theorem kq_Mo_string_j94 (l1r : Nat) (l1 : Int32) (l2 : Int32) (l3 : Int32) (l4 : Int32) (l5 : Int32) (l6 : Int32) : Kq true (M_Mo_string_j94 l1r l1 l2 l3 l4 l5 l6) := by
  unfold M_Mo_string_j94
  repeat' (first | with_reducible (first | apply kq_B | apply kq_C | exact kq_R _ | exact kq_AI _ _ _ _ | apply kq_L | intro _) | omega)
theorem kq_Mo_string_j41 (l1r : Nat) (l1 : Int32) (l2 : Int32) (l3 : Int32) (l4 : Int32) (l5 : Int32) (k0 : Int32) : Kq true (M_Mo_string_j41 l1r l1 l2 l3 l4 l5 k0) := by
  unfold M_Mo_string_j41
  repeat' (first | with_reducible (first | apply kq_B | exact kq_Mo_string_L46 _ | exact kq_Mo_string_j94 _ _ _ _ _ _ _ | apply kq_W | intro _) | omega)
theorem kq_Mo_string_L20 (x) : Kq true (M_Mo_string_L20 x) := by
  unfold M_Mo_string_L20
  repeat' (first | with_reducible (first | apply kq_B | apply kq_C | exact kq_Mo_string_j41 _ _ _ _ _ _ _ | exact kq_R _ | exact kq_AI _ _ _ _ | intro _) | omega)
theorem kq_Mo_string (l1r : Nat) (l1 : Int32) (l2 : Int32) (l3 : Int32) : Kq true (M_Mo_string l1r l1 l2 l3) := by
  unfold M_Mo_string
  repeat' (first | with_reducible (first | apply kq_B | apply kq_C | exact kq_Mo_hash _ _ _ _ | exact kq_Mo_string_L20 _ | exact kq_Mo_may _ | exact kq_Mo_object _ | exact kq_Mo_raise _ | exact kq_R _ | exact kq_GI _ _ | exact kq_AI _ _ _ _ | exact kq_SI _ _ _ _ _ | exact kq_Pr _ _ | exact kq_CI _ _ _ _ _ _ _ _ _ | apply kq_L | apply kq_W | (refine kq_PI ?_) | apply kq_E | intro _) | omega)
theorem kq_Mo_say_ (l1 : Int32) (l2 : Int32) : Kq true (M_Mo_say_ l1 l2) := by
  unfold M_Mo_say_
  repeat' (first | with_reducible (first | apply kq_B | exact kq_R _ | exact kq_GI _ _ | exact kq_CI _ _ _ _ _ _ _ _ _ | (refine kq_PI ?_) | intro _) | omega)
theorem kq_Mo_sub_j25  : Kq true (M_Mo_sub_j25) := by
  unfold M_Mo_sub_j25
  repeat' (first | with_reducible (first | apply kq_B | exact kq_Mo_raise _ | exact kq_R _ | intro _) | omega)
theorem kq_Mo_sub_j150 (k0 : Int32) : Kq true (M_Mo_sub_j150 k0) := by
  unfold M_Mo_sub_j150
  repeat' (first | with_reducible (first | apply kq_B | apply kq_C | exact kq_Mo_give _ _ | exact kq_R _ | intro _) | omega)
theorem kq_Mo_sub_j95 (l1 : Int32) (l2 : Int32) (l3 : Int64) (k0 : Int64) (k1 : Int64) : Kq true (M_Mo_sub_j95 l1 l2 l3 k0 k1) := by
  unfold M_Mo_sub_j95
  repeat' (first | with_reducible (first | apply kq_B | apply kq_C | exact kq_Mo_from _ _ | exact kq_Mth_min_ _ _ | exact kq_Mo_string _ _ _ _ | exact kq_Mo_sub_j150 _ | exact kq_AI _ _ _ _ | intro _) | omega)
theorem kq_Mo_sub_j65 (l1 : Int32) (l2 : Int32) (k0 : Int64) (k1 : Int64) : Kq true (M_Mo_sub_j65 l1 l2 k0 k1) := by
  unfold M_Mo_sub_j65
  repeat' (first | with_reducible (first | apply kq_B | apply kq_C | exact kq_Mo_from _ _ | exact kq_Mth_max_ _ _ | exact kq_Mo_is _ _ | exact kq_Mo_av _ | exact kq_Mo_sub_j95 _ _ _ _ _ | intro _) | omega)
theorem kq_Mo_sub  : Kq true (M_Mo_sub) := by
  unfold M_Mo_sub
  repeat' (first | with_reducible (first | apply kq_B | apply kq_C | exact kq_Mo_is _ _ | exact kq_Mo_sub_j25 | exact kq_Mo_integer _ | exact kq_Mo_av _ | exact kq_Mo_sub_j65 _ _ _ _ | exact kq_AI _ _ _ _ | intro _) | omega)
theorem kq_Mo_characters_L2 (x) : Kq true (M_Mo_characters_L2 x) := by
  unfold M_Mo_characters_L2
  repeat' (first | with_reducible (first | apply kq_B | apply kq_C | exact kq_Mo_is _ _ | exact kq_Mo_av _ | exact kq_R _ | exact kq_GI _ _ | exact kq_SI _ _ _ _ _ | intro _) | omega)
theorem kq_Mo_characters_j51  : Kq true (M_Mo_characters_j51) := by
  unfold M_Mo_characters_j51
  repeat' (first | with_reducible (first | apply kq_B | exact kq_Mo_raise _ | exact kq_R _ | intro _) | omega)
theorem kq_Mo_characters  : Kq true (M_Mo_characters) := by
  unfold M_Mo_characters
  repeat' (first | with_reducible (first | apply kq_B | apply kq_C | exact kq_Mo_characters_L2 _ | exact kq_Mo_raise _ | exact kq_Mo_characters_j51 | exact kq_Mo_string _ _ _ _ | exact kq_Mo_give _ _ | exact kq_R _ | exact kq_GI _ _ | apply kq_W | apply kq_E | intro _) | omega)
theorem kq_Mo_say___L2 (x) : Kq true (M_Mo_say___L2 x) := by
  unfold M_Mo_say___L2
  repeat' (first | with_reducible (first | apply kq_B | apply kq_C | exact kq_Mo_say _ | exact kq_R _ | exact kq_K _ | intro _) | omega)
theorem kq_Mo_say__ (l1 : Nat) : Kq true (M_Mo_say__ l1) := by
  unfold M_Mo_say__
  repeat' (first | with_reducible (first | apply kq_B | exact kq_Mo_say___L2 _ | exact kq_R _ | apply kq_W | intro _) | omega)
theorem kq_Mo_sayValue_j145 (k0 : Int64) : Kq true (M_Mo_sayValue_j145 k0) := by
  unfold M_Mo_sayValue_j145
  repeat' (first | with_reducible (first | apply kq_B | exact kq_Mo_sayNumber _ | exact kq_R _ | intro _) | omega)
theorem kq_Mo_sayValue_j119 (l2 : Int64) (k0 : Nat) : Kq true (M_Mo_sayValue_j119 l2 k0) := by
  unfold M_Mo_sayValue_j119
  repeat' (first | with_reducible (first | apply kq_B | apply kq_C | exact kq_Mo_say__ _ | exact kq_Mo_sayValue_j145 _ | exact kq_AI _ _ _ _ | intro _) | omega)
theorem kq_Mo_sayValue_j166 (l2 : Int64) (k0 : Nat) : Kq true (M_Mo_sayValue_j166 l2 k0) := by
  unfold M_Mo_sayValue_j166
  repeat' (first | with_reducible (first | apply kq_B | exact kq_Mo_say__ _ | exact kq_Mo_sayNumber _ | exact kq_R _ | exact kq_AI _ _ _ _ | intro _) | omega)
theorem kq_Mo_sayValue (l1 : Int32) (l2 : Int64) : Kq true (M_Mo_sayValue l1 l2) := by
  unfold M_Mo_sayValue
  repeat' (first | with_reducible (first | apply kq_B | apply kq_C | exact kq_Mo_say__ _ | exact kq_Mo_sayNumber _ | exact kq_Mo_say_ _ _ | exact kq_Mo_sayValue_j119 _ _ | exact kq_Mo_sayValue_j166 _ _ | exact kq_R _ | exact kq_AI _ _ _ _ | intro _) | omega)
theorem kq_Mo_tostring_j141  : Kq true (M_Mo_tostring_j141) := by
  unfold M_Mo_tostring_j141
  repeat' (first | with_reducible (first | apply kq_B | exact kq_R _ | (refine kq_PI ?_) | intro _) | omega)
theorem kq_Mo_tostring  : Kq true (M_Mo_tostring) := by
  unfold M_Mo_tostring
  repeat' (first | with_reducible (first | apply kq_B | apply kq_C | exact kq_Mo_ak _ | exact kq_Mo_av _ | exact kq_Mo_meta _ _ _ | exact kq_Mo_give _ _ | exact kq_Mo_tostring_j141 | exact kq_Mo_sayValue _ _ | exact kq_Mo_string _ _ _ _ | exact kq_Va_add _ _ _ _ | exact kq_Mo_push _ _ | exact kq_R _ | exact kq_GI _ _ | exact kq_GL _ _ | exact kq_PL _ _ _ | (refine kq_PI ?_) | intro _) | omega)
theorem kq_Mo_join_j245 (l1 : Int32) (l2 : Int32) (l7 : Int32) (l8 : Int32) (l12 : Int32) (l17 : Int32) (k0 : Int32) : Kq true (M_Mo_join_j245 l1 l2 l7 l8 l12 l17 k0) := by
  unfold M_Mo_join_j245
  repeat' (first | with_reducible (first | apply kq_B | apply kq_C | exact kq_R _ | (refine kq_PI ?_) | intro _) | omega)
theorem kq_Mo_join_j158 (l1 : Int32) (l2 : Int32) (l7 : Int32) (l8 : Int32) (l9 : Int32) (l10 : Int64) (l12 : Int32) (l13 : Int32) (l14 : Int64) (k0 : Int32) (k1 : Int32) : Kq true (M_Mo_join_j158 l1 l2 l7 l8 l9 l10 l12 l13 l14 k0 k1) := by
  unfold M_Mo_join_j158
  repeat' (first | with_reducible (first | apply kq_B | apply kq_C | exact kq_Mo_sayValue _ _ | exact kq_Va_add _ _ _ _ | exact kq_Mo_string _ _ _ _ | exact kq_Mo_join_j245 _ _ _ _ _ _ _ | exact kq_Mo_raise _ | exact kq_R _ | exact kq_GI _ _ | apply kq_L | intro _) | omega)
theorem kq_Mo_join_j139 (l1 : Int32) (l2 : Int32) (l7 : Int32) (l8 : Int32) (l9 : Int32) (l10 : Int64) (l12 : Int32) (l13 : Int32) (l14 : Int64) (k0 : Int32) : Kq true (M_Mo_join_j139 l1 l2 l7 l8 l9 l10 l12 l13 l14 k0) := by
  unfold M_Mo_join_j139
  repeat' (first | with_reducible (first | apply kq_B | apply kq_C | exact kq_Mo_join_j158 _ _ _ _ _ _ _ _ _ _ _ | exact kq_AI _ _ _ _ | intro _) | omega)
theorem kq_Mo_join_j115 (l1 : Int32) (l2 : Int32) (l7 : Int32) (l8 : Int32) (l9 : Int32) (l10 : Int64) (l12 : Int32) (l13 : Int32) (l14 : Int64) : Kq true (M_Mo_join_j115 l1 l2 l7 l8 l9 l10 l12 l13 l14) := by
  unfold M_Mo_join_j115
  repeat' (first | with_reducible (first | apply kq_B | apply kq_C | exact kq_Mo_join_j139 _ _ _ _ _ _ _ _ _ _ | exact kq_AI _ _ _ _ | (refine kq_PI ?_) | intro _) | omega)
theorem kq_Mo_join_j103 (l1 : Int32) (l2 : Int32) (l7 : Int32) (l8 : Int32) (l9 : Int32) (l10 : Int64) (l12 : Int32) (l13 : Int32) (l14 : Int64) : Kq true (M_Mo_join_j103 l1 l2 l7 l8 l9 l10 l12 l13 l14) := by
  unfold M_Mo_join_j103
  repeat' (first | with_reducible (first | apply kq_C | exact kq_Mo_join_j115 _ _ _ _ _ _ _ _ _ | exact kq_R _ | intro _) | omega)
theorem kq_Mo_join_L51 (x) : Kq true (M_Mo_join_L51 x) := by
  unfold M_Mo_join_L51
  repeat' (first | with_reducible (first | apply kq_B | apply kq_C | exact kq_Mo_b _ | exact kq_Mo_join_j103 _ _ _ _ _ _ _ _ _ | exact kq_R _ | exact kq_AI _ _ _ _ | exact kq_AL _ _ _ _ | intro _) | omega)
theorem kq_Mo_join_j273 (l1 : Int32) (l2 : Int32) (l7 : Int32) (l9 : Int32) (l10 : Int64) (l12 : Int32) (l13 : Int32) (l14 : Int64) : Kq true (M_Mo_join_j273 l1 l2 l7 l9 l10 l12 l13 l14) := by
  unfold M_Mo_join_j273
  repeat' (first | with_reducible (first | apply kq_B | apply kq_C | exact kq_Mo_a _ | exact kq_Mo_expect _ _ _ | exact kq_Mo_either _ _ _ _ _ | exact kq_Mo_raise _ | exact kq_R _ | exact kq_SI _ _ _ _ _ | intro _) | omega)
theorem kq_Mo_join (l1 : Int32) (l2 : Int32) (l3 : Int32) (l4 : Int32) (l5 : Int64) : Kq true (M_Mo_join l1 l2 l3 l4 l5) := by
  unfold M_Mo_join
  repeat' (first | with_reducible (first | apply kq_B | exact kq_Mo_join_L51 _ | exact kq_Mo_raise _ | exact kq_Mo_join_j273 _ _ _ _ _ _ _ _ | exact kq_Mo_a _ | exact kq_Va_set _ _ _ _ _ | exact kq_R _ | exact kq_AI _ _ _ _ | apply kq_W | apply kq_E | intro _) | omega)
theorem kq_Mo_middle_j91 (k0 : Int32) (k1 : Int32) (k2r : Nat) (k2 : Int32) : Kq true (M_Mo_middle_j91 k0 k1 k2r k2) := by
  unfold M_Mo_middle_j91
  repeat' (first | with_reducible (first | apply kq_B | exact kq_Va_set _ _ _ _ _ | exact kq_R _ | intro _) | omega)
theorem kq_Mo_middle_j199 (l1 : Int32) (l2 : Int32) (l4 : Int32) : Kq true (M_Mo_middle_j199 l1 l2 l4) := by
  unfold M_Mo_middle_j199
  repeat' (first | with_reducible (first | apply kq_B | exact kq_Mo_sbx _ | exact kq_R _ | exact kq_AI _ _ _ _ | exact kq_SI _ _ _ _ _ | intro _) | omega)
theorem kq_Mo_middle_j240 (l1 : Int32) (l2 : Int32) (k0 : Int32) (k1 : Int32) : Kq true (M_Mo_middle_j240 l1 l2 k0 k1) := by
  unfold M_Mo_middle_j240
  repeat' (first | with_reducible (first | apply kq_B | apply kq_C | exact kq_R _ | exact kq_AI _ _ _ _ | exact kq_SI _ _ _ _ _ | intro _) | omega)
theorem kq_Mo_middle_j281 (l1 : Int32) (l2 : Int32) (l6r : Nat) (l6 : Int32) (l7 : Int32) (l8 : Int32) (k0 : Int32) (k1 : Int32) : Kq true (M_Mo_middle_j281 l1 l2 l6r l6 l7 l8 k0 k1) := by
  unfold M_Mo_middle_j281
  repeat' (first | with_reducible (first | apply kq_B | apply kq_C | exact kq_Va_set_ _ _ _ _ _ _ | exact kq_R _ | exact kq_AI _ _ _ _ | exact kq_SI _ _ _ _ _ | intro _) | omega)
theorem kq_Mo_middle (l1 : Int32) (l2 : Int32) (l3 : Int32) (l4 : Int32) (l5 : Int32) (l6r : Nat) (l6 : Int32) (l7 : Int32) : Kq true (M_Mo_middle l1 l2 l3 l4 l5 l6r l6 l7) := by
  unfold M_Mo_middle
  repeat' (first | with_reducible (first | apply kq_B | apply kq_C | exact kq_Mo_b _ | exact kq_Mo_truth _ | exact kq_Mo_middle_j91 _ _ _ _ | exact kq_Mo_a _ | exact kq_Mo_length _ _ _ _ _ _ | exact kq_Mo_c _ | exact kq_Mo_join _ _ _ _ _ | exact kq_Mo_middle_j199 _ _ _ | exact kq_Mo_close _ _ | exact kq_Mo_middle_j240 _ _ _ _ | exact kq_Mo_middle_j281 _ _ _ _ _ _ _ _ | exact kq_Mo_compare _ _ _ _ _ | exact kq_R _ | exact kq_AI _ _ _ _ | exact kq_AL _ _ _ _ | apply kq_L | intro _) | omega)
theorem kq_Mo_print_L72 (x) : Kq false (M_Mo_print_L72 x) := by
  unfold M_Mo_print_L72
  repeat' (first | with_reducible (first | apply kq_B | apply kq_C | exact kq_R _ | exact kq_GI _ _ | exact kq_AI _ _ _ _ | exact kq_SI _ _ _ _ _ | exact kq_PI5 | (refine kq_PI ?_) | intro _) | omega)
theorem kq_Mo_print_j118 (l1 : Int32) : Kq true (M_Mo_print_j118 l1) := by
  unfold M_Mo_print_j118
  repeat' (first | with_reducible (first | exact kq_R _ | intro _) | omega)
theorem kq_Mo_print_j70 (l1 : Int32) : Kq false (M_Mo_print_j70 l1) := by
  unfold M_Mo_print_j70
  repeat' (first | with_reducible (first | apply kq_B | exact kq_Mo_print_L72 _ | exact (kq_Mo_print_j118 _).weak | apply kq_W | intro _) | omega)
theorem kq_Mo_print_j48 (l1 : Int32) : Kq false (M_Mo_print_j48 l1) := by
  unfold M_Mo_print_j48
  repeat' (first | with_reducible (first | apply kq_B | exact (kq_Mo_sayValue _ _).weak | exact kq_Mo_print_j70 _ | exact kq_AI _ _ _ _ | exact kq_AL _ _ _ _ | intro _) | omega)
theorem kq_Mo_print_L2 (x) : Kq false (M_Mo_print_L2 x) := by
  unfold M_Mo_print_L2
  repeat' (first | with_reducible (first | apply kq_B | apply kq_C | exact (kq_Mo_say _).weak | exact kq_Mo_print_j70 _ | exact kq_Mo_print_j48 _ | exact kq_R _ | exact kq_GI _ _ | (refine kq_PI ?_) | intro _) | omega)
theorem kq_Mo_print  : Kq false (M_Mo_print) := by
  unfold M_Mo_print
  repeat' (first | with_reducible (first | apply kq_B | exact kq_Mo_print_L2 _ | exact (kq_Mo_giveNone).weak | exact kq_R _ | apply kq_W | intro _) | omega)
theorem kq_Mo_taken_j248 (l1 : Int32) (l2 : Int32) (l3 : Int32) (l7 : Int32) : Kq true (M_Mo_taken_j248 l1 l2 l3 l7) := by
  unfold M_Mo_taken_j248
  repeat' (first | with_reducible (first | exact kq_R _ | intro _) | omega)
theorem kq_Mo_taken_L178 (x) : Kq true (M_Mo_taken_L178 x) := by
  unfold M_Mo_taken_L178
  repeat' (first | with_reducible (first | apply kq_B | apply kq_C | exact kq_Va_set _ _ _ _ _ | exact kq_Mo_taken_j248 _ _ _ _ | exact kq_Va_set_ _ _ _ _ _ _ | exact kq_R _ | exact kq_GI _ _ | exact kq_AI _ _ _ _ | intro _) | omega)
theorem kq_Mo_taken_j350  : Kq true (M_Mo_taken_j350) := by
  unfold M_Mo_taken_j350
  repeat' (first | with_reducible (first | apply kq_B | exact kq_R _ | (refine kq_PI ?_) | intro _) | omega)
theorem kq_Mo_taken_L116 (x) : Kq true (M_Mo_taken_L116 x) := by
  unfold M_Mo_taken_L116
  repeat' (first | with_reducible (first | apply kq_B | apply kq_C | exact kq_Va_add_ _ _ _ _ _ | exact kq_R _ | exact kq_GI _ _ | intro _) | omega)
theorem kq_Mo_taken_j305 (l1 : Int32) (l2 : Int32) (k0 : Int32) (k1 : Int32) : Kq true (M_Mo_taken_j305 l1 l2 k0 k1) := by
  unfold M_Mo_taken_j305
  repeat' (first | with_reducible (first | apply kq_B | apply kq_C | exact kq_Mo_taken_j350 | exact kq_AI _ _ _ _ | exact kq_SI _ _ _ _ _ | intro _) | omega)
theorem kq_Mo_taken_j290 (l1 : Int32) (l2 : Int32) (k0 : Int32) : Kq true (M_Mo_taken_j290 l1 l2 k0) := by
  unfold M_Mo_taken_j290
  repeat' (first | with_reducible (first | apply kq_B | apply kq_C | exact kq_Mo_taken_j305 _ _ _ _ | exact kq_AI _ _ _ _ | intro _) | omega)
theorem kq_Mo_taken_j55 (l1 : Int32) (l2 : Int32) (l3 : Int32) (l4 : Int32) (k0 : Int64) : Kq true (M_Mo_taken_j55 l1 l2 l3 l4 k0) := by
  unfold M_Mo_taken_j55
  repeat' (first | with_reducible (first | apply kq_B | apply kq_C | exact kq_Mo_taken_L178 _ | exact kq_Mo_taken_j350 | exact kq_Mo_taken_L116 _ | exact kq_Va_set _ _ _ _ _ | exact kq_Mo_taken_j290 _ _ _ | exact kq_Mo_join _ _ _ _ _ | exact kq_GI _ _ | exact kq_AI _ _ _ _ | exact kq_SI _ _ _ _ _ | apply kq_W | (refine kq_PI ?_) | intro _) | omega)
theorem kq_Mo_taken_j30 (l1 : Int32) (l2 : Int32) (l3 : Int32) (k0 : Int32) : Kq true (M_Mo_taken_j30 l1 l2 l3 k0) := by
  unfold M_Mo_taken_j30
  repeat' (first | with_reducible (first | apply kq_B | apply kq_C | exact kq_Mo_taken_j55 _ _ _ _ _ | exact kq_GI _ _ | exact kq_AL _ _ _ _ | intro _) | omega)
theorem kq_Mo_taken (l1 : Int32) (l2 : Int32) : Kq true (M_Mo_taken l1 l2) := by
  unfold M_Mo_taken
  repeat' (first | with_reducible (first | apply kq_B | apply kq_C | exact kq_Mo_taken_j30 _ _ _ _ | exact kq_GI _ _ | exact kq_AI _ _ _ _ | intro _) | omega)
theorem kq_Mo_step  : Kq true (M_Mo_step) := by
  unfold M_Mo_step
  repeat' (first | with_reducible (first | apply kq_B | apply kq_C | exact kq_Th_top _ | exact kq_Mo_op _ | exact kq_Mo_a _ | exact kq_Mo_self _ _ _ _ _ _ _ | exact kq_Mo_high _ _ _ _ _ _ _ _ | exact kq_Mo_middle _ _ _ _ _ _ _ _ | exact kq_Mo_arithmetic _ _ _ _ _ _ _ _ | exact kq_Mo_small _ _ _ _ _ _ _ _ | exact kq_R _ | exact kq_GI _ _ | exact kq_GL _ _ | exact kq_PL _ _ _ | exact kq_AI _ _ _ _ | exact kq_SI _ _ _ _ _ | exact kq_K _ | apply kq_L | intro _) | omega)
theorem kq_Mo_builtIn_j388  : Kq true (M_Mo_builtIn_j388) := by
  unfold M_Mo_builtIn_j388
  repeat' (first | with_reducible (first | apply kq_B | exact kq_R _ | (refine kq_PI ?_) | intro _) | omega)
theorem kq_Mo_builtIn_j158 (k0 : Int32) (k2 : Int32) : Kq true (M_Mo_builtIn_j158 k0 k2) := by
  unfold M_Mo_builtIn_j158
  repeat' (first | with_reducible (first | apply kq_B | exact kq_Mo_give _ _ | exact kq_Mo_builtIn_j388 | exact kq_AI _ _ _ _ | intro _) | omega)
theorem kq_Mo_builtIn_j252 (k0 : Int32) : Kq true (M_Mo_builtIn_j252 k0) := by
  unfold M_Mo_builtIn_j252
  repeat' (first | with_reducible (first | apply kq_B | exact kq_Mo_give _ _ | exact kq_Mo_builtIn_j388 | intro _) | omega)
