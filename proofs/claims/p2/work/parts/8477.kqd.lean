/-! Made by wip/l2n/kpgen2.py: who leaves the face alone. -/
theorem kq_Mo_arithmetic_j172 (l5 : Int32) (l6r : Nat) (l6 : Int32) (l7 : Int32) (l9 : Int64) (l12 : Int64) : Kq true (M_Mo_arithmetic_j172 l5 l6r l6 l7 l9 l12) := by
  unfold M_Mo_arithmetic_j172
  repeat' (first | with_reducible (first | apply kq_B | apply kq_C | exact kq_Mo_raise _ | exact kq_Mo_arithmetic_j188 _ _ _ _ _ _ | exact kq_R _ | intro _) | omega)
theorem kq_Mo_arithmetic_j106 (l4 : Int32) (l5 : Int32) (l6r : Nat) (l6 : Int32) (l7 : Int32) (l8 : Int32) (l9 : Int64) (l11 : Int32) (l12 : Int64) : Kq true (M_Mo_arithmetic_j106 l4 l5 l6r l6 l7 l8 l9 l11 l12) := by
  unfold M_Mo_arithmetic_j106
  repeat' (first | with_reducible (first | apply kq_C | exact kq_Mo_arithmetic_j172 _ _ _ _ _ _ | exact kq_Mo_arithmetic_j188 _ _ _ _ _ _ | exact kq_Mo_arithmetic_j118 _ _ _ _ _ _ | intro _) | omega)
theorem kq_Mo_arithmetic (l1 : Int32) (l2 : Int32) (l3 : Int32) (l4 : Int32) (l5 : Int32) (l6r : Nat) (l6 : Int32) (l7 : Int32) : Kq true (M_Mo_arithmetic l1 l2 l3 l4 l5 l6r l6 l7) := by
  unfold M_Mo_arithmetic
  repeat' (first | with_reducible (first | apply kq_B | apply kq_C | exact kq_Mo_b _ | exact kq_Mo_rk_ _ _ _ _ | exact kq_Mo_c _ | exact kq_Mo_arithmetic_j106 _ _ _ _ _ _ _ _ _ | exact kq_GI _ _ | exact kq_GL _ _ | exact kq_AI _ _ _ _ | exact kq_AL _ _ _ _ | intro _) | omega)
theorem kq_Mo_length (l1 : Int32) (l2 : Int32) (l3 : Int64) (l5r : Nat) (l5 : Int32) (l6 : Int32) : Kq true (M_Mo_length l1 l2 l3 l5r l5 l6) := by
  unfold M_Mo_length
  repeat' (first | with_reducible (first | apply kq_B | apply kq_C | exact kq_Va_set _ _ _ _ _ | exact kq_Mo_meta _ _ _ | exact kq_Mo_border _ | exact kq_Va_add _ _ _ _ | exact kq_Mo_expect _ _ _ | exact kq_Mo_raise _ | exact kq_R _ | exact kq_GI _ _ | exact kq_GL _ _ | exact kq_PL _ _ _ | exact kq_AI _ _ _ _ | (refine kq_PI ?_) | intro _) | omega)
theorem kq_Mo_compare_j261 (l6 : Int32) (l7 : Int64) (l9 : Int32) (l10 : Int64) (k0 : Int32) : Kq true (M_Mo_compare_j261 l6 l7 l9 l10 k0) := by
  unfold M_Mo_compare_j261
  repeat' (first | with_reducible (first | apply kq_B | apply kq_C | exact kq_Mo_either _ _ _ _ _ | exact kq_Mo_raise _ | exact kq_R _ | intro _) | omega)
theorem kq_Mo_compare_j235 (l4 : Int32) (l5 : Int32) (l6 : Int32) (l7 : Int64) (l9 : Int32) (l10 : Int64) : Kq true (M_Mo_compare_j235 l4 l5 l6 l7 l9 l10) := by
  unfold M_Mo_compare_j235
  repeat' (first | with_reducible (first | apply kq_B | apply kq_C | exact kq_Mo_a _ | exact kq_Mo_expect _ _ _ | exact kq_Mo_compare_j261 _ _ _ _ _ | intro _) | omega)
theorem kq_Mo_compare_j298 (l1 : Int32) (l2 : Int32) (k0 : Int32) (k1 : Int32) : Kq true (M_Mo_compare_j298 l1 l2 k0 k1) := by
  unfold M_Mo_compare_j298
  repeat' (first | with_reducible (first | apply kq_B | apply kq_C | exact kq_R _ | exact kq_AI _ _ _ _ | exact kq_SI _ _ _ _ _ | intro _) | omega)
theorem kq_Mo_compare_j282 (l1 : Int32) (l2 : Int32) (l4 : Int32) (l12 : Int32) : Kq true (M_Mo_compare_j282 l1 l2 l4 l12) := by
  unfold M_Mo_compare_j282
  repeat' (first | with_reducible (first | apply kq_B | apply kq_C | exact kq_Mo_a _ | exact kq_Mo_compare_j298 _ _ _ _ | intro _) | omega)
theorem kq_Mo_compare_j230 (l1 : Int32) (l2 : Int32) (l4 : Int32) (k0 : Int32) : Kq true (M_Mo_compare_j230 l1 l2 l4 k0) := by
  unfold M_Mo_compare_j230
  repeat' (first | with_reducible (first | exact kq_Mo_compare_j282 _ _ _ _ | intro _) | omega)
theorem kq_Mo_compare_j176 (l1 : Int32) (l2 : Int32) (l4 : Int32) (l5 : Int32) (l6 : Int32) (l7 : Int64) (l9 : Int32) (l10 : Int64) : Kq true (M_Mo_compare_j176 l1 l2 l4 l5 l6 l7 l9 l10) := by
  unfold M_Mo_compare_j176
  repeat' (first | with_reducible (first | apply kq_B | apply kq_C | exact kq_Mo_order _ _ | exact kq_Mo_compare_j230 _ _ _ _ | exact kq_Mo_compare_j235 _ _ _ _ _ _ | intro _) | omega)
theorem kq_Mo_compare_j171 (l1 : Int32) (l2 : Int32) (l4 : Int32) (k0 : Int32) : Kq true (M_Mo_compare_j171 l1 l2 l4 k0) := by
  unfold M_Mo_compare_j171
  repeat' (first | with_reducible (first | exact kq_Mo_compare_j282 _ _ _ _ | intro _) | omega)
theorem kq_Mo_compare_j75 (l1 : Int32) (l2 : Int32) (l4 : Int32) (l6 : Int32) (l7 : Int64) (l9 : Int32) (l10 : Int64) (k0 : Int32) : Kq true (M_Mo_compare_j75 l1 l2 l4 l6 l7 l9 l10 k0) := by
  unfold M_Mo_compare_j75
  repeat' (first | with_reducible (first | apply kq_B | apply kq_C | exact kq_Mo_a _ | exact kq_Mo_expect _ _ _ | exact kq_Mo_either _ _ _ _ _ | exact kq_Mo_compare_j282 _ _ _ _ | exact kq_R _ | intro _) | omega)
theorem kq_Mo_compare_j74 (l1 : Int32) (l2 : Int32) (l4 : Int32) (l6 : Int32) (l7 : Int64) (l9 : Int32) (l10 : Int64) : Kq true (M_Mo_compare_j74 l1 l2 l4 l6 l7 l9 l10) := by
  unfold M_Mo_compare_j74
  repeat' (first | with_reducible (first | exact kq_Mo_compare_j75 _ _ _ _ _ _ _ _ | intro _) | omega)
theorem kq_Mo_compare (l1 : Int32) (l2 : Int32) (l3 : Int32) (l4 : Int32) (l5 : Int32) : Kq true (M_Mo_compare l1 l2 l3 l4 l5) := by
  unfold M_Mo_compare
  repeat' (first | with_reducible (first | apply kq_B | apply kq_C | exact kq_Mo_b _ | exact kq_Mo_rk_ _ _ _ _ | exact kq_Mo_c _ | exact kq_Mo_compare_j75 _ _ _ _ _ _ _ _ | exact kq_Mo_compare_j74 _ _ _ _ _ _ _ | exact kq_Mo_compare_j171 _ _ _ _ | exact kq_Mo_compare_j176 _ _ _ _ _ _ _ _ | exact kq_GI _ _ | exact kq_GL _ _ | intro _) | omega)
theorem kq_Mo_collection_j61 (l1 : Int32) : Kq true (M_Mo_collection_j61 l1) := by
  unfold M_Mo_collection_j61
  repeat' (first | with_reducible (first | exact kq_R _ | intro _) | omega)
theorem kq_Mo_collection_L30 (x) : Kq true (M_Mo_collection_L30 x) := by
  unfold M_Mo_collection_L30
  repeat' (first | with_reducible (first | apply kq_B | apply kq_C | exact kq_Mo_collection_j61 _ | exact kq_Mo_place _ | exact kq_R _ | exact kq_GI _ _ | exact kq_AI _ _ _ _ | intro _) | omega)
theorem kq_Mo_collection_L104 (x) : Kq true (M_Mo_collection_L104 x) := by
  unfold M_Mo_collection_L104
  repeat' (first | with_reducible (first | apply kq_B | apply kq_C | exact kq_Mo_place _ | exact kq_R _ | exact kq_GI _ _ | exact kq_K _ | intro _) | omega)
theorem kq_Mo_collection_L218 (x) : Kq true (M_Mo_collection_L218 x) := by
  unfold M_Mo_collection_L218
  repeat' (first | with_reducible (first | apply kq_B | apply kq_C | exact kq_Mo_follow _ | exact kq_R _ | exact kq_GI _ _ | exact kq_AI _ _ _ _ | (refine kq_PI ?_) | intro _) | omega)
theorem kq_Mo_collection  : Kq true (M_Mo_collection) := by
  unfold M_Mo_collection
  repeat' (first | with_reducible (first | apply kq_B | exact kq_Arr_fill____ _ _ _ _ _ | exact kq_Mo_collection_L30 _ | exact kq_Mo_place _ | exact kq_Mo_collection_L104 _ | exact kq_Mo_markRow _ _ _ _ | exact kq_Mo_mark _ _ | exact kq_Mo_collection_L218 _ | exact kq_Mo_sweep | exact kq_R _ | exact kq_GI _ _ | exact kq_GL _ _ | exact kq_K _ | apply kq_W | (refine kq_PI ?_) | intro _) | omega)
theorem kq_Mo_grow_j59 (l1 : Int32) (l2 : Int32) : Kq true (M_Mo_grow_j59 l1 l2) := by
  unfold M_Mo_grow_j59
  repeat' (first | with_reducible (first | apply kq_B | apply kq_C | exact kq_Mo_move _ _ _ | exact kq_Mo_raise _ | exact kq_R _ | exact kq_GI _ _ | exact kq_AI _ _ _ _ | (refine kq_PI ?_) | intro _) | omega)
theorem kq_Mo_grow_j21 (l1 : Int32) (k0 : Int32) : Kq true (M_Mo_grow_j21 l1 k0) := by
  unfold M_Mo_grow_j21
  repeat' (first | with_reducible (first | apply kq_B | apply kq_C | exact kq_Mo_grow_j59 _ _ | exact kq_Mo_collection | exact kq_Mo_raise _ | exact kq_R _ | exact kq_GI _ _ | intro _) | omega)
theorem kq_Mo_grow (l1 : Int32) : Kq true (M_Mo_grow l1) := by
  unfold M_Mo_grow
  repeat' (first | with_reducible (first | apply kq_B | apply kq_C | exact kq_Mo_grow_j21 _ _ | exact kq_AI _ _ _ _ | intro _) | omega)
theorem kq_Mo_may_j82  : Kq true (M_Mo_may_j82) := by
  unfold M_Mo_may_j82
  repeat' (first | with_reducible (first | apply kq_B | exact kq_Mo_raise _ | exact kq_R _ | intro _) | omega)
theorem kq_Mo_may_j56 (l1 : Int32) : Kq true (M_Mo_may_j56 l1) := by
  unfold M_Mo_may_j56
  repeat' (first | with_reducible (first | apply kq_B | apply kq_C | exact kq_Mo_may_j82 | exact kq_R _ | exact kq_GI _ _ | intro _) | omega)
theorem kq_Mo_may_j45 (l1 : Int32) : Kq true (M_Mo_may_j45 l1) := by
  unfold M_Mo_may_j45
  repeat' (first | with_reducible (first | apply kq_B | apply kq_C | exact kq_Mo_collection | exact kq_Mo_may_j56 _ | exact kq_GI _ _ | intro _) | omega)
theorem kq_Mo_may (l1 : Int32) : Kq true (M_Mo_may l1) := by
  unfold M_Mo_may
  repeat' (first | with_reducible (first | apply kq_B | apply kq_C | exact kq_Mo_raise _ | exact kq_Mo_may_j45 _ | exact kq_R _ | exact kq_GI _ _ | intro _) | omega)
theorem kq_Mo_put_j192 (l1 : Int32) (l2 : Int32) (l3 : Int64) (l5 : Int32) (l6 : Int64) : Kq true (M_Mo_put_j192 l1 l2 l3 l5 l6) := by
  unfold M_Mo_put_j192
  repeat' (first | with_reducible (first | apply kq_B | exact kq_Mo_append _ _ _ _ _ | exact kq_R _ | intro _) | omega)
theorem kq_Mo_put_j174 (l1 : Int32) (l2 : Int32) (l3 : Int64) (l5 : Int32) (l6 : Int64) (l9 : Int32) (k0 : Int32) : Kq true (M_Mo_put_j174 l1 l2 l3 l5 l6 l9 k0) := by
  unfold M_Mo_put_j174
  repeat' (first | with_reducible (first | apply kq_B | apply kq_C | exact kq_Mo_put_j192 _ _ _ _ _ | exact kq_R _ | (refine kq_PI ?_) | intro _) | omega)
theorem kq_Mo_put_j169 (l1 : Int32) (l2 : Int32) (l3 : Int64) (l5 : Int32) (l6 : Int64) (l9 : Int32) : Kq true (M_Mo_put_j169 l1 l2 l3 l5 l6 l9) := by
  unfold M_Mo_put_j169
  repeat' (first | with_reducible (first | exact kq_Mo_put_j174 _ _ _ _ _ _ _ | intro _) | omega)
theorem kq_Mo_put_j161 (l1 : Int32) (l2 : Int32) (l3 : Int64) (l5 : Int32) (l6 : Int64) (l9 : Int32) : Kq true (M_Mo_put_j161 l1 l2 l3 l5 l6 l9) := by
  unfold M_Mo_put_j161
  repeat' (first | with_reducible (first | apply kq_B | apply kq_C | exact kq_Mo_grow _ | exact kq_Mo_put_j174 _ _ _ _ _ _ _ | exact kq_Mo_put_j169 _ _ _ _ _ _ | intro _) | omega)
theorem kq_Mo_put_j96 (l1 : Int32) (l2 : Int32) (l3 : Int64) (l5 : Int32) (l6 : Int64) : Kq true (M_Mo_put_j96 l1 l2 l3 l5 l6) := by
  unfold M_Mo_put_j96
  repeat' (first | with_reducible (first | apply kq_B | apply kq_C | exact kq_Va_add _ _ _ _ | exact kq_Mo_put_j161 _ _ _ _ _ _ | exact kq_Mo_put_j169 _ _ _ _ _ _ | exact kq_GI _ _ | exact kq_AI _ _ _ _ | intro _) | omega)
theorem kq_Mo_put (l1 : Int32) (l2 : Int32) (l3 : Int64) (l5 : Int32) (l6 : Int64) : Kq true (M_Mo_put l1 l2 l3 l5 l6) := by
  unfold M_Mo_put
  repeat' (first | with_reducible (first | apply kq_B | apply kq_C | exact kq_Mo_raise _ | exact kq_Mo_entry _ _ _ | exact kq_Mo_put_j96 _ _ _ _ _ | exact kq_Mo_move _ _ _ | exact kq_Mo_put_j192 _ _ _ _ _ | exact kq_R _ | exact kq_GI _ _ | exact kq_AI _ _ _ _ | exact kq_SI _ _ _ _ _ | exact kq_SL _ _ _ _ _ | exact kq_K _ | intro _) | omega)
theorem kq_Mo_closure_L95 (x) : Kq true (M_Mo_closure_L95 x) := by
  unfold M_Mo_closure_L95
  repeat' (first | with_reducible (first | apply kq_B | apply kq_C | exact kq_R _ | exact kq_GI _ _ | exact kq_AI _ _ _ _ | exact kq_SI _ _ _ _ _ | exact kq_K _ | intro _) | omega)
theorem kq_Mo_closure_j83 (l3 : Int32) (l4 : Int32) (k0 : Int32) (k1 : Int32) : Kq true (M_Mo_closure_j83 l3 l4 k0 k1) := by
  unfold M_Mo_closure_j83
  repeat' (first | with_reducible (first | apply kq_B | exact kq_Mo_closure_L95 _ | exact kq_R _ | exact kq_GI _ _ | exact kq_SI _ _ _ _ _ | apply kq_W | (refine kq_PI ?_) | intro _) | omega)
theorem kq_Mo_closure (l1 : Int32) (l2 : Int32) (l3 : Int32) : Kq true (M_Mo_closure l1 l2 l3) := by
  unfold M_Mo_closure
  repeat' (first | with_reducible (first | apply kq_B | apply kq_C | exact kq_Mo_may _ | exact kq_Mo_object _ | exact kq_Mo_closure_j83 _ _ _ _ | exact kq_Mo_raise _ | exact kq_R _ | exact kq_GI _ _ | exact kq_SI _ _ _ _ _ | (refine kq_PI ?_) | intro _) | omega)
theorem kq_Mo_thread__L12 (x) : Kq true (M_Mo_thread__L12 x) := by
  unfold M_Mo_thread__L12
  repeat' (first | with_reducible (first | apply kq_B | apply kq_C | exact kq_R _ | exact kq_GI _ _ | exact kq_K _ | intro _) | omega)
theorem kq_Mo_thread_  : Kq true (M_Mo_thread_) := by
  unfold M_Mo_thread_
  repeat' (first | with_reducible (first | apply kq_B | apply kq_C | exact kq_Mo_may _ | exact kq_Mo_thread__L12 _ | exact kq_Mo_object _ | exact kq_Th_begin _ _ | exact kq_R _ | exact kq_GI _ _ | exact kq_SI _ _ _ _ _ | exact kq_K _ | apply kq_W | (refine kq_PI ?_) | intro _) | omega)
theorem kq_Mo_rawOf_j33 (l1 : Int32) : Kq true (M_Mo_rawOf_j33 l1) := by
  unfold M_Mo_rawOf_j33
  repeat' (first | with_reducible (first | apply kq_B | apply kq_C | exact kq_Mo_is _ _ | exact kq_Mo_raise _ | exact kq_Mo_av _ | exact kq_Mo_ak _ | exact kq_Mo_raw _ _ _ | exact kq_Mo_give _ _ | exact kq_Mo_put _ _ _ _ _ | exact kq_Mo_border _ | exact kq_R _ | exact kq_GI _ _ | exact kq_GL _ _ | intro _) | omega)
theorem kq_Mo_rawOf (l1 : Int32) : Kq true (M_Mo_rawOf l1) := by
  unfold M_Mo_rawOf
  repeat' (first | with_reducible (first | apply kq_B | apply kq_C | exact kq_Mo_is _ _ | exact kq_Mo_rawOf_j33 _ | exact kq_Mo_av _ | exact kq_Mo_give _ _ | exact kq_R _ | exact kq_AI _ _ _ _ | intro _) | omega)
theorem kq_Mo_create (l1 : Int32) : Kq true (M_Mo_create l1) := by
  unfold M_Mo_create
  repeat' (first | with_reducible (first | apply kq_B | apply kq_C | exact kq_Mo_is _ _ | exact kq_Mo_raise _ | exact kq_Mo_thread_ | exact kq_Va_add_ _ _ _ _ _ | exact kq_Mo_give _ _ | exact kq_Va_add _ _ _ _ | exact kq_Mo_closure _ _ _ | exact kq_R _ | exact kq_GI _ _ | exact kq_AI _ _ _ _ | exact kq_K _ | (refine kq_PI ?_) | intro _) | omega)
theorem kq_Mo_write_L9 (x) : Kq true (M_Mo_write_L9 x) := by
  unfold M_Mo_write_L9
  repeat' (first | with_reducible (first | apply kq_B | apply kq_C | exact kq_Mo_raw _ _ _ | exact kq_Mo_meta _ _ _ | exact kq_R _ | exact kq_GI _ _ | exact kq_GL _ _ | intro _) | omega)
theorem kq_Mo_write_j48 (l4 : Int32) (l5 : Int64) (l7 : Int32) (l8 : Int64) (l11 : Int64) : Kq true (M_Mo_write_j48 l4 l5 l7 l8 l11) := by
  unfold M_Mo_write_j48
  repeat' (first | with_reducible (first | apply kq_B | exact kq_Mo_put _ _ _ _ _ | exact kq_R _ | intro _) | omega)
theorem kq_Mo_write (l1 : Int32) (l2 : Int64) (l4 : Int32) (l5 : Int64) (l7 : Int32) (l8 : Int64) : Kq true (M_Mo_write l1 l2 l4 l5 l7 l8) := by
  unfold M_Mo_write
  repeat' (first | with_reducible (first | apply kq_B | exact kq_Mo_write_L9 _ | exact kq_Mo_raise _ | exact kq_Mo_write_j48 _ _ _ _ _ | exact kq_Mo_arguments _ _ _ _ | exact kq_Va_add _ _ _ _ | exact kq_Mo_expect _ _ _ | exact kq_Mo_callGot | exact kq_R _ | apply kq_W | apply kq_E | intro _) | omega)
theorem kq_Mo_list_j145 (l1 : Int32) (l2 : Int32) (l3 : Int32) (l4r : Nat) (l4 : Int32) (l5 : Int32) (l6 : Int32) (l7 : Int32) (l9r : Nat) (l9 : Int32) (k0 : Int32) : Kq true (M_Mo_list_j145 l1 l2 l3 l4r l4 l5 l6 l7 l9r l9 k0) := by
  unfold M_Mo_list_j145
  repeat' (first | with_reducible (first | apply kq_B | apply kq_C | exact kq_Mo_c _ | exact kq_Mo_put _ _ _ _ _ | exact kq_R _ | exact kq_AI _ _ _ _ | exact kq_AL _ _ _ _ | intro _) | omega)
theorem kq_Mo_list_j116 (l1 : Int32) (l2 : Int32) (l3 : Int32) (l4r : Nat) (l4 : Int32) (l5 : Int32) (l6 : Int32) (l7 : Int32) (l8 : Int32) (k0r : Nat) (k0 : Int32) : Kq true (M_Mo_list_j116 l1 l2 l3 l4r l4 l5 l6 l7 l8 k0r k0) := by
  unfold M_Mo_list_j116
  repeat' (first | with_reducible (first | apply kq_B | apply kq_C | exact kq_Mo_list_j145 _ _ _ _ _ _ _ _ _ _ _ | exact kq_Mo_a _ | exact kq_AI _ _ _ _ | intro _) | omega)
theorem kq_Mo_list_j100 (l1 : Int32) (l2 : Int32) (l3 : Int32) (l4r : Nat) (l4 : Int32) (l5 : Int32) (l6 : Int32) (l7 : Int32) (k0 : Int32) : Kq true (M_Mo_list_j100 l1 l2 l3 l4r l4 l5 l6 l7 k0) := by
  unfold M_Mo_list_j100
  repeat' (first | with_reducible (first | apply kq_C | exact kq_Mo_list_j116 _ _ _ _ _ _ _ _ _ _ _ | intro _) | omega)
theorem kq_Mo_list_j99 (l1 : Int32) (l2 : Int32) (l3 : Int32) (l4r : Nat) (l4 : Int32) (l5 : Int32) (l6 : Int32) (l7 : Int32) : Kq true (M_Mo_list_j99 l1 l2 l3 l4r l4 l5 l6 l7) := by
  unfold M_Mo_list_j99
  repeat' (first | with_reducible (first | exact kq_Mo_list_j100 _ _ _ _ _ _ _ _ _ | intro _) | omega)
theorem kq_Mo_list_L65 (x) : Kq true (M_Mo_list_L65 x) := by
  unfold M_Mo_list_L65
  repeat' (first | with_reducible (first | apply kq_B | apply kq_C | exact kq_Mo_b _ | exact kq_Mo_a _ | exact kq_Mo_list_j99 _ _ _ _ _ _ _ _ | exact kq_Mo_list_j100 _ _ _ _ _ _ _ _ _ | exact kq_R _ | exact kq_AI _ _ _ _ | intro _) | omega)
theorem kq_Mo_list_j199 (l1 : Int32) (l2 : Int32) : Kq true (M_Mo_list_j199 l1 l2) := by
  unfold M_Mo_list_j199
  repeat' (first | with_reducible (first | apply kq_B | exact kq_R _ | exact kq_SI _ _ _ _ _ | intro _) | omega)
theorem kq_Mo_list_j34 (l1 : Int32) (l2 : Int32) (l3 : Int32) (l4r : Nat) (l4 : Int32) (l5 : Int32) (k0 : Int32) : Kq true (M_Mo_list_j34 l1 l2 l3 l4r l4 l5 k0) := by
  unfold M_Mo_list_j34
  repeat' (first | with_reducible (first | apply kq_B | apply kq_C | exact kq_Mo_list_L65 _ | exact kq_Mo_list_j199 _ _ | exact kq_Mo_raise _ | exact kq_R _ | exact kq_AI _ _ _ _ | exact kq_SI _ _ _ _ _ | apply kq_W | apply kq_E | intro _) | omega)
theorem kq_Mo_list (l1 : Int32) (l2 : Int32) (l3 : Int32) (l4r : Nat) (l4 : Int32) (l5 : Int32) : Kq true (M_Mo_list l1 l2 l3 l4r l4 l5) := by
  unfold M_Mo_list
  repeat' (first | with_reducible (first | apply kq_B | apply kq_C | exact kq_Mo_b _ | exact kq_Mo_a _ | exact kq_Mo_list_j34 _ _ _ _ _ _ _ | exact kq_AI _ _ _ _ | intro _) | omega)
theorem kq_Mo_variableAt_L2 (x) : Kq true (M_Mo_variableAt_L2 x) := by
  unfold M_Mo_variableAt_L2
  repeat' (first | with_reducible (first | apply kq_B | apply kq_C | exact kq_R _ | exact kq_GI _ _ | exact kq_AI _ _ _ _ | intro _) | omega)
theorem kq_Mo_variableAt (l1 : Int32) (l2 : Int32) : Kq true (M_Mo_variableAt l1 l2) := by
  unfold M_Mo_variableAt
  repeat' (first | with_reducible (first | apply kq_B | apply kq_C | exact kq_Mo_variableAt_L2 _ | exact kq_Mo_may _ | exact kq_Mo_object _ | exact kq_Mo_thread _ | exact kq_R _ | exact kq_GI _ _ | exact kq_AI _ _ _ _ | exact kq_SI _ _ _ _ _ | apply kq_W | (refine kq_PI ?_) | apply kq_E | intro _) | omega)
theorem kq_Mo_table  : Kq true (M_Mo_table) := by
  unfold M_Mo_table
  repeat' (first | with_reducible (first | apply kq_B | apply kq_C | exact kq_Mo_may _ | exact kq_Mo_object _ | exact kq_R _ | exact kq_SI _ _ _ _ _ | intro _) | omega)
theorem kq_Mo_small_j133 (l1 : Int32) (l2 : Int32) (l4 : Int32) (k0 : Int32) (k1 : Int32) (k2r : Nat) (k2 : Int32) : Kq true (M_Mo_small_j133 l1 l2 l4 k0 k1 k2r k2) := by
  unfold M_Mo_small_j133
  repeat' (first | with_reducible (first | apply kq_B | apply kq_C | exact kq_Va_set _ _ _ _ _ | exact kq_Mo_c _ | exact kq_R _ | exact kq_AI _ _ _ _ | exact kq_SI _ _ _ _ _ | intro _) | omega)
theorem kq_Mo_small_L161 (x) : Kq true (M_Mo_small_L161 x) := by
  unfold M_Mo_small_L161
  repeat' (first | with_reducible (first | apply kq_B | apply kq_C | exact kq_Mo_b _ | exact kq_Va_set _ _ _ _ _ | exact kq_R _ | intro _) | omega)
theorem kq_Mo_small (l1 : Int32) (l2 : Int32) (l3 : Int32) (l4 : Int32) (l5 : Int32) (l6r : Nat) (l6 : Int32) (l7 : Int32) : Kq true (M_Mo_small l1 l2 l3 l4 l5 l6r l6 l7) := by
  unfold M_Mo_small
  repeat' (first | with_reducible (first | apply kq_B | apply kq_C | exact kq_Mo_b _ | exact kq_Va_set_ _ _ _ _ _ _ | exact kq_Mo_bx _ | exact kq_Mo_constant _ _ | exact kq_Va_set _ _ _ _ _ | exact kq_Mo_small_j133 _ _ _ _ _ _ _ | exact kq_Mo_small_L161 _ | exact kq_Mo_up _ _ _ | exact kq_Mo_load _ | exact kq_Mo_c _ | exact kq_Mo_rk_ _ _ _ _ | exact kq_Mo_a _ | exact kq_Mo_index _ _ _ _ _ | exact kq_Mo_write _ _ _ _ _ _ | exact kq_Mo_store _ _ _ | exact kq_Mo_table | exact kq_R _ | exact kq_GI _ _ | exact kq_GL _ _ | exact kq_AI _ _ _ _ | exact kq_AL _ _ _ _ | apply kq_W | intro _) | omega)
theorem kq_Mo_closure__j97 (l1 : Int32) (l2 : Int32) (l5r : Nat) (l5 : Int32) (l6 : Int32) (l7 : Int32) (l8 : Int32) (l9 : Int32) (k0 : Int32) : Kq true (M_Mo_closure__j97 l1 l2 l5r l5 l6 l7 l8 l9 k0) := by
  unfold M_Mo_closure__j97
  repeat' (first | with_reducible (first | apply kq_B | apply kq_C | exact kq_Va_add _ _ _ _ | exact kq_R _ | exact kq_SI _ _ _ _ _ | intro _) | omega)
theorem kq_Mo_closure__L31 (x) : Kq true (M_Mo_closure__L31 x) := by
  unfold M_Mo_closure__L31
  repeat' (first | with_reducible (first | apply kq_B | apply kq_C | exact kq_Mo_variableAt _ _ | exact kq_Mo_closure__j97 _ _ _ _ _ _ _ _ _ | exact kq_Mo_up _ _ _ | exact kq_R _ | exact kq_AI _ _ _ _ | intro _) | omega)
theorem kq_Mo_closure_ (l1 : Int32) (l2 : Int32) (l3 : Int32) (l4 : Int32) (l5r : Nat) (l5 : Int32) (l6 : Int32) : Kq true (M_Mo_closure_ l1 l2 l3 l4 l5r l5 l6) := by
  unfold M_Mo_closure_
  repeat' (first | with_reducible (first | apply kq_B | apply kq_C | exact kq_Mo_bx _ | exact kq_Mo_closure__L31 _ | exact kq_Mo_closure _ _ _ | exact kq_Va_set _ _ _ _ _ | exact kq_R _ | exact kq_GI _ _ | exact kq_AI _ _ _ _ | apply kq_W | (refine kq_PI ?_) | apply kq_E | intro _) | omega)
