/-! Made by wip/l2n/ygen.py: the reference's programs leave the class's state alone. -/
theorem yk_Mo_arithmetic_j106 (l4 : Int32) (l5 : Int32) (l6r : Nat) (l6 : Int32) (l7 : Int32) (l8 : Int32) (l9 : Int64) (l11 : Int32) (l12 : Int64) (h2 : l6r < 98) : Yk (M_Mo_arithmetic_j106 l4 l5 l6r l6 l7 l8 l9 l11 l12) := by
  unfold M_Mo_arithmetic_j106
  repeat' with_reducible (first | apply yk_C | exact yk_Mo_arithmetic_j172 _ _ _ _ _ _ (by omega) | exact yk_Mo_arithmetic_j188 _ _ _ _ _ _ (by omega) | exact yk_Mo_arithmetic_j118 _ _ _ _ _ _ | intro _)
theorem yk_Mo_arithmetic (l1 : Int32) (l2 : Int32) (l3 : Int32) (l4 : Int32) (l5 : Int32) (l6r : Nat) (l6 : Int32) (l7 : Int32) (h5 : l6r < 98) : Yk (M_Mo_arithmetic l1 l2 l3 l4 l5 l6r l6 l7) := by
  unfold M_Mo_arithmetic
  repeat' with_reducible (first | apply yk_B | apply yk_C | exact yk_Mo_b _ | exact yk_Mo_rk_ _ _ _ _ | exact yk_Mo_c _ | exact yk_Mo_arithmetic_j106 _ _ _ _ _ _ _ _ _ (by omega) | exact yk_GI _ _ | exact yk_GL _ _ | exact yk_AI _ _ _ _ | exact yk_AL _ _ _ _ | intro _)
theorem yk_Mo_length (l1 : Int32) (l2 : Int32) (l3 : Int64) (l5r : Nat) (l5 : Int32) (l6 : Int32) (h3 : l5r < 98) : Yk (M_Mo_length l1 l2 l3 l5r l5 l6) := by
  unfold M_Mo_length
  repeat' with_reducible (first | apply yk_B | apply yk_C | exact yk_Va_set _ _ _ _ _ (by omega) | exact yk_Mo_meta _ _ _ | exact yk_Mo_border _ | exact yk_Va_add _ _ _ _ (by omega) | exact yk_Mo_expect _ _ _ | exact yk_Mo_raise _ | exact yk_R _ | exact yk_GI _ _ | exact yk_GL _ _ | exact yk_PI (by omega) | exact yk_PL (by omega) | exact yk_AI _ _ _ _ | intro _)
theorem yk_Mo_compare_j261 (l6 : Int32) (l7 : Int64) (l9 : Int32) (l10 : Int64) (k0 : Int32) : Yk (M_Mo_compare_j261 l6 l7 l9 l10 k0) := by
  unfold M_Mo_compare_j261
  repeat' with_reducible (first | apply yk_B | apply yk_C | exact yk_Mo_either _ _ _ _ _ | exact yk_Mo_raise _ | exact yk_R _ | intro _)
theorem yk_Mo_compare_j235 (l4 : Int32) (l5 : Int32) (l6 : Int32) (l7 : Int64) (l9 : Int32) (l10 : Int64) : Yk (M_Mo_compare_j235 l4 l5 l6 l7 l9 l10) := by
  unfold M_Mo_compare_j235
  repeat' with_reducible (first | apply yk_B | apply yk_C | exact yk_Mo_a _ | exact yk_Mo_expect _ _ _ | exact yk_Mo_compare_j261 _ _ _ _ _ | intro _)
theorem yk_Mo_compare_j298 (l1 : Int32) (l2 : Int32) (k0 : Int32) (k1 : Int32) : Yk (M_Mo_compare_j298 l1 l2 k0 k1) := by
  unfold M_Mo_compare_j298
  repeat' with_reducible (first | apply yk_B | apply yk_C | exact yk_R _ | exact yk_AI _ _ _ _ | exact yk_SI (by omega) | intro _)
theorem yk_Mo_compare_j282 (l1 : Int32) (l2 : Int32) (l4 : Int32) (l12 : Int32) : Yk (M_Mo_compare_j282 l1 l2 l4 l12) := by
  unfold M_Mo_compare_j282
  repeat' with_reducible (first | apply yk_B | apply yk_C | exact yk_Mo_a _ | exact yk_Mo_compare_j298 _ _ _ _ | intro _)
theorem yk_Mo_compare_j230 (l1 : Int32) (l2 : Int32) (l4 : Int32) (k0 : Int32) : Yk (M_Mo_compare_j230 l1 l2 l4 k0) := by
  unfold M_Mo_compare_j230
  repeat' with_reducible (first | exact yk_Mo_compare_j282 _ _ _ _ | intro _)
theorem yk_Mo_compare_j176 (l1 : Int32) (l2 : Int32) (l4 : Int32) (l5 : Int32) (l6 : Int32) (l7 : Int64) (l9 : Int32) (l10 : Int64) : Yk (M_Mo_compare_j176 l1 l2 l4 l5 l6 l7 l9 l10) := by
  unfold M_Mo_compare_j176
  repeat' with_reducible (first | apply yk_B | apply yk_C | exact yk_Mo_order _ _ | exact yk_Mo_compare_j230 _ _ _ _ | exact yk_Mo_compare_j235 _ _ _ _ _ _ | intro _)
theorem yk_Mo_compare_j171 (l1 : Int32) (l2 : Int32) (l4 : Int32) (k0 : Int32) : Yk (M_Mo_compare_j171 l1 l2 l4 k0) := by
  unfold M_Mo_compare_j171
  repeat' with_reducible (first | exact yk_Mo_compare_j282 _ _ _ _ | intro _)
theorem yk_Mo_compare_j75 (l1 : Int32) (l2 : Int32) (l4 : Int32) (l6 : Int32) (l7 : Int64) (l9 : Int32) (l10 : Int64) (k0 : Int32) : Yk (M_Mo_compare_j75 l1 l2 l4 l6 l7 l9 l10 k0) := by
  unfold M_Mo_compare_j75
  repeat' with_reducible (first | apply yk_B | apply yk_C | exact yk_Mo_a _ | exact yk_Mo_expect _ _ _ | exact yk_Mo_either _ _ _ _ _ | exact yk_Mo_compare_j282 _ _ _ _ | exact yk_R _ | intro _)
theorem yk_Mo_compare_j74 (l1 : Int32) (l2 : Int32) (l4 : Int32) (l6 : Int32) (l7 : Int64) (l9 : Int32) (l10 : Int64) : Yk (M_Mo_compare_j74 l1 l2 l4 l6 l7 l9 l10) := by
  unfold M_Mo_compare_j74
  repeat' with_reducible (first | exact yk_Mo_compare_j75 _ _ _ _ _ _ _ _ | intro _)
theorem yk_Mo_compare (l1 : Int32) (l2 : Int32) (l3 : Int32) (l4 : Int32) (l5 : Int32) : Yk (M_Mo_compare l1 l2 l3 l4 l5) := by
  unfold M_Mo_compare
  repeat' with_reducible (first | apply yk_B | apply yk_C | exact yk_Mo_b _ | exact yk_Mo_rk_ _ _ _ _ | exact yk_Mo_c _ | exact yk_Mo_compare_j75 _ _ _ _ _ _ _ _ | exact yk_Mo_compare_j74 _ _ _ _ _ _ _ | exact yk_Mo_compare_j171 _ _ _ _ | exact yk_Mo_compare_j176 _ _ _ _ _ _ _ _ | exact yk_GI _ _ | exact yk_GL _ _ | intro _)
theorem yk_Mo_lookOver_j65 (l1 : Int32) (l2 : Int32) : Yk (M_Mo_lookOver_j65 l1 l2) := by
  unfold M_Mo_lookOver_j65
  repeat' with_reducible (first | exact yk_R _ | intro _)
theorem yk_Mo_lookOver_L19 (x) : Yk (M_Mo_lookOver_L19 x) := by
  unfold M_Mo_lookOver_L19
  repeat' with_reducible (first | apply yk_B | apply yk_C | exact yk_Mo_formed _ _ | exact yk_Mo_bad _ _ | exact yk_Mo_lookOver_j65 _ _ | exact yk_R _ | exact yk_GI _ _ | exact yk_AI _ _ _ _ | intro _)
theorem yk_Mo_lookOver_j71 (l1 : Int32) : Yk (M_Mo_lookOver_j71 l1) := by
  unfold M_Mo_lookOver_j71
  repeat' with_reducible (first | exact yk_R _ | intro _)
theorem yk_Mo_lookOver_L2 (x) : Yk (M_Mo_lookOver_L2 x) := by
  unfold M_Mo_lookOver_L2
  repeat' with_reducible (first | apply yk_B | apply yk_C | exact yk_Mo_lookOver_L19 _ | exact yk_Mo_lookOver_j71 _ | exact yk_R _ | exact yk_GI _ _ | apply yk_W | intro _)
theorem yk_Mo_lookOver  : Yk (M_Mo_lookOver) := by
  unfold M_Mo_lookOver
  repeat' with_reducible (first | apply yk_B | exact yk_Mo_lookOver_L2 _ | exact yk_R _ | apply yk_W | intro _)
theorem yk_Mo_collection_j61 (l1 : Int32) : Yk (M_Mo_collection_j61 l1) := by
  unfold M_Mo_collection_j61
  repeat' with_reducible (first | exact yk_R _ | intro _)
theorem yk_Mo_collection_L30 (x) : Yk (M_Mo_collection_L30 x) := by
  unfold M_Mo_collection_L30
  repeat' with_reducible (first | apply yk_B | apply yk_C | exact yk_Mo_collection_j61 _ | exact yk_Mo_place _ | exact yk_R _ | exact yk_GI _ _ | exact yk_AI _ _ _ _ | intro _)
theorem yk_Mo_collection_L104 (x) : Yk (M_Mo_collection_L104 x) := by
  unfold M_Mo_collection_L104
  repeat' with_reducible (first | apply yk_B | apply yk_C | exact yk_Mo_place _ | exact yk_R _ | exact yk_GI _ _ | exact yk_K _ | intro _)
theorem yk_Mo_collection_L218 (x) : Yk (M_Mo_collection_L218 x) := by
  unfold M_Mo_collection_L218
  repeat' with_reducible (first | apply yk_B | apply yk_C | exact yk_Mo_follow _ | exact yk_R _ | exact yk_GI _ _ | exact yk_PI (by omega) | exact yk_AI _ _ _ _ | intro _)
theorem yk_Mo_collection  : Yk (M_Mo_collection) := by
  unfold M_Mo_collection
  repeat' with_reducible (first | apply yk_B | exact yk_Arr_fill____ _ _ _ _ _ (by omega) | exact yk_Mo_collection_L30 _ | exact yk_Mo_place _ | exact yk_Mo_collection_L104 _ | exact yk_Mo_markRow _ _ _ _ | exact yk_Mo_mark _ _ | exact yk_Mo_collection_L218 _ | exact yk_Mo_sweep | exact yk_R _ | exact yk_GI _ _ | exact yk_GL _ _ | exact yk_PI (by omega) | exact yk_K _ | apply yk_W | intro _)
theorem yk_Mo_grow_j59 (l1 : Int32) (l2 : Int32) : Yk (M_Mo_grow_j59 l1 l2) := by
  unfold M_Mo_grow_j59
  repeat' with_reducible (first | apply yk_B | apply yk_C | exact yk_Mo_move _ _ _ | exact yk_Mo_raise _ | exact yk_R _ | exact yk_GI _ _ | exact yk_PI (by omega) | exact yk_AI _ _ _ _ | intro _)
theorem yk_Mo_grow_j21 (l1 : Int32) (k0 : Int32) : Yk (M_Mo_grow_j21 l1 k0) := by
  unfold M_Mo_grow_j21
  repeat' with_reducible (first | apply yk_B | apply yk_C | exact yk_Mo_grow_j59 _ _ | exact yk_Mo_collection | exact yk_Mo_raise _ | exact yk_R _ | exact yk_GI _ _ | intro _)
theorem yk_Mo_grow (l1 : Int32) : Yk (M_Mo_grow l1) := by
  unfold M_Mo_grow
  repeat' with_reducible (first | apply yk_B | apply yk_C | exact yk_Mo_grow_j21 _ _ | exact yk_AI _ _ _ _ | intro _)
theorem yk_Mo_collect_j19 (k0 : Int32) (k1 : Int32) : Yk (M_Mo_collect_j19 k0 k1) := by
  unfold M_Mo_collect_j19
  repeat' with_reducible (first | apply yk_B | apply yk_C | exact yk_Mo_refuse _ _ | exact yk_Mo_collection | exact yk_R _ | exact yk_GI _ _ | intro _)
theorem yk_Mo_collect  : Yk (M_Mo_collect) := by
  unfold M_Mo_collect
  repeat' with_reducible (first | apply yk_B | apply yk_C | exact yk_Mo_collect_j19 _ _ | exact yk_GI _ _ | exact yk_PI (by omega) | intro _)
theorem yk_Mo_may_j82  : Yk (M_Mo_may_j82) := by
  unfold M_Mo_may_j82
  repeat' with_reducible (first | apply yk_B | exact yk_Mo_raise _ | exact yk_R _ | intro _)
theorem yk_Mo_may_j56 (l1 : Int32) : Yk (M_Mo_may_j56 l1) := by
  unfold M_Mo_may_j56
  repeat' with_reducible (first | apply yk_B | apply yk_C | exact yk_Mo_may_j82 | exact yk_R _ | exact yk_GI _ _ | intro _)
theorem yk_Mo_may_j45 (l1 : Int32) : Yk (M_Mo_may_j45 l1) := by
  unfold M_Mo_may_j45
  repeat' with_reducible (first | apply yk_B | apply yk_C | exact yk_Mo_collection | exact yk_Mo_may_j56 _ | exact yk_GI _ _ | intro _)
theorem yk_Mo_may (l1 : Int32) : Yk (M_Mo_may l1) := by
  unfold M_Mo_may
  repeat' with_reducible (first | apply yk_B | apply yk_C | exact yk_Mo_raise _ | exact yk_Mo_may_j45 _ | exact yk_R _ | exact yk_GI _ _ | intro _)
theorem yk_Mo_newVariable  : Yk (M_Mo_newVariable) := by
  unfold M_Mo_newVariable
  repeat' with_reducible (first | apply yk_B | apply yk_C | exact yk_Mo_may _ | exact yk_Mo_object _ | exact yk_Va_set _ _ _ _ _ (by omega) | exact yk_R _ | exact yk_SI (by omega) | intro _)
theorem yk_Mo_put_j192 (l1 : Int32) (l2 : Int32) (l3 : Int64) (l5 : Int32) (l6 : Int64) : Yk (M_Mo_put_j192 l1 l2 l3 l5 l6) := by
  unfold M_Mo_put_j192
  repeat' with_reducible (first | apply yk_B | exact yk_Mo_append _ _ _ _ _ | exact yk_R _ | intro _)
theorem yk_Mo_put_j174 (l1 : Int32) (l2 : Int32) (l3 : Int64) (l5 : Int32) (l6 : Int64) (l9 : Int32) (k0 : Int32) : Yk (M_Mo_put_j174 l1 l2 l3 l5 l6 l9 k0) := by
  unfold M_Mo_put_j174
  repeat' with_reducible (first | apply yk_B | apply yk_C | exact yk_Mo_put_j192 _ _ _ _ _ | exact yk_R _ | exact yk_PI (by omega) | intro _)
theorem yk_Mo_put_j169 (l1 : Int32) (l2 : Int32) (l3 : Int64) (l5 : Int32) (l6 : Int64) (l9 : Int32) : Yk (M_Mo_put_j169 l1 l2 l3 l5 l6 l9) := by
  unfold M_Mo_put_j169
  repeat' with_reducible (first | exact yk_Mo_put_j174 _ _ _ _ _ _ _ | intro _)
theorem yk_Mo_put_j161 (l1 : Int32) (l2 : Int32) (l3 : Int64) (l5 : Int32) (l6 : Int64) (l9 : Int32) : Yk (M_Mo_put_j161 l1 l2 l3 l5 l6 l9) := by
  unfold M_Mo_put_j161
  repeat' with_reducible (first | apply yk_B | apply yk_C | exact yk_Mo_grow _ | exact yk_Mo_put_j174 _ _ _ _ _ _ _ | exact yk_Mo_put_j169 _ _ _ _ _ _ | intro _)
theorem yk_Mo_put_j96 (l1 : Int32) (l2 : Int32) (l3 : Int64) (l5 : Int32) (l6 : Int64) : Yk (M_Mo_put_j96 l1 l2 l3 l5 l6) := by
  unfold M_Mo_put_j96
  repeat' with_reducible (first | apply yk_B | apply yk_C | exact yk_Va_add _ _ _ _ (by omega) | exact yk_Mo_put_j161 _ _ _ _ _ _ | exact yk_Mo_put_j169 _ _ _ _ _ _ | exact yk_GI _ _ | exact yk_AI _ _ _ _ | intro _)
theorem yk_Mo_put (l1 : Int32) (l2 : Int32) (l3 : Int64) (l5 : Int32) (l6 : Int64) : Yk (M_Mo_put l1 l2 l3 l5 l6) := by
  unfold M_Mo_put
  repeat' with_reducible (first | apply yk_B | apply yk_C | exact yk_Mo_raise _ | exact yk_Mo_entry _ _ _ | exact yk_Mo_put_j96 _ _ _ _ _ | exact yk_Mo_move _ _ _ | exact yk_Mo_put_j192 _ _ _ _ _ | exact yk_R _ | exact yk_GI _ _ | exact yk_AI _ _ _ _ | exact yk_SI (by omega) | exact yk_SL (by omega) | exact yk_K _ | intro _)
theorem yk_Mo_closure_L95 (x) : Yk (M_Mo_closure_L95 x) := by
  unfold M_Mo_closure_L95
  repeat' with_reducible (first | apply yk_B | apply yk_C | exact yk_R _ | exact yk_GI _ _ | exact yk_AI _ _ _ _ | exact yk_SI (by omega) | exact yk_K _ | intro _)
theorem yk_Mo_closure_j83 (l3 : Int32) (l4 : Int32) (k0 : Int32) (k1 : Int32) : Yk (M_Mo_closure_j83 l3 l4 k0 k1) := by
  unfold M_Mo_closure_j83
  repeat' with_reducible (first | apply yk_B | exact yk_Mo_closure_L95 _ | exact yk_R _ | exact yk_GI _ _ | exact yk_PI (by omega) | exact yk_SI (by omega) | apply yk_W | intro _)
theorem yk_Mo_closure (l1 : Int32) (l2 : Int32) (l3 : Int32) : Yk (M_Mo_closure l1 l2 l3) := by
  unfold M_Mo_closure
  repeat' with_reducible (first | apply yk_B | apply yk_C | exact yk_Mo_may _ | exact yk_Mo_object _ | exact yk_Mo_closure_j83 _ _ _ _ | exact yk_Mo_raise _ | exact yk_R _ | exact yk_GI _ _ | exact yk_PI (by omega) | exact yk_SI (by omega) | intro _)
theorem yk_Mo_thread__L12 (x) : Yk (M_Mo_thread__L12 x) := by
  unfold M_Mo_thread__L12
  repeat' with_reducible (first | apply yk_B | apply yk_C | exact yk_R _ | exact yk_GI _ _ | exact yk_K _ | intro _)
theorem yk_Mo_thread_  : Yk (M_Mo_thread_) := by
  unfold M_Mo_thread_
  repeat' with_reducible (first | apply yk_B | apply yk_C | exact yk_Mo_may _ | exact yk_Mo_thread__L12 _ | exact yk_Mo_object _ | exact yk_Th_begin _ _ | exact yk_R _ | exact yk_GI _ _ | exact yk_PI (by omega) | exact yk_SI (by omega) | exact yk_K _ | apply yk_W | intro _)
theorem yk_Mo_rawOf_j33 (l1 : Int32) : Yk (M_Mo_rawOf_j33 l1) := by
  unfold M_Mo_rawOf_j33
  repeat' with_reducible (first | apply yk_B | apply yk_C | exact yk_Mo_is _ _ | exact yk_Mo_raise _ | exact yk_Mo_av _ | exact yk_Mo_ak _ | exact yk_Mo_raw _ _ _ | exact yk_Mo_give _ _ | exact yk_Mo_put _ _ _ _ _ | exact yk_Mo_border _ | exact yk_R _ | exact yk_GI _ _ | exact yk_GL _ _ | intro _)
theorem yk_Mo_rawOf (l1 : Int32) : Yk (M_Mo_rawOf l1) := by
  unfold M_Mo_rawOf
  repeat' with_reducible (first | apply yk_B | apply yk_C | exact yk_Mo_is _ _ | exact yk_Mo_rawOf_j33 _ | exact yk_Mo_av _ | exact yk_Mo_give _ _ | exact yk_R _ | exact yk_AI _ _ _ _ | intro _)
theorem yk_Mo_create (l1 : Int32) : Yk (M_Mo_create l1) := by
  unfold M_Mo_create
  repeat' with_reducible (first | apply yk_B | apply yk_C | exact yk_Mo_is _ _ | exact yk_Mo_raise _ | exact yk_Mo_thread_ | exact yk_Va_add_ _ _ _ _ _ (by omega) | exact yk_Mo_give _ _ | exact yk_Va_add _ _ _ _ (by omega) | exact yk_Mo_closure _ _ _ | exact yk_R _ | exact yk_GI _ _ | exact yk_PI (by omega) | exact yk_AI _ _ _ _ | exact yk_K _ | intro _)
theorem yk_Mo_write_L9 (x) : Yk (M_Mo_write_L9 x) := by
  unfold M_Mo_write_L9
  repeat' with_reducible (first | apply yk_B | apply yk_C | exact yk_Mo_raw _ _ _ | exact yk_Mo_meta _ _ _ | exact yk_R _ | exact yk_GI _ _ | exact yk_GL _ _ | intro _)
theorem yk_Mo_write_j48 (l4 : Int32) (l5 : Int64) (l7 : Int32) (l8 : Int64) (l11 : Int64) : Yk (M_Mo_write_j48 l4 l5 l7 l8 l11) := by
  unfold M_Mo_write_j48
  repeat' with_reducible (first | apply yk_B | exact yk_Mo_put _ _ _ _ _ | exact yk_R _ | intro _)
theorem yk_Mo_write (l1 : Int32) (l2 : Int64) (l4 : Int32) (l5 : Int64) (l7 : Int32) (l8 : Int64) : Yk (M_Mo_write l1 l2 l4 l5 l7 l8) := by
  unfold M_Mo_write
  repeat' with_reducible (first | apply yk_B | exact yk_Mo_write_L9 _ | exact yk_Mo_raise _ | exact yk_Mo_write_j48 _ _ _ _ _ | exact yk_Mo_arguments _ _ _ _ | exact yk_Va_add _ _ _ _ (by omega) | exact yk_Mo_expect _ _ _ | exact yk_Mo_callGot | exact yk_R _ | apply yk_W | apply yk_E | intro _)
theorem yk_Mo_list_j145 (l1 : Int32) (l2 : Int32) (l3 : Int32) (l4r : Nat) (l4 : Int32) (l5 : Int32) (l6 : Int32) (l7 : Int32) (l9r : Nat) (l9 : Int32) (k0 : Int32) : Yk (M_Mo_list_j145 l1 l2 l3 l4r l4 l5 l6 l7 l9r l9 k0) := by
  unfold M_Mo_list_j145
  repeat' with_reducible (first | apply yk_B | apply yk_C | exact yk_Mo_c _ | exact yk_Mo_put _ _ _ _ _ | exact yk_R _ | exact yk_AI _ _ _ _ | exact yk_AL _ _ _ _ | intro _)
theorem yk_Mo_list_j116 (l1 : Int32) (l2 : Int32) (l3 : Int32) (l4r : Nat) (l4 : Int32) (l5 : Int32) (l6 : Int32) (l7 : Int32) (l8 : Int32) (k0r : Nat) (k0 : Int32) : Yk (M_Mo_list_j116 l1 l2 l3 l4r l4 l5 l6 l7 l8 k0r k0) := by
  unfold M_Mo_list_j116
  repeat' with_reducible (first | apply yk_B | apply yk_C | exact yk_Mo_list_j145 _ _ _ _ _ _ _ _ _ _ _ | exact yk_Mo_a _ | exact yk_AI _ _ _ _ | intro _)
theorem yk_Mo_list_j100 (l1 : Int32) (l2 : Int32) (l3 : Int32) (l4r : Nat) (l4 : Int32) (l5 : Int32) (l6 : Int32) (l7 : Int32) (k0 : Int32) : Yk (M_Mo_list_j100 l1 l2 l3 l4r l4 l5 l6 l7 k0) := by
  unfold M_Mo_list_j100
  repeat' with_reducible (first | apply yk_C | exact yk_Mo_list_j116 _ _ _ _ _ _ _ _ _ _ _ | intro _)
theorem yk_Mo_list_j99 (l1 : Int32) (l2 : Int32) (l3 : Int32) (l4r : Nat) (l4 : Int32) (l5 : Int32) (l6 : Int32) (l7 : Int32) : Yk (M_Mo_list_j99 l1 l2 l3 l4r l4 l5 l6 l7) := by
  unfold M_Mo_list_j99
  repeat' with_reducible (first | exact yk_Mo_list_j100 _ _ _ _ _ _ _ _ _ | intro _)
theorem yk_Mo_list_L65 (x) : Yk (M_Mo_list_L65 x) := by
  unfold M_Mo_list_L65
  repeat' with_reducible (first | apply yk_B | apply yk_C | exact yk_Mo_b _ | exact yk_Mo_a _ | exact yk_Mo_list_j99 _ _ _ _ _ _ _ _ | exact yk_Mo_list_j100 _ _ _ _ _ _ _ _ _ | exact yk_R _ | exact yk_AI _ _ _ _ | intro _)
theorem yk_Mo_list_j199 (l1 : Int32) (l2 : Int32) : Yk (M_Mo_list_j199 l1 l2) := by
  unfold M_Mo_list_j199
  repeat' with_reducible (first | apply yk_B | exact yk_R _ | exact yk_SI (by omega) | intro _)
theorem yk_Mo_list_j34 (l1 : Int32) (l2 : Int32) (l3 : Int32) (l4r : Nat) (l4 : Int32) (l5 : Int32) (k0 : Int32) : Yk (M_Mo_list_j34 l1 l2 l3 l4r l4 l5 k0) := by
  unfold M_Mo_list_j34
  repeat' with_reducible (first | apply yk_B | apply yk_C | exact yk_Mo_list_L65 _ | exact yk_Mo_list_j199 _ _ | exact yk_Mo_raise _ | exact yk_R _ | exact yk_AI _ _ _ _ | exact yk_SI (by omega) | apply yk_W | apply yk_E | intro _)
theorem yk_Mo_list (l1 : Int32) (l2 : Int32) (l3 : Int32) (l4r : Nat) (l4 : Int32) (l5 : Int32) : Yk (M_Mo_list l1 l2 l3 l4r l4 l5) := by
  unfold M_Mo_list
  repeat' with_reducible (first | apply yk_B | apply yk_C | exact yk_Mo_b _ | exact yk_Mo_a _ | exact yk_Mo_list_j34 _ _ _ _ _ _ _ | exact yk_AI _ _ _ _ | intro _)
theorem yk_Mo_variableAt_L2 (x) : Yk (M_Mo_variableAt_L2 x) := by
  unfold M_Mo_variableAt_L2
  repeat' with_reducible (first | apply yk_B | apply yk_C | exact yk_R _ | exact yk_GI _ _ | exact yk_AI _ _ _ _ | intro _)
theorem yk_Mo_variableAt (l1 : Int32) (l2 : Int32) : Yk (M_Mo_variableAt l1 l2) := by
  unfold M_Mo_variableAt
  repeat' with_reducible (first | apply yk_B | apply yk_C | exact yk_Mo_variableAt_L2 _ | exact yk_Mo_may _ | exact yk_Mo_object _ | exact yk_Mo_thread _ | exact yk_R _ | exact yk_GI _ _ | exact yk_PI (by omega) | exact yk_AI _ _ _ _ | exact yk_SI (by omega) | apply yk_W | apply yk_E | intro _)
theorem yk_Mo_table  : Yk (M_Mo_table) := by
  unfold M_Mo_table
  repeat' with_reducible (first | apply yk_B | apply yk_C | exact yk_Mo_may _ | exact yk_Mo_object _ | exact yk_R _ | exact yk_SI (by omega) | intro _)
theorem yk_Mo_small_j133 (l1 : Int32) (l2 : Int32) (l4 : Int32) (k0 : Int32) (k1 : Int32) (k2r : Nat) (k2 : Int32) (h5 : k2r < 98) : Yk (M_Mo_small_j133 l1 l2 l4 k0 k1 k2r k2) := by
  unfold M_Mo_small_j133
  repeat' with_reducible (first | apply yk_B | apply yk_C | exact yk_Va_set _ _ _ _ _ (by omega) | exact yk_Mo_c _ | exact yk_R _ | exact yk_AI _ _ _ _ | exact yk_SI (by omega) | intro _)
theorem yw_Mo_small_L161 (x) (h : x.2.1 < 98) : Yk (oW M_Mo_small_L161 x) := by
  refine (yp_W (I := fun x => x.2.1 < 98) (J := fun _ => True) (fun x hx => ?_) _ h).k
  unfold M_Mo_small_L161
  exact yp_B (yk_Mo_b _).p fun _ _ => yp_C (yp_R trivial) (yp_B (yk_Va_set _ _ _ _ _ hx).p fun _ _ => yp_R hx)
theorem yk_Mo_small (l1 : Int32) (l2 : Int32) (l3 : Int32) (l4 : Int32) (l5 : Int32) (l6r : Nat) (l6 : Int32) (l7 : Int32) (h5 : l6r < 98) : Yk (M_Mo_small l1 l2 l3 l4 l5 l6r l6 l7) := by
  unfold M_Mo_small
  repeat' with_reducible (first | apply yk_B | apply yk_C | exact yw_Mo_small_L161 _ (by dsimp only; omega) | exact yk_Mo_b _ | exact yk_Va_set_ _ _ _ _ _ _ (by omega) | exact yk_Mo_bx _ | exact yk_Mo_constant _ _ | exact yk_Va_set _ _ _ _ _ (by omega) | exact yk_Mo_small_j133 _ _ _ _ _ _ _ (by omega) | exact yk_Mo_up _ _ _ | exact yk_Mo_load _ | exact yk_Mo_c _ | exact yk_Mo_rk_ _ _ _ _ | exact yk_Mo_a _ | exact yk_Mo_index _ _ _ _ _ | exact yk_Mo_write _ _ _ _ _ _ | exact yk_Mo_store _ _ _ | exact yk_Mo_table | exact yk_R _ | exact yk_GI _ _ | exact yk_GL _ _ | exact yk_AI _ _ _ _ | exact yk_AL _ _ _ _ | apply yk_W | intro _)
theorem yk_Mo_closure__j97 (l1 : Int32) (l2 : Int32) (l5r : Nat) (l5 : Int32) (l6 : Int32) (l7 : Int32) (l8 : Int32) (l9 : Int32) (k0 : Int32) : Yk (M_Mo_closure__j97 l1 l2 l5r l5 l6 l7 l8 l9 k0) := by
  unfold M_Mo_closure__j97
  repeat' with_reducible (first | apply yk_B | apply yk_C | exact yk_Va_add _ _ _ _ (by omega) | exact yk_R _ | exact yk_SI (by omega) | intro _)
theorem yk_Mo_closure__L31 (x) : Yk (M_Mo_closure__L31 x) := by
  unfold M_Mo_closure__L31
  repeat' with_reducible (first | apply yk_B | apply yk_C | exact yk_Mo_variableAt _ _ | exact yk_Mo_closure__j97 _ _ _ _ _ _ _ _ _ | exact yk_Mo_up _ _ _ | exact yk_R _ | exact yk_AI _ _ _ _ | intro _)
theorem yk_Mo_closure_ (l1 : Int32) (l2 : Int32) (l3 : Int32) (l4 : Int32) (l5r : Nat) (l5 : Int32) (l6 : Int32) (h4 : l5r < 98) : Yk (M_Mo_closure_ l1 l2 l3 l4 l5r l5 l6) := by
  have j97 : ∀ (a b : Int32) (r : Nat) (d e f g i k : Int32), r < 98 → Yp (Sum.elim (fun y => y.2.2.1 < 98) (Sum.elim (fun _ => True) (fun y => y.1 < 98))) (M_Mo_closure__j97 a b r d e f g i k) := fun a b r d e f g i k h => by
    unfold M_Mo_closure__j97
    exact yp_C (yp_B (yk_SI (by decide)).p fun _ _ => yp_B (yk_Va_add _ _ _ _ (by decide)).p fun _ _ => yp_R h) (yp_R trivial)
  have lp : ∀ x, x.2.2.1 < 98 → Yp (Sum.elim (fun _ => True) (fun y => y.1 < 98)) (oW M_Mo_closure__L31 x) := fun x hx => by
    refine yp_W (I := fun x => x.2.2.1 < 98) (fun x hx => ?_) x hx
    unfold M_Mo_closure__L31
    exact yp_B (yk_AI _ _ _ _).p fun _ _ => yp_C (yp_R hx) (yp_B (yk_AI _ _ _ _).p fun _ _ => yp_B (yk_AI _ _ _ _).p fun _ _ => yp_C (yp_B (yk_AI _ _ _ _).p fun _ _ => yp_B (yk_Mo_variableAt _ _).p fun _ _ => j97 _ _ _ _ _ _ _ _ _ hx) (yp_B (yk_Mo_up _ _ _).p fun _ _ => j97 _ _ _ _ _ _ _ _ _ hx))
  unfold M_Mo_closure_
  refine yk_B (yk_AI _ _ _ _) fun _ => yk_B (yk_Mo_bx _) fun _ => yk_B (yk_AI _ _ _ _) fun _ => yk_B (yk_GI _ _) fun _ => (yp_B (K := fun _ => True) (lp _ h4) fun e he => ?_).k
  rcases e with e | e
  · exact Yk.p (yk_B (yk_PI (by decide)) fun _ => yk_R _)
  · have he' : e.1 < 98 := he
    clear he
    simp only [Sum.elim_inr]
    apply Yk.p
    repeat' with_reducible (first | apply yk_B | apply yk_C | exact yk_Mo_closure _ _ _ | exact yk_Va_set _ _ _ _ _ he' | exact yk_AI _ _ _ _ | exact yk_PI (by decide) | exact yk_R _ | intro _)
theorem yk_Mo_high_j303 (l1 : Int32) (l2 : Int32) (l4 : Int32) (l8 : Int32) (l9 : Int32) (k0 : Int32) (k1 : Int32) (k2 : Int32) : Yk (M_Mo_high_j303 l1 l2 l4 l8 l9 k0 k1 k2) := by
  unfold M_Mo_high_j303
  repeat' with_reducible (first | apply yk_B | exact yk_Mo_addAt _ _ _ _ _ _ (by omega) | exact yk_R _ | intro _)
theorem yk_Mo_high_L276 (x) : Yk (M_Mo_high_L276 x) := by
  unfold M_Mo_high_L276
  repeat' with_reducible (first | apply yk_B | apply yk_C | exact yk_Mo_b _ | exact yk_Mo_high_j303 _ _ _ _ _ _ _ _ | exact yk_R _ | intro _)
theorem yk_Mo_high_j235 (l1 : Int32) (l2 : Int32) (l4 : Int32) (k0 : Int32) : Yk (M_Mo_high_j235 l1 l2 l4 k0) := by
  unfold M_Mo_high_j235
  repeat' with_reducible (first | apply yk_B | apply yk_C | exact yk_Mo_a _ | exact yk_Mo_high_L276 _ | exact yk_Mo_close _ _ | exact yk_Mo_raise _ | exact yk_R _ | exact yk_GI _ _ | exact yk_PI (by omega) | exact yk_AI _ _ _ _ | exact yk_SI (by omega) | apply yk_W | intro _)
theorem yk_Mo_high_j405  : Yk (M_Mo_high_j405) := by
  unfold M_Mo_high_j405
  repeat' with_reducible (first | apply yk_B | exact yk_Mo_raise _ | exact yk_R _ | intro _)
theorem yk_Mo_high (l1 : Int32) (l2 : Int32) (l3 : Int32) (l4 : Int32) (l5 : Int32) (l6r : Nat) (l6 : Int32) (l7 : Int32) (h5 : l6r < 98) : Yk (M_Mo_high l1 l2 l3 l4 l5 l6r l6 l7) := by
  unfold M_Mo_high
  repeat' with_reducible (first | apply yk_B | apply yk_C | exact yk_Mo_a _ | exact yk_Mo_b _ | exact yk_Mo_gather _ _ _ _ | exact yk_Mo_c _ | exact yk_Mo_expect _ _ _ | exact yk_Mo_close _ _ | exact yk_Mo_high_j235 _ _ _ _ | exact yk_Mo_loop _ _ _ _ _ _ (by omega) | exact yk_Mo_sbx _ | exact yk_Mo_high_j405 | exact yk_Va_add_ _ _ _ _ _ (by omega) | exact yk_Va_set_ _ _ _ _ _ _ (by omega) | exact yk_Mo_list _ _ _ _ _ _ | exact yk_Mo_closure_ _ _ _ _ _ _ _ (by omega) | exact yk_Mo_further _ _ _ _ _ _ _ (by omega) | exact yk_R _ | exact yk_GI _ _ | exact yk_PI (by omega) | exact yk_PL (by omega) | exact yk_AI _ _ _ _ | exact yk_AL _ _ _ _ | exact yk_SI (by omega) | exact yk_SL (by omega) | intro _)
theorem yk_Mo_string_j86 (l1r : Nat) (l1 : Int32) (l2 : Int32) (l3 : Int32) (l4 : Int32) (l5 : Int32) (l7 : Int32) (k0 : Int32) : Yk (M_Mo_string_j86 l1r l1 l2 l3 l4 l5 l7 k0) := by
  unfold M_Mo_string_j86
  repeat' with_reducible (first | exact yk_R _ | intro _)
theorem yk_Mo_string_L46 (x) : Yk (M_Mo_string_L46 x) := by
  unfold M_Mo_string_L46
  repeat' with_reducible (first | apply yk_B | apply yk_C | exact yk_Mo_string_j86 _ _ _ _ _ _ _ _ | exact yk_R _ | exact yk_AI _ _ _ _ | intro _)
theorem yk_Mo_string_j94 (l1r : Nat) (l1 : Int32) (l2 : Int32) (l3 : Int32) (l4 : Int32) (l5 : Int32) (l6 : Int32) : Yk (M_Mo_string_j94 l1r l1 l2 l3 l4 l5 l6) := by
  unfold M_Mo_string_j94
  repeat' with_reducible (first | apply yk_B | apply yk_C | exact yk_R _ | exact yk_AI _ _ _ _ | apply yk_L | intro _)
theorem yk_Mo_string_j41 (l1r : Nat) (l1 : Int32) (l2 : Int32) (l3 : Int32) (l4 : Int32) (l5 : Int32) (k0 : Int32) : Yk (M_Mo_string_j41 l1r l1 l2 l3 l4 l5 k0) := by
  unfold M_Mo_string_j41
  repeat' with_reducible (first | apply yk_B | exact yk_Mo_string_L46 _ | exact yk_Mo_string_j94 _ _ _ _ _ _ _ | apply yk_W | intro _)
theorem yk_Mo_string_L20 (x) : Yk (M_Mo_string_L20 x) := by
  unfold M_Mo_string_L20
  repeat' with_reducible (first | apply yk_B | apply yk_C | exact yk_Mo_string_j41 _ _ _ _ _ _ _ | exact yk_R _ | exact yk_AI _ _ _ _ | intro _)
theorem yk_Mo_string (l1r : Nat) (l1 : Int32) (l2 : Int32) (l3 : Int32) : Yk (M_Mo_string l1r l1 l2 l3) := by
  unfold M_Mo_string
  repeat' with_reducible (first | apply yk_B | apply yk_C | exact yk_Mo_hash _ _ _ _ | exact yk_Mo_string_L20 _ | exact yk_Mo_may _ | exact yk_Mo_object _ | exact yk_Mo_raise _ | exact yk_R _ | exact yk_GI _ _ | exact yk_PI (by omega) | exact yk_AI _ _ _ _ | exact yk_SI (by omega) | exact yk_Pr _ _ | exact yk_CI (by omega) | apply yk_L | apply yk_W | apply yk_E | intro _)
theorem yk_Mo_say_ (l1 : Int32) (l2 : Int32) : Yk (M_Mo_say_ l1 l2) := by
  unfold M_Mo_say_
  repeat' with_reducible (first | apply yk_B | exact yk_R _ | exact yk_GI _ _ | exact yk_PI (by omega) | exact yk_CI (by omega) | intro _)
theorem yk_Mo_sub_j25  : Yk (M_Mo_sub_j25) := by
  unfold M_Mo_sub_j25
  repeat' with_reducible (first | apply yk_B | exact yk_Mo_raise _ | exact yk_R _ | intro _)
theorem yk_Mo_sub_j150 (k0 : Int32) : Yk (M_Mo_sub_j150 k0) := by
  unfold M_Mo_sub_j150
  repeat' with_reducible (first | apply yk_B | apply yk_C | exact yk_Mo_give _ _ | exact yk_R _ | intro _)
theorem yk_Mo_sub_j95 (l1 : Int32) (l2 : Int32) (l3 : Int64) (k0 : Int64) (k1 : Int64) : Yk (M_Mo_sub_j95 l1 l2 l3 k0 k1) := by
  unfold M_Mo_sub_j95
  repeat' with_reducible (first | apply yk_B | apply yk_C | exact yk_Mo_from _ _ | exact yk_Mth_min_ _ _ | exact yk_Mo_string _ _ _ _ | exact yk_Mo_sub_j150 _ | exact yk_AI _ _ _ _ | intro _)
theorem yk_Mo_sub_j65 (l1 : Int32) (l2 : Int32) (k0 : Int64) (k1 : Int64) : Yk (M_Mo_sub_j65 l1 l2 k0 k1) := by
  unfold M_Mo_sub_j65
  repeat' with_reducible (first | apply yk_B | apply yk_C | exact yk_Mo_from _ _ | exact yk_Mth_max_ _ _ | exact yk_Mo_is _ _ | exact yk_Mo_av _ | exact yk_Mo_sub_j95 _ _ _ _ _ | intro _)
theorem yk_Mo_sub  : Yk (M_Mo_sub) := by
  unfold M_Mo_sub
  repeat' with_reducible (first | apply yk_B | apply yk_C | exact yk_Mo_is _ _ | exact yk_Mo_sub_j25 | exact yk_Mo_integer _ | exact yk_Mo_av _ | exact yk_Mo_sub_j65 _ _ _ _ | exact yk_AI _ _ _ _ | intro _)
theorem yk_Mo_characters_L2 (x) : Yk (M_Mo_characters_L2 x) := by
  unfold M_Mo_characters_L2
  repeat' with_reducible (first | apply yk_B | apply yk_C | exact yk_Mo_is _ _ | exact yk_Mo_av _ | exact yk_R _ | exact yk_GI _ _ | exact yk_SI (by omega) | intro _)
theorem yk_Mo_characters_j51  : Yk (M_Mo_characters_j51) := by
  unfold M_Mo_characters_j51
  repeat' with_reducible (first | apply yk_B | exact yk_Mo_raise _ | exact yk_R _ | intro _)
theorem yk_Mo_characters  : Yk (M_Mo_characters) := by
  unfold M_Mo_characters
  repeat' with_reducible (first | apply yk_B | apply yk_C | exact yk_Mo_characters_L2 _ | exact yk_Mo_raise _ | exact yk_Mo_characters_j51 | exact yk_Mo_string _ _ _ _ | exact yk_Mo_give _ _ | exact yk_R _ | exact yk_GI _ _ | apply yk_W | apply yk_E | intro _)
theorem yk_Mo_word_L2 (x) : Yk (M_Mo_word_L2 x) := by
  unfold M_Mo_word_L2
  repeat' with_reducible (first | apply yk_B | apply yk_C | exact yk_R _ | exact yk_SI (by omega) | exact yk_K _ | intro _)
theorem yk_Mo_word (l1 : Nat) : Yk (M_Mo_word l1) := by
  unfold M_Mo_word
  repeat' with_reducible (first | apply yk_B | apply yk_C | exact yk_Mo_word_L2 _ | exact yk_Mo_string _ _ _ _ | exact yk_R _ | exact yk_SI (by omega) | apply yk_W | intro _)
theorem yk_Mo_say___L2 (x) : Yk (M_Mo_say___L2 x) := by
  unfold M_Mo_say___L2
  repeat' with_reducible (first | apply yk_B | apply yk_C | exact yk_Mo_say _ | exact yk_R _ | exact yk_K _ | intro _)
