/-! Made by wip/l2n/ugen.py: what was printed stays within its row. -/
theorem uk_Mo_compare_j282 (l1 : Int32) (l2 : Int32) (l4 : Int32) (l12 : Int32) : Uk (M_Mo_compare_j282 l1 l2 l4 l12) := by
  unfold M_Mo_compare_j282
  repeat' with_reducible (first | apply uk_B | apply uk_C | exact uk_Mo_a _ | exact uk_Mo_compare_j298 _ _ _ _ | intro _)
theorem uk_Mo_compare_j230 (l1 : Int32) (l2 : Int32) (l4 : Int32) (k0 : Int32) : Uk (M_Mo_compare_j230 l1 l2 l4 k0) := by
  unfold M_Mo_compare_j230
  repeat' with_reducible (first | exact uk_Mo_compare_j282 _ _ _ _ | intro _)
theorem uk_Mo_compare_j176 (l1 : Int32) (l2 : Int32) (l4 : Int32) (l5 : Int32) (l6 : Int32) (l7 : Int64) (l9 : Int32) (l10 : Int64) : Uk (M_Mo_compare_j176 l1 l2 l4 l5 l6 l7 l9 l10) := by
  unfold M_Mo_compare_j176
  repeat' with_reducible (first | apply uk_B | apply uk_C | exact uk_Mo_order _ _ | exact uk_Mo_compare_j230 _ _ _ _ | exact uk_Mo_compare_j235 _ _ _ _ _ _ | intro _)
theorem uk_Mo_compare_j171 (l1 : Int32) (l2 : Int32) (l4 : Int32) (k0 : Int32) : Uk (M_Mo_compare_j171 l1 l2 l4 k0) := by
  unfold M_Mo_compare_j171
  repeat' with_reducible (first | exact uk_Mo_compare_j282 _ _ _ _ | intro _)
theorem uk_Mo_compare_j75 (l1 : Int32) (l2 : Int32) (l4 : Int32) (l6 : Int32) (l7 : Int64) (l9 : Int32) (l10 : Int64) (k0 : Int32) : Uk (M_Mo_compare_j75 l1 l2 l4 l6 l7 l9 l10 k0) := by
  unfold M_Mo_compare_j75
  repeat' with_reducible (first | apply uk_B | apply uk_C | exact uk_Mo_a _ | exact uk_Mo_expect _ _ _ | exact uk_Mo_either _ _ _ _ _ | exact uk_Mo_compare_j282 _ _ _ _ | exact uk_R _ | intro _)
theorem uk_Mo_compare_j74 (l1 : Int32) (l2 : Int32) (l4 : Int32) (l6 : Int32) (l7 : Int64) (l9 : Int32) (l10 : Int64) : Uk (M_Mo_compare_j74 l1 l2 l4 l6 l7 l9 l10) := by
  unfold M_Mo_compare_j74
  repeat' with_reducible (first | exact uk_Mo_compare_j75 _ _ _ _ _ _ _ _ | intro _)
theorem uk_Mo_compare (l1 : Int32) (l2 : Int32) (l3 : Int32) (l4 : Int32) (l5 : Int32) : Uk (M_Mo_compare l1 l2 l3 l4 l5) := by
  unfold M_Mo_compare
  repeat' with_reducible (first | apply uk_B | apply uk_C | exact uk_Mo_b _ | exact uk_Mo_rk_ _ _ _ _ | exact uk_Mo_c _ | exact uk_Mo_compare_j75 _ _ _ _ _ _ _ _ | exact uk_Mo_compare_j74 _ _ _ _ _ _ _ | exact uk_Mo_compare_j171 _ _ _ _ | exact uk_Mo_compare_j176 _ _ _ _ _ _ _ _ | exact uk_GI _ _ | exact uk_GL _ _ | intro _)
theorem uk_Mo_lookOver_j65 (l1 : Int32) (l2 : Int32) : Uk (M_Mo_lookOver_j65 l1 l2) := by
  unfold M_Mo_lookOver_j65
  repeat' with_reducible (first | exact uk_R _ | intro _)
theorem uk_Mo_lookOver_L19 (x) : Uk (M_Mo_lookOver_L19 x) := by
  unfold M_Mo_lookOver_L19
  repeat' with_reducible (first | apply uk_B | apply uk_C | exact uk_Mo_formed _ _ | exact uk_Mo_bad _ _ | exact uk_Mo_lookOver_j65 _ _ | exact uk_R _ | exact uk_GI _ _ | exact uk_AI _ _ _ _ | intro _)
theorem uk_Mo_lookOver_j71 (l1 : Int32) : Uk (M_Mo_lookOver_j71 l1) := by
  unfold M_Mo_lookOver_j71
  repeat' with_reducible (first | exact uk_R _ | intro _)
theorem uk_Mo_lookOver_L2 (x) : Uk (M_Mo_lookOver_L2 x) := by
  unfold M_Mo_lookOver_L2
  repeat' with_reducible (first | apply uk_B | apply uk_C | exact uk_Mo_lookOver_L19 _ | exact uk_Mo_lookOver_j71 _ | exact uk_R _ | exact uk_GI _ _ | apply uk_W | intro _)
theorem uk_Mo_lookOver  : Uk (M_Mo_lookOver) := by
  unfold M_Mo_lookOver
  repeat' with_reducible (first | apply uk_B | exact uk_Mo_lookOver_L2 _ | exact uk_R _ | apply uk_W | intro _)
theorem uk_Mo_collection_j61 (l1 : Int32) : Uk (M_Mo_collection_j61 l1) := by
  unfold M_Mo_collection_j61
  repeat' with_reducible (first | exact uk_R _ | intro _)
theorem uk_Mo_collection_L30 (x) : Uk (M_Mo_collection_L30 x) := by
  unfold M_Mo_collection_L30
  repeat' with_reducible (first | apply uk_B | apply uk_C | exact uk_Mo_collection_j61 _ | exact uk_Mo_place _ | exact uk_R _ | exact uk_GI _ _ | exact uk_AI _ _ _ _ | intro _)
theorem uk_Mo_collection_L104 (x) : Uk (M_Mo_collection_L104 x) := by
  unfold M_Mo_collection_L104
  repeat' with_reducible (first | apply uk_B | apply uk_C | exact uk_Mo_place _ | exact uk_R _ | exact uk_GI _ _ | exact uk_K _ | intro _)
theorem uk_Mo_collection_L218 (x) : Uk (M_Mo_collection_L218 x) := by
  unfold M_Mo_collection_L218
  repeat' with_reducible (first | apply uk_B | apply uk_C | exact uk_Mo_follow _ | exact uk_R _ | exact uk_GI _ _ | exact uk_PI (by omega) | exact uk_AI _ _ _ _ | intro _)
theorem uk_Mo_collection  : Uk (M_Mo_collection) := by
  unfold M_Mo_collection
  repeat' with_reducible (first | apply uk_B | exact uk_Arr_fill____ _ _ _ _ _ | exact uk_Mo_collection_L30 _ | exact uk_Mo_place _ | exact uk_Mo_collection_L104 _ | exact uk_Mo_markRow _ _ _ _ | exact uk_Mo_mark _ _ | exact uk_Mo_collection_L218 _ | exact uk_Mo_sweep | exact uk_R _ | exact uk_GI _ _ | exact uk_GL _ _ | exact uk_PI (by omega) | exact uk_K _ | apply uk_W | intro _)
theorem uk_Mo_grow_j59 (l1 : Int32) (l2 : Int32) : Uk (M_Mo_grow_j59 l1 l2) := by
  unfold M_Mo_grow_j59
  repeat' with_reducible (first | apply uk_B | apply uk_C | exact uk_Mo_move _ _ _ | exact uk_Mo_raise _ | exact uk_R _ | exact uk_GI _ _ | exact uk_PI (by omega) | exact uk_AI _ _ _ _ | intro _)
theorem uk_Mo_grow_j21 (l1 : Int32) (k0 : Int32) : Uk (M_Mo_grow_j21 l1 k0) := by
  unfold M_Mo_grow_j21
  repeat' with_reducible (first | apply uk_B | apply uk_C | exact uk_Mo_grow_j59 _ _ | exact uk_Mo_collection | exact uk_Mo_raise _ | exact uk_R _ | exact uk_GI _ _ | intro _)
theorem uk_Mo_grow (l1 : Int32) : Uk (M_Mo_grow l1) := by
  unfold M_Mo_grow
  repeat' with_reducible (first | apply uk_B | apply uk_C | exact uk_Mo_grow_j21 _ _ | exact uk_AI _ _ _ _ | intro _)
theorem uk_Mo_collect_j19 (k0 : Int32) (k1 : Int32) : Uk (M_Mo_collect_j19 k0 k1) := by
  unfold M_Mo_collect_j19
  repeat' with_reducible (first | apply uk_B | apply uk_C | exact uk_Mo_refuse _ _ | exact uk_Mo_collection | exact uk_R _ | exact uk_GI _ _ | intro _)
theorem uk_Mo_collect  : Uk (M_Mo_collect) := by
  unfold M_Mo_collect
  repeat' with_reducible (first | apply uk_B | apply uk_C | exact uk_Mo_collect_j19 _ _ | exact uk_GI _ _ | exact uk_PI (by omega) | intro _)
theorem uk_Mo_may_j82  : Uk (M_Mo_may_j82) := by
  unfold M_Mo_may_j82
  repeat' with_reducible (first | apply uk_B | exact uk_Mo_raise _ | exact uk_R _ | intro _)
theorem uk_Mo_may_j56 (l1 : Int32) : Uk (M_Mo_may_j56 l1) := by
  unfold M_Mo_may_j56
  repeat' with_reducible (first | apply uk_B | apply uk_C | exact uk_Mo_may_j82 | exact uk_R _ | exact uk_GI _ _ | intro _)
theorem uk_Mo_may_j45 (l1 : Int32) : Uk (M_Mo_may_j45 l1) := by
  unfold M_Mo_may_j45
  repeat' with_reducible (first | apply uk_B | apply uk_C | exact uk_Mo_collection | exact uk_Mo_may_j56 _ | exact uk_GI _ _ | intro _)
theorem uk_Mo_may (l1 : Int32) : Uk (M_Mo_may l1) := by
  unfold M_Mo_may
  repeat' with_reducible (first | apply uk_B | apply uk_C | exact uk_Mo_raise _ | exact uk_Mo_may_j45 _ | exact uk_R _ | exact uk_GI _ _ | intro _)
theorem uk_Mo_newVariable  : Uk (M_Mo_newVariable) := by
  unfold M_Mo_newVariable
  repeat' with_reducible (first | apply uk_B | apply uk_C | exact uk_Mo_may _ | exact uk_Mo_object _ | exact uk_Va_set _ _ _ _ _ | exact uk_R _ | exact uk_SI | intro _)
theorem uk_Mo_put_j192 (l1 : Int32) (l2 : Int32) (l3 : Int64) (l5 : Int32) (l6 : Int64) : Uk (M_Mo_put_j192 l1 l2 l3 l5 l6) := by
  unfold M_Mo_put_j192
  repeat' with_reducible (first | apply uk_B | exact uk_Mo_append _ _ _ _ _ | exact uk_R _ | intro _)
theorem uk_Mo_put_j174 (l1 : Int32) (l2 : Int32) (l3 : Int64) (l5 : Int32) (l6 : Int64) (l9 : Int32) (k0 : Int32) : Uk (M_Mo_put_j174 l1 l2 l3 l5 l6 l9 k0) := by
  unfold M_Mo_put_j174
  repeat' with_reducible (first | apply uk_B | apply uk_C | exact uk_Mo_put_j192 _ _ _ _ _ | exact uk_R _ | exact uk_PI (by omega) | intro _)
theorem uk_Mo_put_j169 (l1 : Int32) (l2 : Int32) (l3 : Int64) (l5 : Int32) (l6 : Int64) (l9 : Int32) : Uk (M_Mo_put_j169 l1 l2 l3 l5 l6 l9) := by
  unfold M_Mo_put_j169
  repeat' with_reducible (first | exact uk_Mo_put_j174 _ _ _ _ _ _ _ | intro _)
theorem uk_Mo_put_j161 (l1 : Int32) (l2 : Int32) (l3 : Int64) (l5 : Int32) (l6 : Int64) (l9 : Int32) : Uk (M_Mo_put_j161 l1 l2 l3 l5 l6 l9) := by
  unfold M_Mo_put_j161
  repeat' with_reducible (first | apply uk_B | apply uk_C | exact uk_Mo_grow _ | exact uk_Mo_put_j174 _ _ _ _ _ _ _ | exact uk_Mo_put_j169 _ _ _ _ _ _ | intro _)
theorem uk_Mo_put_j96 (l1 : Int32) (l2 : Int32) (l3 : Int64) (l5 : Int32) (l6 : Int64) : Uk (M_Mo_put_j96 l1 l2 l3 l5 l6) := by
  unfold M_Mo_put_j96
  repeat' with_reducible (first | apply uk_B | apply uk_C | exact uk_Va_add _ _ _ _ | exact uk_Mo_put_j161 _ _ _ _ _ _ | exact uk_Mo_put_j169 _ _ _ _ _ _ | exact uk_GI _ _ | exact uk_AI _ _ _ _ | intro _)
theorem uk_Mo_put (l1 : Int32) (l2 : Int32) (l3 : Int64) (l5 : Int32) (l6 : Int64) : Uk (M_Mo_put l1 l2 l3 l5 l6) := by
  unfold M_Mo_put
  repeat' with_reducible (first | apply uk_B | apply uk_C | exact uk_Mo_raise _ | exact uk_Mo_entry _ _ _ | exact uk_Mo_put_j96 _ _ _ _ _ | exact uk_Mo_move _ _ _ | exact uk_Mo_put_j192 _ _ _ _ _ | exact uk_R _ | exact uk_GI _ _ | exact uk_AI _ _ _ _ | exact uk_SI | exact uk_SL | exact uk_K _ | intro _)
theorem uk_Mo_closure_L95 (x) : Uk (M_Mo_closure_L95 x) := by
  unfold M_Mo_closure_L95
  repeat' with_reducible (first | apply uk_B | apply uk_C | exact uk_R _ | exact uk_GI _ _ | exact uk_AI _ _ _ _ | exact uk_SI | exact uk_K _ | intro _)
theorem uk_Mo_closure_j83 (l3 : Int32) (l4 : Int32) (k0 : Int32) (k1 : Int32) : Uk (M_Mo_closure_j83 l3 l4 k0 k1) := by
  unfold M_Mo_closure_j83
  repeat' with_reducible (first | apply uk_B | exact uk_Mo_closure_L95 _ | exact uk_R _ | exact uk_GI _ _ | exact uk_PI (by omega) | exact uk_SI | apply uk_W | intro _)
theorem uk_Mo_closure (l1 : Int32) (l2 : Int32) (l3 : Int32) : Uk (M_Mo_closure l1 l2 l3) := by
  unfold M_Mo_closure
  repeat' with_reducible (first | apply uk_B | apply uk_C | exact uk_Mo_may _ | exact uk_Mo_object _ | exact uk_Mo_closure_j83 _ _ _ _ | exact uk_Mo_raise _ | exact uk_R _ | exact uk_GI _ _ | exact uk_PI (by omega) | exact uk_SI | intro _)
theorem uk_Mo_thread__L12 (x) : Uk (M_Mo_thread__L12 x) := by
  unfold M_Mo_thread__L12
  repeat' with_reducible (first | apply uk_B | apply uk_C | exact uk_R _ | exact uk_GI _ _ | exact uk_K _ | intro _)
theorem uk_Mo_thread_  : Uk (M_Mo_thread_) := by
  unfold M_Mo_thread_
  repeat' with_reducible (first | apply uk_B | apply uk_C | exact uk_Mo_may _ | exact uk_Mo_thread__L12 _ | exact uk_Mo_object _ | exact uk_Th_begin _ _ | exact uk_R _ | exact uk_GI _ _ | exact uk_PI (by omega) | exact uk_SI | exact uk_K _ | apply uk_W | intro _)
theorem uk_Mo_rawOf_j33 (l1 : Int32) : Uk (M_Mo_rawOf_j33 l1) := by
  unfold M_Mo_rawOf_j33
  repeat' with_reducible (first | apply uk_B | apply uk_C | exact uk_Mo_is _ _ | exact uk_Mo_raise _ | exact uk_Mo_av _ | exact uk_Mo_ak _ | exact uk_Mo_raw _ _ _ | exact uk_Mo_give _ _ | exact uk_Mo_put _ _ _ _ _ | exact uk_Mo_border _ | exact uk_R _ | exact uk_GI _ _ | exact uk_GL _ _ | intro _)
theorem uk_Mo_rawOf (l1 : Int32) : Uk (M_Mo_rawOf l1) := by
  unfold M_Mo_rawOf
  repeat' with_reducible (first | apply uk_B | apply uk_C | exact uk_Mo_is _ _ | exact uk_Mo_rawOf_j33 _ | exact uk_Mo_av _ | exact uk_Mo_give _ _ | exact uk_R _ | exact uk_AI _ _ _ _ | intro _)
theorem uk_Mo_create (l1 : Int32) : Uk (M_Mo_create l1) := by
  unfold M_Mo_create
  repeat' with_reducible (first | apply uk_B | apply uk_C | exact uk_Mo_is _ _ | exact uk_Mo_raise _ | exact uk_Mo_thread_ | exact uk_Va_add_ _ _ _ _ _ | exact uk_Mo_give _ _ | exact uk_Va_add _ _ _ _ | exact uk_Mo_closure _ _ _ | exact uk_R _ | exact uk_GI _ _ | exact uk_PI (by omega) | exact uk_AI _ _ _ _ | exact uk_K _ | intro _)
theorem uk_Mo_write_L9 (x) : Uk (M_Mo_write_L9 x) := by
  unfold M_Mo_write_L9
  repeat' with_reducible (first | apply uk_B | apply uk_C | exact uk_Mo_raw _ _ _ | exact uk_Mo_meta _ _ _ | exact uk_R _ | exact uk_GI _ _ | exact uk_GL _ _ | intro _)
theorem uk_Mo_write_j48 (l4 : Int32) (l5 : Int64) (l7 : Int32) (l8 : Int64) (l11 : Int64) : Uk (M_Mo_write_j48 l4 l5 l7 l8 l11) := by
  unfold M_Mo_write_j48
  repeat' with_reducible (first | apply uk_B | exact uk_Mo_put _ _ _ _ _ | exact uk_R _ | intro _)
theorem uk_Mo_write (l1 : Int32) (l2 : Int64) (l4 : Int32) (l5 : Int64) (l7 : Int32) (l8 : Int64) : Uk (M_Mo_write l1 l2 l4 l5 l7 l8) := by
  unfold M_Mo_write
  repeat' with_reducible (first | apply uk_B | exact uk_Mo_write_L9 _ | exact uk_Mo_raise _ | exact uk_Mo_write_j48 _ _ _ _ _ | exact uk_Mo_arguments _ _ _ _ | exact uk_Va_add _ _ _ _ | exact uk_Mo_expect _ _ _ | exact uk_Mo_callGot | exact uk_R _ | apply uk_W | apply uk_E | intro _)
theorem uk_Mo_list_j145 (l1 : Int32) (l2 : Int32) (l3 : Int32) (l4r : Nat) (l4 : Int32) (l5 : Int32) (l6 : Int32) (l7 : Int32) (l9r : Nat) (l9 : Int32) (k0 : Int32) : Uk (M_Mo_list_j145 l1 l2 l3 l4r l4 l5 l6 l7 l9r l9 k0) := by
  unfold M_Mo_list_j145
  repeat' with_reducible (first | apply uk_B | apply uk_C | exact uk_Mo_c _ | exact uk_Mo_put _ _ _ _ _ | exact uk_R _ | exact uk_AI _ _ _ _ | exact uk_AL _ _ _ _ | intro _)
theorem uk_Mo_list_j116 (l1 : Int32) (l2 : Int32) (l3 : Int32) (l4r : Nat) (l4 : Int32) (l5 : Int32) (l6 : Int32) (l7 : Int32) (l8 : Int32) (k0r : Nat) (k0 : Int32) : Uk (M_Mo_list_j116 l1 l2 l3 l4r l4 l5 l6 l7 l8 k0r k0) := by
  unfold M_Mo_list_j116
  repeat' with_reducible (first | apply uk_B | apply uk_C | exact uk_Mo_list_j145 _ _ _ _ _ _ _ _ _ _ _ | exact uk_Mo_a _ | exact uk_AI _ _ _ _ | intro _)
theorem uk_Mo_list_j100 (l1 : Int32) (l2 : Int32) (l3 : Int32) (l4r : Nat) (l4 : Int32) (l5 : Int32) (l6 : Int32) (l7 : Int32) (k0 : Int32) : Uk (M_Mo_list_j100 l1 l2 l3 l4r l4 l5 l6 l7 k0) := by
  unfold M_Mo_list_j100
  repeat' with_reducible (first | apply uk_C | exact uk_Mo_list_j116 _ _ _ _ _ _ _ _ _ _ _ | intro _)
theorem uk_Mo_list_j99 (l1 : Int32) (l2 : Int32) (l3 : Int32) (l4r : Nat) (l4 : Int32) (l5 : Int32) (l6 : Int32) (l7 : Int32) : Uk (M_Mo_list_j99 l1 l2 l3 l4r l4 l5 l6 l7) := by
  unfold M_Mo_list_j99
  repeat' with_reducible (first | exact uk_Mo_list_j100 _ _ _ _ _ _ _ _ _ | intro _)
theorem uk_Mo_list_L65 (x) : Uk (M_Mo_list_L65 x) := by
  unfold M_Mo_list_L65
  repeat' with_reducible (first | apply uk_B | apply uk_C | exact uk_Mo_b _ | exact uk_Mo_a _ | exact uk_Mo_list_j99 _ _ _ _ _ _ _ _ | exact uk_Mo_list_j100 _ _ _ _ _ _ _ _ _ | exact uk_R _ | exact uk_AI _ _ _ _ | intro _)
theorem uk_Mo_list_j199 (l1 : Int32) (l2 : Int32) : Uk (M_Mo_list_j199 l1 l2) := by
  unfold M_Mo_list_j199
  repeat' with_reducible (first | apply uk_B | exact uk_R _ | exact uk_SI | intro _)
theorem uk_Mo_list_j34 (l1 : Int32) (l2 : Int32) (l3 : Int32) (l4r : Nat) (l4 : Int32) (l5 : Int32) (k0 : Int32) : Uk (M_Mo_list_j34 l1 l2 l3 l4r l4 l5 k0) := by
  unfold M_Mo_list_j34
  repeat' with_reducible (first | apply uk_B | apply uk_C | exact uk_Mo_list_L65 _ | exact uk_Mo_list_j199 _ _ | exact uk_Mo_raise _ | exact uk_R _ | exact uk_AI _ _ _ _ | exact uk_SI | apply uk_W | apply uk_E | intro _)
theorem uk_Mo_list (l1 : Int32) (l2 : Int32) (l3 : Int32) (l4r : Nat) (l4 : Int32) (l5 : Int32) : Uk (M_Mo_list l1 l2 l3 l4r l4 l5) := by
  unfold M_Mo_list
  repeat' with_reducible (first | apply uk_B | apply uk_C | exact uk_Mo_b _ | exact uk_Mo_a _ | exact uk_Mo_list_j34 _ _ _ _ _ _ _ | exact uk_AI _ _ _ _ | intro _)
theorem uk_Mo_variableAt_L2 (x) : Uk (M_Mo_variableAt_L2 x) := by
  unfold M_Mo_variableAt_L2
  repeat' with_reducible (first | apply uk_B | apply uk_C | exact uk_R _ | exact uk_GI _ _ | exact uk_AI _ _ _ _ | intro _)
theorem uk_Mo_variableAt (l1 : Int32) (l2 : Int32) : Uk (M_Mo_variableAt l1 l2) := by
  unfold M_Mo_variableAt
  repeat' with_reducible (first | apply uk_B | apply uk_C | exact uk_Mo_variableAt_L2 _ | exact uk_Mo_may _ | exact uk_Mo_object _ | exact uk_Mo_thread _ | exact uk_R _ | exact uk_GI _ _ | exact uk_PI (by omega) | exact uk_AI _ _ _ _ | exact uk_SI | apply uk_W | apply uk_E | intro _)
theorem uk_Mo_table  : Uk (M_Mo_table) := by
  unfold M_Mo_table
  repeat' with_reducible (first | apply uk_B | apply uk_C | exact uk_Mo_may _ | exact uk_Mo_object _ | exact uk_R _ | exact uk_SI | intro _)
theorem uk_Mo_small_j133 (l1 : Int32) (l2 : Int32) (l4 : Int32) (k0 : Int32) (k1 : Int32) (k2r : Nat) (k2 : Int32) : Uk (M_Mo_small_j133 l1 l2 l4 k0 k1 k2r k2) := by
  unfold M_Mo_small_j133
  repeat' with_reducible (first | apply uk_B | apply uk_C | exact uk_Va_set _ _ _ _ _ | exact uk_Mo_c _ | exact uk_R _ | exact uk_AI _ _ _ _ | exact uk_SI | intro _)
theorem uk_Mo_small_L161 (x) : Uk (M_Mo_small_L161 x) := by
  unfold M_Mo_small_L161
  repeat' with_reducible (first | apply uk_B | apply uk_C | exact uk_Mo_b _ | exact uk_Va_set _ _ _ _ _ | exact uk_R _ | intro _)
theorem uk_Mo_small (l1 : Int32) (l2 : Int32) (l3 : Int32) (l4 : Int32) (l5 : Int32) (l6r : Nat) (l6 : Int32) (l7 : Int32) : Uk (M_Mo_small l1 l2 l3 l4 l5 l6r l6 l7) := by
  unfold M_Mo_small
  repeat' with_reducible (first | apply uk_B | apply uk_C | exact uk_Mo_b _ | exact uk_Va_set_ _ _ _ _ _ _ | exact uk_Mo_bx _ | exact uk_Mo_constant _ _ | exact uk_Va_set _ _ _ _ _ | exact uk_Mo_small_j133 _ _ _ _ _ _ _ | exact uk_Mo_small_L161 _ | exact uk_Mo_up _ _ _ | exact uk_Mo_load _ | exact uk_Mo_c _ | exact uk_Mo_rk_ _ _ _ _ | exact uk_Mo_a _ | exact uk_Mo_index _ _ _ _ _ | exact uk_Mo_write _ _ _ _ _ _ | exact uk_Mo_store _ _ _ | exact uk_Mo_table | exact uk_R _ | exact uk_GI _ _ | exact uk_GL _ _ | exact uk_AI _ _ _ _ | exact uk_AL _ _ _ _ | apply uk_W | intro _)
theorem uk_Mo_closure__j97 (l1 : Int32) (l2 : Int32) (l5r : Nat) (l5 : Int32) (l6 : Int32) (l7 : Int32) (l8 : Int32) (l9 : Int32) (k0 : Int32) : Uk (M_Mo_closure__j97 l1 l2 l5r l5 l6 l7 l8 l9 k0) := by
  unfold M_Mo_closure__j97
  repeat' with_reducible (first | apply uk_B | apply uk_C | exact uk_Va_add _ _ _ _ | exact uk_R _ | exact uk_SI | intro _)
theorem uk_Mo_closure__L31 (x) : Uk (M_Mo_closure__L31 x) := by
  unfold M_Mo_closure__L31
  repeat' with_reducible (first | apply uk_B | apply uk_C | exact uk_Mo_variableAt _ _ | exact uk_Mo_closure__j97 _ _ _ _ _ _ _ _ _ | exact uk_Mo_up _ _ _ | exact uk_R _ | exact uk_AI _ _ _ _ | intro _)
theorem uk_Mo_closure_ (l1 : Int32) (l2 : Int32) (l3 : Int32) (l4 : Int32) (l5r : Nat) (l5 : Int32) (l6 : Int32) : Uk (M_Mo_closure_ l1 l2 l3 l4 l5r l5 l6) := by
  unfold M_Mo_closure_
  repeat' with_reducible (first | apply uk_B | apply uk_C | exact uk_Mo_bx _ | exact uk_Mo_closure__L31 _ | exact uk_Mo_closure _ _ _ | exact uk_Va_set _ _ _ _ _ | exact uk_R _ | exact uk_GI _ _ | exact uk_PI (by omega) | exact uk_AI _ _ _ _ | apply uk_W | apply uk_E | intro _)
theorem uk_Mo_high_j303 (l1 : Int32) (l2 : Int32) (l4 : Int32) (l8 : Int32) (l9 : Int32) (k0 : Int32) (k1 : Int32) (k2 : Int32) : Uk (M_Mo_high_j303 l1 l2 l4 l8 l9 k0 k1 k2) := by
  unfold M_Mo_high_j303
  repeat' with_reducible (first | apply uk_B | exact uk_Mo_addAt _ _ _ _ _ _ | exact uk_R _ | intro _)
theorem uk_Mo_high_L276 (x) : Uk (M_Mo_high_L276 x) := by
  unfold M_Mo_high_L276
  repeat' with_reducible (first | apply uk_B | apply uk_C | exact uk_Mo_b _ | exact uk_Mo_high_j303 _ _ _ _ _ _ _ _ | exact uk_R _ | intro _)
theorem uk_Mo_high_j235 (l1 : Int32) (l2 : Int32) (l4 : Int32) (k0 : Int32) : Uk (M_Mo_high_j235 l1 l2 l4 k0) := by
  unfold M_Mo_high_j235
  repeat' with_reducible (first | apply uk_B | apply uk_C | exact uk_Mo_a _ | exact uk_Mo_high_L276 _ | exact uk_Mo_close _ _ | exact uk_Mo_raise _ | exact uk_R _ | exact uk_GI _ _ | exact uk_PI (by omega) | exact uk_AI _ _ _ _ | exact uk_SI | apply uk_W | intro _)
theorem uk_Mo_high_j405  : Uk (M_Mo_high_j405) := by
  unfold M_Mo_high_j405
  repeat' with_reducible (first | apply uk_B | exact uk_Mo_raise _ | exact uk_R _ | intro _)
theorem uk_Mo_high (l1 : Int32) (l2 : Int32) (l3 : Int32) (l4 : Int32) (l5 : Int32) (l6r : Nat) (l6 : Int32) (l7 : Int32) : Uk (M_Mo_high l1 l2 l3 l4 l5 l6r l6 l7) := by
  unfold M_Mo_high
  repeat' with_reducible (first | apply uk_B | apply uk_C | exact uk_Mo_a _ | exact uk_Mo_b _ | exact uk_Mo_gather _ _ _ _ | exact uk_Mo_c _ | exact uk_Mo_expect _ _ _ | exact uk_Mo_close _ _ | exact uk_Mo_high_j235 _ _ _ _ | exact uk_Mo_loop _ _ _ _ _ _ | exact uk_Mo_sbx _ | exact uk_Mo_high_j405 | exact uk_Va_add_ _ _ _ _ _ | exact uk_Va_set_ _ _ _ _ _ _ | exact uk_Mo_list _ _ _ _ _ _ | exact uk_Mo_closure_ _ _ _ _ _ _ _ | exact uk_Mo_further _ _ _ _ _ _ _ | exact uk_R _ | exact uk_GI _ _ | exact uk_PI (by omega) | exact uk_PL | exact uk_AI _ _ _ _ | exact uk_AL _ _ _ _ | exact uk_SI | exact uk_SL | intro _)
theorem uk_Mo_string_j86 (l1r : Nat) (l1 : Int32) (l2 : Int32) (l3 : Int32) (l4 : Int32) (l5 : Int32) (l7 : Int32) (k0 : Int32) : Uk (M_Mo_string_j86 l1r l1 l2 l3 l4 l5 l7 k0) := by
  unfold M_Mo_string_j86
  repeat' with_reducible (first | exact uk_R _ | intro _)
theorem uk_Mo_string_L46 (x) : Uk (M_Mo_string_L46 x) := by
  unfold M_Mo_string_L46
  repeat' with_reducible (first | apply uk_B | apply uk_C | exact uk_Mo_string_j86 _ _ _ _ _ _ _ _ | exact uk_R _ | exact uk_AI _ _ _ _ | intro _)
theorem uk_Mo_string_j94 (l1r : Nat) (l1 : Int32) (l2 : Int32) (l3 : Int32) (l4 : Int32) (l5 : Int32) (l6 : Int32) : Uk (M_Mo_string_j94 l1r l1 l2 l3 l4 l5 l6) := by
  unfold M_Mo_string_j94
  repeat' with_reducible (first | apply uk_B | apply uk_C | exact uk_R _ | exact uk_AI _ _ _ _ | apply uk_L | intro _)
theorem uk_Mo_string_j41 (l1r : Nat) (l1 : Int32) (l2 : Int32) (l3 : Int32) (l4 : Int32) (l5 : Int32) (k0 : Int32) : Uk (M_Mo_string_j41 l1r l1 l2 l3 l4 l5 k0) := by
  unfold M_Mo_string_j41
  repeat' with_reducible (first | apply uk_B | exact uk_Mo_string_L46 _ | exact uk_Mo_string_j94 _ _ _ _ _ _ _ | apply uk_W | intro _)
theorem uk_Mo_string_L20 (x) : Uk (M_Mo_string_L20 x) := by
  unfold M_Mo_string_L20
  repeat' with_reducible (first | apply uk_B | apply uk_C | exact uk_Mo_string_j41 _ _ _ _ _ _ _ | exact uk_R _ | exact uk_AI _ _ _ _ | intro _)
theorem uk_Mo_string (l1r : Nat) (l1 : Int32) (l2 : Int32) (l3 : Int32) : Uk (M_Mo_string l1r l1 l2 l3) := by
  unfold M_Mo_string
  repeat' with_reducible (first | apply uk_B | apply uk_C | exact uk_Mo_hash _ _ _ _ | exact uk_Mo_string_L20 _ | exact uk_Mo_may _ | exact uk_Mo_object _ | exact uk_Mo_raise _ | exact uk_R _ | exact uk_GI _ _ | exact uk_PI (by omega) | exact uk_AI _ _ _ _ | exact uk_SI | exact uk_Pr _ _ | exact uk_CI | apply uk_L | apply uk_W | apply uk_E | intro _)
theorem uk_Mo_say_ (l1 : Int32) (l2 : Int32) : Uk (M_Mo_say_ l1 l2) := by
  unfold M_Mo_say_
  repeat' with_reducible (first | apply uk_B | exact uk_R _ | exact uk_GI _ _ | exact uk_PI (by omega) | exact uk_CI | intro _)
theorem uk_Mo_sub_j25  : Uk (M_Mo_sub_j25) := by
  unfold M_Mo_sub_j25
  repeat' with_reducible (first | apply uk_B | exact uk_Mo_raise _ | exact uk_R _ | intro _)
theorem uk_Mo_sub_j150 (k0 : Int32) : Uk (M_Mo_sub_j150 k0) := by
  unfold M_Mo_sub_j150
  repeat' with_reducible (first | apply uk_B | apply uk_C | exact uk_Mo_give _ _ | exact uk_R _ | intro _)
theorem uk_Mo_sub_j95 (l1 : Int32) (l2 : Int32) (l3 : Int64) (k0 : Int64) (k1 : Int64) : Uk (M_Mo_sub_j95 l1 l2 l3 k0 k1) := by
  unfold M_Mo_sub_j95
  repeat' with_reducible (first | apply uk_B | apply uk_C | exact uk_Mo_from _ _ | exact uk_Mth_min_ _ _ | exact uk_Mo_string _ _ _ _ | exact uk_Mo_sub_j150 _ | exact uk_AI _ _ _ _ | intro _)
theorem uk_Mo_sub_j65 (l1 : Int32) (l2 : Int32) (k0 : Int64) (k1 : Int64) : Uk (M_Mo_sub_j65 l1 l2 k0 k1) := by
  unfold M_Mo_sub_j65
  repeat' with_reducible (first | apply uk_B | apply uk_C | exact uk_Mo_from _ _ | exact uk_Mth_max_ _ _ | exact uk_Mo_is _ _ | exact uk_Mo_av _ | exact uk_Mo_sub_j95 _ _ _ _ _ | intro _)
theorem uk_Mo_sub  : Uk (M_Mo_sub) := by
  unfold M_Mo_sub
  repeat' with_reducible (first | apply uk_B | apply uk_C | exact uk_Mo_is _ _ | exact uk_Mo_sub_j25 | exact uk_Mo_integer _ | exact uk_Mo_av _ | exact uk_Mo_sub_j65 _ _ _ _ | exact uk_AI _ _ _ _ | intro _)
theorem uk_Mo_characters_L2 (x) : Uk (M_Mo_characters_L2 x) := by
  unfold M_Mo_characters_L2
  repeat' with_reducible (first | apply uk_B | apply uk_C | exact uk_Mo_is _ _ | exact uk_Mo_av _ | exact uk_R _ | exact uk_GI _ _ | exact uk_SI | intro _)
theorem uk_Mo_characters_j51  : Uk (M_Mo_characters_j51) := by
  unfold M_Mo_characters_j51
  repeat' with_reducible (first | apply uk_B | exact uk_Mo_raise _ | exact uk_R _ | intro _)
theorem uk_Mo_characters  : Uk (M_Mo_characters) := by
  unfold M_Mo_characters
  repeat' with_reducible (first | apply uk_B | apply uk_C | exact uk_Mo_characters_L2 _ | exact uk_Mo_raise _ | exact uk_Mo_characters_j51 | exact uk_Mo_string _ _ _ _ | exact uk_Mo_give _ _ | exact uk_R _ | exact uk_GI _ _ | apply uk_W | apply uk_E | intro _)
theorem uk_Mo_word_L2 (x) : Uk (M_Mo_word_L2 x) := by
  unfold M_Mo_word_L2
  repeat' with_reducible (first | apply uk_B | apply uk_C | exact uk_R _ | exact uk_SI | exact uk_K _ | intro _)
theorem uk_Mo_word (l1 : Nat) : Uk (M_Mo_word l1) := by
  unfold M_Mo_word
  repeat' with_reducible (first | apply uk_B | apply uk_C | exact uk_Mo_word_L2 _ | exact uk_Mo_string _ _ _ _ | exact uk_R _ | exact uk_SI | apply uk_W | intro _)
theorem uk_Mo_say___L2 (x) : Uk (M_Mo_say___L2 x) := by
  unfold M_Mo_say___L2
  repeat' with_reducible (first | apply uk_B | apply uk_C | exact uk_Mo_say _ | exact uk_R _ | exact uk_K _ | intro _)
theorem uk_Mo_say__ (l1 : Nat) : Uk (M_Mo_say__ l1) := by
  unfold M_Mo_say__
  repeat' with_reducible (first | apply uk_B | exact uk_Mo_say___L2 _ | exact uk_R _ | apply uk_W | intro _)
theorem uk_Mo_words_L2 (x) : Uk (M_Mo_words_L2 x) := by
  unfold M_Mo_words_L2
  repeat' with_reducible (first | apply uk_B | apply uk_C | exact uk_Mo_word _ | exact uk_R _ | exact uk_AI _ _ _ _ | exact uk_SI | exact uk_K _ | exact uk_Pr _ _ | intro _)
theorem uk_Mo_words (l1r : Nat) (l1 : Int32) (l2r : Nat) (l2 : Int32) : Uk (M_Mo_words l1r l1 l2r l2) := by
  unfold M_Mo_words
  repeat' with_reducible (first | apply uk_B | exact uk_Mo_words_L2 _ | exact uk_R _ | apply uk_W | apply uk_E | intro _)
theorem uk_Mo_sayValue_j145 (k0 : Int64) : Uk (M_Mo_sayValue_j145 k0) := by
  unfold M_Mo_sayValue_j145
  repeat' with_reducible (first | apply uk_B | exact uk_Mo_sayNumber _ | exact uk_R _ | intro _)
theorem uk_Mo_sayValue_j119 (l2 : Int64) (k0 : Nat) : Uk (M_Mo_sayValue_j119 l2 k0) := by
  unfold M_Mo_sayValue_j119
  repeat' with_reducible (first | apply uk_B | apply uk_C | exact uk_Mo_say__ _ | exact uk_Mo_sayValue_j145 _ | exact uk_AI _ _ _ _ | intro _)
theorem uk_Mo_sayValue_j166 (l2 : Int64) (k0 : Nat) : Uk (M_Mo_sayValue_j166 l2 k0) := by
  unfold M_Mo_sayValue_j166
  repeat' with_reducible (first | apply uk_B | exact uk_Mo_say__ _ | exact uk_Mo_sayNumber _ | exact uk_R _ | exact uk_AI _ _ _ _ | intro _)
