/-! Made by wip/l2n/kpgen2.py: who leaves the face alone. -/
theorem kq_Mo_goesOn_j25 (l3 : Int32) : Kq true (M_Mo_goesOn_j25 l3) := by
  unfold M_Mo_goesOn_j25
  repeat' (first | with_reducible (first | apply kq_B | apply kq_C | exact kq_Mo_raise _ | exact kq_Va_add _ _ _ _ | exact kq_R _ | (refine kq_PI ?_) | intro _) | omega)
theorem kq_Mo_goesOn_L232 (x) : Kq true (M_Mo_goesOn_L232 x) := by
  unfold M_Mo_goesOn_L232
  repeat' (first | with_reducible (first | apply kq_B | apply kq_C | exact kq_Va_set_ _ _ _ _ _ _ | exact kq_R _ | exact kq_GI _ _ | intro _) | omega)
theorem kq_Mo_goesOn_L144 (x) : Kq true (M_Mo_goesOn_L144 x) := by
  unfold M_Mo_goesOn_L144
  repeat' (first | with_reducible (first | apply kq_B | apply kq_C | exact kq_Va_add_ _ _ _ _ _ | exact kq_R _ | exact kq_GI _ _ | intro _) | omega)
theorem kq_Mo_goesOn (l1 : Int32) (l2 : Int32) (l3 : Int32) (l4 : Int32) (l5 : Int32) : Kq true (M_Mo_goesOn l1 l2 l3 l4 l5) := by
  unfold M_Mo_goesOn
  repeat' (first | with_reducible (first | apply kq_B | apply kq_C | exact kq_Mo_goesOn_j25 _ | exact kq_Mo_push _ _ | exact kq_Mo_goesOn_L232 _ | exact kq_Mo_goesOn_L144 _ | exact kq_R _ | exact kq_GI _ _ | exact kq_PL _ _ _ | exact kq_AI _ _ _ _ | exact kq_AL _ _ _ _ | exact kq_K _ | apply kq_W | (refine kq_PI ?_) | intro _) | omega)
theorem kq_Mo_back (l1 : Int32) : Kq true (M_Mo_back l1) := by
  unfold M_Mo_back
  repeat' (first | with_reducible (first | apply kq_B | exact kq_R _ | exact kq_GI _ _ | exact kq_K _ | (refine kq_PI ?_) | intro _) | omega)
theorem kq_Mo_state  : Kq true (M_Mo_state) := by
  unfold M_Mo_state
  repeat' (first | with_reducible (first | apply kq_B | apply kq_C | exact kq_Mo_is _ _ | exact kq_Mo_raise _ | exact kq_Mo_av _ | exact kq_Mo_give _ _ | exact kq_R _ | exact kq_GI _ _ | exact kq_AI _ _ _ _ | exact kq_K _ | intro _) | omega)
theorem kq_Mo_running_j36 (k0 : Int32) : Kq true (M_Mo_running_j36 k0) := by
  unfold M_Mo_running_j36
  repeat' (first | with_reducible (first | apply kq_B | exact kq_Va_add _ _ _ _ | exact kq_R _ | intro _) | omega)
theorem kq_Mo_running  : Kq true (M_Mo_running) := by
  unfold M_Mo_running
  repeat' (first | with_reducible (first | apply kq_B | apply kq_C | exact kq_Mo_give _ _ | exact kq_Mo_running_j36 _ | exact kq_GI _ _ | exact kq_K _ | intro _) | omega)
theorem kq_Mo_finished_L35 (x) : Kq true (M_Mo_finished_L35 x) := by
  unfold M_Mo_finished_L35
  repeat' (first | with_reducible (first | apply kq_B | apply kq_C | exact kq_Va_add_ _ _ _ _ _ | exact kq_R _ | exact kq_GI _ _ | intro _) | omega)
theorem kq_Mo_finished  : Kq true (M_Mo_finished) := by
  unfold M_Mo_finished
  repeat' (first | with_reducible (first | apply kq_B | apply kq_C | exact kq_Mo_finished_L35 _ | exact kq_Mo_back _ | exact kq_R _ | exact kq_GI _ _ | exact kq_K _ | apply kq_W | (refine kq_PI ?_) | intro _) | omega)
theorem kq_Mo_expect (l1 : Int32) (l2 : Int32) (l3 : Int32) : Kq true (M_Mo_expect l1 l2 l3) := by
  unfold M_Mo_expect
  repeat' (first | with_reducible (first | apply kq_B | exact kq_Th_top _ | exact kq_R _ | exact kq_GI _ _ | exact kq_SI _ _ _ _ _ | exact kq_K _ | intro _) | omega)
theorem kq_Mo_arguments (l1 : Int32) (l2 : Int64) (l4 : Int32) (l5 : Int64) : Kq true (M_Mo_arguments l1 l2 l4 l5) := by
  unfold M_Mo_arguments
  repeat' (first | with_reducible (first | apply kq_B | exact kq_Va_add _ _ _ _ | exact kq_R _ | (refine kq_PI ?_) | intro _) | omega)
theorem kq_Mo_close_j54 (l1 : Int32) (l2 : Int32) (l3 : Int32) (l4 : Int32) : Kq true (M_Mo_close_j54 l1 l2 l3 l4) := by
  unfold M_Mo_close_j54
  repeat' (first | with_reducible (first | exact kq_R _ | intro _) | omega)
theorem kq_Mo_close_L5 (x) : Kq true (M_Mo_close_L5 x) := by
  unfold M_Mo_close_L5
  repeat' (first | with_reducible (first | apply kq_B | apply kq_C | exact kq_Mo_close_j54 _ _ _ _ | exact kq_Mo_closeVariable _ | exact kq_R _ | exact kq_GI _ _ | exact kq_AI _ _ _ _ | exact kq_SI _ _ _ _ _ | intro _) | omega)
theorem kq_Mo_close (l1 : Int32) (l2 : Int32) : Kq true (M_Mo_close l1 l2) := by
  unfold M_Mo_close
  repeat' (first | with_reducible (first | apply kq_B | exact kq_Mo_close_L5 _ | exact kq_R _ | apply kq_W | (refine kq_PI ?_) | intro _) | omega)
theorem kq_Mo_constant (l1 : Int32) (l2 : Int32) : Kq true (M_Mo_constant l1 l2) := by
  unfold M_Mo_constant
  repeat' (first | with_reducible (first | apply kq_B | exact kq_R _ | exact kq_PL _ _ _ | exact kq_AI _ _ _ _ | exact kq_AL _ _ _ _ | apply kq_L | (refine kq_PI ?_) | intro _) | omega)
theorem kq_Mo_up (l1 : Int32) (l2 : Int32) (l3 : Int32) : Kq true (M_Mo_up l1 l2 l3) := by
  unfold M_Mo_up
  repeat' (first | with_reducible (first | apply kq_B | exact kq_R _ | exact kq_GI _ _ | exact kq_AI _ _ _ _ | exact kq_K _ | intro _) | omega)
theorem kq_Mo_rk_ (l1 : Int32) (l2 : Int32) (l3 : Int32) (l4 : Int32) : Kq true (M_Mo_rk_ l1 l2 l3 l4) := by
  unfold M_Mo_rk_
  repeat' (first | with_reducible (first | apply kq_B | apply kq_C | exact kq_Mo_constant _ _ | exact kq_R _ | exact kq_PL _ _ _ | exact kq_AI _ _ _ _ | exact kq_AL _ _ _ _ | (refine kq_PI ?_) | intro _) | omega)
theorem kq_Mo_callGot  : Kq true (M_Mo_callGot) := by
  unfold M_Mo_callGot
  repeat' (first | with_reducible (first | apply kq_B | exact kq_R _ | exact kq_GI _ _ | exact kq_GL _ _ | exact kq_PL _ _ _ | (refine kq_PI ?_) | intro _) | omega)
theorem kq_Mo_store (l1 : Int32) (l2 : Int32) (l3 : Int64) : Kq true (M_Mo_store l1 l2 l3) := by
  unfold M_Mo_store
  repeat' (first | with_reducible (first | apply kq_B | apply kq_C | exact kq_Va_set _ _ _ _ _ | exact kq_R _ | exact kq_AI _ _ _ _ | exact kq_K _ | intro _) | omega)
theorem kq_Mo_eventOf (l0 : Int32) : Kq true (M_Mo_eventOf l0) := by
  unfold M_Mo_eventOf
  repeat' (first | with_reducible (first | apply kq_C | exact kq_R _ | intro _) | omega)
theorem kq_Mo_shifted (l0 : Int64) (l2 : Int64) : Kq true (M_Mo_shifted l0 l2) := by
  unfold M_Mo_shifted
  repeat' (first | with_reducible (first | apply kq_C | exact kq_R _ | intro _) | omega)
theorem kq_Mo_truth (l0 : Int32) : Kq true (M_Mo_truth l0) := by
  unfold M_Mo_truth
  repeat' (first | with_reducible (first | apply kq_C | exact kq_R _ | intro _) | omega)
theorem kq_Mo_order_L19 (x) : Kq true (M_Mo_order_L19 x) := by
  unfold M_Mo_order_L19
  repeat' (first | with_reducible (first | apply kq_B | apply kq_C | exact kq_R _ | exact kq_AI _ _ _ _ | apply kq_L | intro _) | omega)
theorem kq_Mo_order (l1 : Int32) (l2 : Int32) : Kq true (M_Mo_order l1 l2) := by
  unfold M_Mo_order
  repeat' (first | with_reducible (first | apply kq_B | exact kq_Mth_min _ _ | exact kq_Mo_order_L19 _ | exact kq_R _ | exact kq_AI _ _ _ _ | apply kq_W | apply kq_E | intro _) | omega)
theorem kq_Mo_addAt_j36 (l1r : Nat) (l1 : Int32) (l2 : Int32) (l3 : Int32) (l5 : Int32) : Kq true (M_Mo_addAt_j36 l1r l1 l2 l3 l5) := by
  unfold M_Mo_addAt_j36
  repeat' (first | with_reducible (first | apply kq_B | exact kq_Va_add_ _ _ _ _ _ | exact kq_R _ | exact kq_AI _ _ _ _ | intro _) | omega)
theorem kq_Mo_addAt (l1r : Nat) (l1 : Int32) (l2 : Int32) (l3 : Int32) (l4 : Int32) (l5 : Int32) : Kq true (M_Mo_addAt l1r l1 l2 l3 l4 l5) := by
  unfold M_Mo_addAt
  repeat' (first | with_reducible (first | apply kq_B | apply kq_C | exact kq_Mo_addAt_j36 _ _ _ _ _ | exact kq_Va_add_ _ _ _ _ _ | exact kq_R _ | exact kq_AI _ _ _ _ | intro _) | omega)
theorem kq_Mo_loop_j40  : Kq true (M_Mo_loop_j40) := by
  unfold M_Mo_loop_j40
  repeat' (first | with_reducible (first | apply kq_B | exact kq_Mo_raise _ | exact kq_R _ | intro _) | omega)
theorem kq_Mo_loop_j140 (l1 : Int32) (l2 : Int32) (l3 : Int32) (l4r : Nat) (l4 : Int32) (l5 : Int32) (k0 : Int32) : Kq true (M_Mo_loop_j140 l1 l2 l3 l4r l4 l5 k0) := by
  unfold M_Mo_loop_j140
  repeat' (first | with_reducible (first | apply kq_B | apply kq_C | exact kq_Mo_sbx _ | exact kq_Va_set_ _ _ _ _ _ _ | exact kq_R _ | exact kq_AI _ _ _ _ | exact kq_SI _ _ _ _ _ | intro _) | omega)
theorem kq_Mo_loop (l1 : Int32) (l2 : Int32) (l3 : Int32) (l4r : Nat) (l4 : Int32) (l5 : Int32) : Kq true (M_Mo_loop l1 l2 l3 l4r l4 l5) := by
  unfold M_Mo_loop
  repeat' (first | with_reducible (first | apply kq_B | apply kq_C | exact kq_Mo_loop_j140 _ _ _ _ _ _ _ | exact kq_Mo_loop_j40 | exact kq_AI _ _ _ _ | exact kq_AL _ _ _ _ | exact kq_SL _ _ _ _ _ | intro _) | omega)
theorem kq_Mo_thread_L2 (x) : Kq true (M_Mo_thread_L2 x) := by
  unfold M_Mo_thread_L2
  repeat' (first | with_reducible (first | apply kq_B | apply kq_C | exact kq_R _ | exact kq_K _ | intro _) | omega)
theorem kq_Mo_thread (l1 : Int32) : Kq true (M_Mo_thread l1) := by
  unfold M_Mo_thread
  repeat' (first | with_reducible (first | apply kq_B | exact kq_Mo_thread_L2 _ | exact kq_R _ | apply kq_W | intro _) | omega)
theorem kq_Mo_further_j160 (l1 : Int32) (l2 : Int32) (l5r : Nat) (l5 : Int32) (l6 : Int32) (l7 : Int32) (l8 : Int32) (l9 : Int32) : Kq true (M_Mo_further_j160 l1 l2 l5r l5 l6 l7 l8 l9) := by
  unfold M_Mo_further_j160
  repeat' (first | with_reducible (first | exact kq_R _ | intro _) | omega)
theorem kq_Mo_further_L110 (x) : Kq true (M_Mo_further_L110 x) := by
  unfold M_Mo_further_L110
  repeat' (first | with_reducible (first | apply kq_B | apply kq_C | exact kq_Va_set _ _ _ _ _ | exact kq_Mo_further_j160 _ _ _ _ _ _ _ _ | exact kq_Va_set_ _ _ _ _ _ _ | exact kq_R _ | exact kq_AI _ _ _ _ | intro _) | omega)
theorem kq_Mo_further_L60 (x) : Kq true (M_Mo_further_L60 x) := by
  unfold M_Mo_further_L60
  repeat' (first | with_reducible (first | apply kq_B | apply kq_C | exact kq_Va_add_ _ _ _ _ _ | exact kq_R _ | intro _) | omega)
theorem kq_Mo_further_j24 (l1 : Int32) (l2 : Int32) (l4 : Int32) (l5r : Nat) (l5 : Int32) (l6 : Int32) (k0 : Int32) : Kq true (M_Mo_further_j24 l1 l2 l4 l5r l5 l6 k0) := by
  unfold M_Mo_further_j24
  repeat' (first | with_reducible (first | apply kq_B | apply kq_C | exact kq_Mo_b _ | exact kq_Mo_further_L60 _ | exact kq_Mo_a _ | exact kq_Mo_further_L110 _ | exact kq_R _ | exact kq_AI _ _ _ _ | exact kq_SI _ _ _ _ _ | apply kq_L | apply kq_W | (refine kq_PI ?_) | intro _) | omega)
theorem kq_Mo_further (l1 : Int32) (l2 : Int32) (l3 : Int32) (l4 : Int32) (l5r : Nat) (l5 : Int32) (l6 : Int32) : Kq true (M_Mo_further l1 l2 l3 l4 l5r l5 l6) := by
  unfold M_Mo_further
  repeat' (first | with_reducible (first | apply kq_B | apply kq_C | exact kq_Mo_b _ | exact kq_Mo_further_j24 _ _ _ _ _ _ _ | exact kq_AI _ _ _ _ | intro _) | omega)
theorem kq_Arr_fill______L10 (x) : Kq true (M_Arr_fill______L10 x) := by
  unfold M_Arr_fill______L10
  repeat' (first | with_reducible (first | apply kq_B | apply kq_C | exact kq_R _ | exact kq_SI _ _ _ _ _ | intro _) | omega)
theorem kq_Arr_fill_____ (l0r : Nat) (l0 : Int32) (l1 : Int32) (l2 : Int32) (l3 : Int32) : Kq true (M_Arr_fill_____ l0r l0 l1 l2 l3) := by
  unfold M_Arr_fill_____
  repeat' (first | with_reducible (first | apply kq_B | exact kq_Arr_rangeCheck _ _ _ | exact kq_Arr_fill______L10 _ | exact kq_R _ | exact kq_Pr _ _ | apply kq_W | intro _) | omega)
theorem kq_Mo_markRow_L3 (x) : Kq true (M_Mo_markRow_L3 x) := by
  unfold M_Mo_markRow_L3
  repeat' (first | with_reducible (first | apply kq_B | apply kq_C | exact kq_Mo_mark _ _ | exact kq_R _ | exact kq_AI _ _ _ _ | exact kq_AL _ _ _ _ | intro _) | omega)
theorem kq_Mo_markRow (l1r : Nat) (l1 : Int32) (l2 : Int32) (l3 : Int32) : Kq true (M_Mo_markRow l1r l1 l2 l3) := by
  unfold M_Mo_markRow
  repeat' (first | with_reducible (first | apply kq_B | exact kq_Mo_markRow_L3 _ | exact kq_R _ | apply kq_W | intro _) | omega)
theorem kq_Th_reach_j126 (l0 : Int32) (l2 : Int32) : Kq true (M_Th_reach_j126 l0 l2) := by
  unfold M_Th_reach_j126
  repeat' (first | with_reducible (first | exact kq_R _ | intro _) | omega)
theorem kq_Th_reach_j45 (l0 : Int32) (l2 : Int32) : Kq true (M_Th_reach_j45 l0 l2) := by
  unfold M_Th_reach_j45
  repeat' (first | with_reducible (first | apply kq_B | apply kq_C | exact kq_Mo_markRow _ _ _ _ | exact kq_Th_reach_j126 _ _ | exact kq_GI _ _ | exact kq_AI _ _ _ _ | intro _) | omega)
theorem kq_Th_reach_L18 (x) : Kq true (M_Th_reach_L18 x) := by
  unfold M_Th_reach_L18
  repeat' (first | with_reducible (first | apply kq_B | apply kq_C | exact kq_Th_reach_j45 _ _ | exact kq_Mo_place _ | exact kq_R _ | exact kq_GI _ _ | exact kq_AI _ _ _ _ | intro _) | omega)
theorem kq_Th_reach_L134 (x) : Kq true (M_Th_reach_L134 x) := by
  unfold M_Th_reach_L134
  repeat' (first | with_reducible (first | apply kq_B | apply kq_C | exact kq_Mo_place _ | exact kq_R _ | exact kq_GI _ _ | exact kq_AI _ _ _ _ | intro _) | omega)
theorem kq_Th_reach (l0 : Int32) : Kq true (M_Th_reach l0) := by
  unfold M_Th_reach
  repeat' (first | with_reducible (first | apply kq_B | exact kq_Mo_markRow _ _ _ _ | exact kq_Th_reach_L18 _ | exact kq_Th_reach_L134 _ | exact kq_R _ | exact kq_GI _ _ | apply kq_W | intro _) | omega)
theorem kq_Mo_threadGoes_L2 (x) : Kq true (M_Mo_threadGoes_L2 x) := by
  unfold M_Mo_threadGoes_L2
  repeat' (first | with_reducible (first | apply kq_B | apply kq_C | exact kq_Mo_closeVariable _ | exact kq_R _ | exact kq_GI _ _ | exact kq_AI _ _ _ _ | intro _) | omega)
theorem kq_Mo_threadGoes (l1 : Int32) : Kq true (M_Mo_threadGoes l1) := by
  unfold M_Mo_threadGoes
  repeat' (first | with_reducible (first | apply kq_B | exact kq_Mo_threadGoes_L2 _ | exact kq_R _ | exact kq_GI _ _ | apply kq_W | (refine kq_PI ?_) | intro _) | omega)
theorem kq_Mo_unchain_L48 (x) : Kq true (M_Mo_unchain_L48 x) := by
  unfold M_Mo_unchain_L48
  repeat' (first | with_reducible (first | apply kq_B | apply kq_C | exact kq_R _ | exact kq_AI _ _ _ _ | apply kq_L | intro _) | omega)
theorem kq_Mo_unchain (l1 : Int32) : Kq true (M_Mo_unchain l1) := by
  unfold M_Mo_unchain
  repeat' (first | with_reducible (first | apply kq_B | apply kq_C | exact kq_Mo_hash _ _ _ _ | exact kq_Mo_unchain_L48 _ | exact kq_R _ | exact kq_AI _ _ _ _ | exact kq_SI _ _ _ _ _ | apply kq_L | apply kq_W | intro _) | omega)
theorem kq_Mo_entry_j91 (l1 : Int32) (l2 : Int32) (l3 : Int64) (l5 : Int32) : Kq true (M_Mo_entry_j91 l1 l2 l3 l5) := by
  unfold M_Mo_entry_j91
  repeat' (first | with_reducible (first | apply kq_B | exact kq_R _ | exact kq_GI _ _ | exact kq_AI _ _ _ _ | exact kq_K _ | apply kq_L | intro _) | omega)
theorem kq_Mo_entry_L39 (x) : Kq true (M_Mo_entry_L39 x) := by
  unfold M_Mo_entry_L39
  repeat' (first | with_reducible (first | apply kq_B | apply kq_C | exact kq_Mo_entry_j91 _ _ _ _ | exact kq_R _ | exact kq_GI _ _ | exact kq_AI _ _ _ _ | exact kq_AL _ _ _ _ | exact kq_K _ | intro _) | omega)
theorem kq_Mo_entry (l1 : Int32) (l2 : Int32) (l3 : Int64) : Kq true (M_Mo_entry l1 l2 l3) := by
  unfold M_Mo_entry
  repeat' (first | with_reducible (first | apply kq_B | apply kq_C | exact kq_Mo_slot _ _ _ | exact kq_Mo_entry_L39 _ | exact kq_R _ | exact kq_GI _ _ | exact kq_AI _ _ _ _ | exact kq_K _ | exact kq_Pr _ _ | apply kq_L | apply kq_W | apply kq_E | intro _) | omega)
theorem kq_Mo_move_j117 (l1 : Int32) (l4 : Int32) (l5 : Int32) (l6 : Int32) : Kq true (M_Mo_move_j117 l1 l4 l5 l6) := by
  unfold M_Mo_move_j117
  repeat' (first | with_reducible (first | exact kq_R _ | intro _) | omega)
theorem kq_Mo_move_L52 (x) : Kq true (M_Mo_move_L52 x) := by
  unfold M_Mo_move_L52
  repeat' (first | with_reducible (first | apply kq_B | apply kq_C | exact kq_Mo_move_j117 _ _ _ _ | exact kq_Mo_append _ _ _ _ _ | exact kq_R _ | exact kq_GI _ _ | exact kq_AI _ _ _ _ | exact kq_AL _ _ _ _ | exact kq_K _ | intro _) | omega)
theorem kq_Mo_move (l1 : Int32) (l2 : Int32) (l3 : Int32) : Kq true (M_Mo_move l1 l2 l3) := by
  unfold M_Mo_move
  repeat' (first | with_reducible (first | apply kq_B | exact kq_Arr_fill_____ _ _ _ _ _ | exact kq_Mo_move_L52 _ | exact kq_R _ | exact kq_GI _ _ | exact kq_AI _ _ _ _ | exact kq_SI _ _ _ _ _ | exact kq_K _ | apply kq_W | intro _) | omega)
theorem kq_Mo_topOf_L5 (x) : Kq true (M_Mo_topOf_L5 x) := by
  unfold M_Mo_topOf_L5
  repeat' (first | with_reducible (first | apply kq_B | apply kq_C | exact kq_R _ | exact kq_AI _ _ _ _ | intro _) | omega)
theorem kq_Mo_topOf (l1 : Int32) : Kq true (M_Mo_topOf l1) := by
  unfold M_Mo_topOf
  repeat' (first | with_reducible (first | apply kq_B | exact kq_Th_top _ | exact kq_Mo_topOf_L5 _ | exact kq_R _ | exact kq_AI _ _ _ _ | apply kq_W | apply kq_E | intro _) | omega)
theorem kq_Mo_raw_j54 (k0 : Int64) : Kq true (M_Mo_raw_j54 k0) := by
  unfold M_Mo_raw_j54
  repeat' (first | with_reducible (first | apply kq_B | apply kq_C | exact kq_R _ | exact kq_GI _ _ | exact kq_PL _ _ _ | intro _) | omega)
theorem kq_Mo_raw_j34 (l5 : Int32) (k0 : Int32) : Kq true (M_Mo_raw_j34 l5 k0) := by
  unfold M_Mo_raw_j34
  repeat' (first | with_reducible (first | apply kq_B | apply kq_C | exact kq_Mo_raw_j54 _ | exact kq_GI _ _ | exact kq_AL _ _ _ _ | exact kq_K _ | (refine kq_PI ?_) | intro _) | omega)
