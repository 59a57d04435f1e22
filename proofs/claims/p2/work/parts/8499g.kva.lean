/-! Made by wip/l2n/ugen.py: what was printed stays within its row. -/
theorem n9k_Mth_max (l0 : Int32) (l1 : Int32) : V9k (M_Mth_max l0 l1) := by
  unfold M_Mth_max
  repeat' with_reducible (first | apply n9k_C | exact n9k_R _ | intro _)
theorem n9k_Mth_floorMod (l0 : Int64) (l2 : Int64) : V9k (M_Mth_floorMod l0 l2) := by
  unfold M_Mth_floorMod
  repeat' with_reducible (first | apply n9k_B | apply n9k_C | exact n9k_R _ | exact n9k_K _ | apply n9k_L | intro _)
theorem n9k_Va_set (l0r : Nat) (l0 : Int32) (l1 : Int32) (l2 : Int32) (l3 : Int64) : V9k (M_Va_set l0r l0 l1 l2 l3) := by
  unfold M_Va_set
  repeat' with_reducible (first | apply n9k_B | exact n9k_R _ | exact n9k_SI | exact n9k_SL | intro _)
theorem n9k_Mo_raise_j23 (k0 : Int32) : V9k (M_Mo_raise_j23 k0) := by
  unfold M_Mo_raise_j23
  repeat' with_reducible (first | apply n9k_B | exact n9k_R _ | exact n9k_PI (by omega) | intro _)
theorem n9k_Mo_raise (l1 : Int32) : V9k (M_Mo_raise l1) := by
  unfold M_Mo_raise
  repeat' with_reducible (first | apply n9k_B | apply n9k_C | exact n9k_Mo_raise_j23 _ | exact n9k_PI (by omega) | exact n9k_PL | intro _)
theorem n9k_Mo_place (l1 : Int32) : V9k (M_Mo_place l1) := by
  unfold M_Mo_place
  repeat' with_reducible (first | apply n9k_B | apply n9k_C | exact n9k_R _ | exact n9k_GI _ _ | exact n9k_PI (by omega) | exact n9k_AI _ _ _ _ | exact n9k_SI | intro _)
theorem n9k_Mo_mark_j18 (l2 : Int64) : V9k (M_Mo_mark_j18 l2) := by
  unfold M_Mo_mark_j18
  repeat' with_reducible (first | apply n9k_B | exact n9k_Mo_place _ | exact n9k_R _ | intro _)
theorem n9k_Mo_mark (l1 : Int32) (l2 : Int64) : V9k (M_Mo_mark l1 l2) := by
  unfold M_Mo_mark
  repeat' with_reducible (first | apply n9k_C | exact n9k_Mo_mark_j18 _ | exact n9k_R _ | intro _)
theorem n9k_Mo_load (l1 : Int32) : V9k (M_Mo_load l1) := by
  unfold M_Mo_load
  repeat' with_reducible (first | apply n9k_B | apply n9k_C | exact n9k_R _ | exact n9k_PI (by omega) | exact n9k_PL | exact n9k_AI _ _ _ _ | exact n9k_AL _ _ _ _ | exact n9k_K _ | intro _)
theorem n9k_Mo_closeVariable (l1 : Int32) : V9k (M_Mo_closeVariable l1) := by
  unfold M_Mo_closeVariable
  repeat' with_reducible (first | apply n9k_B | exact n9k_Mo_load _ | exact n9k_Va_set _ _ _ _ _ | exact n9k_R _ | exact n9k_GI _ _ | exact n9k_GL _ _ | exact n9k_SI | intro _)
theorem n9k_Mo_hash_L6 (x) : V9k (M_Mo_hash_L6 x) := by
  unfold M_Mo_hash_L6
  repeat' with_reducible (first | apply n9k_B | apply n9k_C | exact n9k_R _ | exact n9k_AI _ _ _ _ | apply n9k_L | intro _)
theorem n9k_Mo_hash (l1r : Nat) (l1 : Int32) (l2 : Int32) (l3 : Int32) : V9k (M_Mo_hash l1r l1 l2 l3) := by
  unfold M_Mo_hash
  repeat' with_reducible (first | apply n9k_B | exact n9k_Mo_hash_L6 _ | exact n9k_R _ | apply n9k_W | intro _)
theorem n9k_Mo_forget_j41 (l1 : Int32) (l2 : Int32) (l3 : Int32) (l4 : Int32) : V9k (M_Mo_forget_j41 l1 l2 l3 l4) := by
  unfold M_Mo_forget_j41
  repeat' with_reducible (first | exact n9k_R _ | intro _)
theorem n9k_Mo_forget_L5 (x) : V9k (M_Mo_forget_L5 x) := by
  unfold M_Mo_forget_L5
  repeat' with_reducible (first | apply n9k_B | apply n9k_C | exact n9k_Mo_forget_j41 _ _ _ _ | exact n9k_R _ | exact n9k_GI _ _ | exact n9k_AI _ _ _ _ | exact n9k_SI | intro _)
theorem n9k_Mo_forget (l1 : Int32) (l2 : Int32) : V9k (M_Mo_forget l1 l2) := by
  unfold M_Mo_forget
  repeat' with_reducible (first | apply n9k_B | exact n9k_Mo_forget_L5 _ | exact n9k_R _ | exact n9k_PI (by omega) | apply n9k_W | intro _)
theorem n9k_Mo_object_j37 (l1 : Int32) (k0 : Int32) : V9k (M_Mo_object_j37 l1 k0) := by
  unfold M_Mo_object_j37
  repeat' with_reducible (first | apply n9k_B | exact n9k_R _ | exact n9k_GI _ _ | exact n9k_PI (by omega) | exact n9k_SI | intro _)
theorem n9k_Mo_object (l1 : Int32) : V9k (M_Mo_object l1) := by
  unfold M_Mo_object
  repeat' with_reducible (first | apply n9k_B | apply n9k_C | exact n9k_Mo_object_j37 _ _ | exact n9k_GI _ _ | exact n9k_PI (by omega) | exact n9k_AI _ _ _ _ | intro _)
theorem n9k_Mo_slot (l1 : Int32) (l2 : Int32) (l3 : Int64) : V9k (M_Mo_slot l1 l2 l3) := by
  unfold M_Mo_slot
  repeat' with_reducible (first | apply n9k_B | exact n9k_Mth_floorMod _ _ | exact n9k_R _ | intro _)
theorem n9k_Mo_append (l1 : Int32) (l2 : Int32) (l3 : Int64) (l5 : Int32) (l6 : Int64) : V9k (M_Mo_append l1 l2 l3 l5 l6) := by
  unfold M_Mo_append
  repeat' with_reducible (first | apply n9k_B | exact n9k_Mo_slot _ _ _ | exact n9k_R _ | exact n9k_GI _ _ | exact n9k_AI _ _ _ _ | exact n9k_SI | exact n9k_SL | exact n9k_K _ | apply n9k_L | intro _)
theorem n9k_Va_add (l0r : Nat) (l0 : Int32) (l1 : Int32) (l2 : Int64) : V9k (M_Va_add l0r l0 l1 l2) := by
  unfold M_Va_add
  repeat' with_reducible (first | apply n9k_B | exact n9k_R _ | exact n9k_GI _ _ | exact n9k_PI (by omega) | exact n9k_SI | exact n9k_SL | intro _)
theorem n9k_Th_begin (l0 : Int32) (l1 : Int32) : V9k (M_Th_begin l0 l1) := by
  unfold M_Th_begin
  repeat' with_reducible (first | apply n9k_B | exact n9k_R _ | exact n9k_PI (by omega) | intro _)
theorem n9k_Th_top (l0 : Int32) : V9k (M_Th_top l0) := by
  unfold M_Th_top
  repeat' with_reducible (first | apply n9k_B | exact n9k_R _ | exact n9k_GI _ _ | intro _)
theorem n9k_Mo_push (l1 : Int32) (l2 : Int32) : V9k (M_Mo_push l1 l2) := by
  unfold M_Mo_push
  repeat' with_reducible (first | apply n9k_B | apply n9k_C | exact n9k_Mo_raise _ | exact n9k_R _ | exact n9k_GI _ _ | exact n9k_PI (by omega) | exact n9k_SI | exact n9k_K _ | intro _)
theorem n9k_Va_set_ (l0r : Nat) (l0 : Int32) (l1 : Int32) (l2r : Nat) (l2 : Int32) (l3 : Int32) : V9k (M_Va_set_ l0r l0 l1 l2r l2 l3) := by
  unfold M_Va_set_
  repeat' with_reducible (first | apply n9k_B | exact n9k_R _ | exact n9k_AI _ _ _ _ | exact n9k_AL _ _ _ _ | exact n9k_SI | exact n9k_SL | intro _)
theorem n9k_Mo_markRow_L3 (x) : V9k (M_Mo_markRow_L3 x) := by
  unfold M_Mo_markRow_L3
  repeat' with_reducible (first | apply n9k_B | apply n9k_C | exact n9k_Mo_mark _ _ | exact n9k_R _ | exact n9k_AI _ _ _ _ | exact n9k_AL _ _ _ _ | intro _)
theorem n9k_Mo_markRow (l1r : Nat) (l1 : Int32) (l2 : Int32) (l3 : Int32) : V9k (M_Mo_markRow l1r l1 l2 l3) := by
  unfold M_Mo_markRow
  repeat' with_reducible (first | apply n9k_B | exact n9k_Mo_markRow_L3 _ | exact n9k_R _ | apply n9k_W | intro _)
theorem n9k_Th_reach_j126 (l0 : Int32) (l2 : Int32) : V9k (M_Th_reach_j126 l0 l2) := by
  unfold M_Th_reach_j126
  repeat' with_reducible (first | exact n9k_R _ | intro _)
theorem n9k_Th_reach_j45 (l0 : Int32) (l2 : Int32) : V9k (M_Th_reach_j45 l0 l2) := by
  unfold M_Th_reach_j45
  repeat' with_reducible (first | apply n9k_B | apply n9k_C | exact n9k_Mo_markRow _ _ _ _ | exact n9k_Th_reach_j126 _ _ | exact n9k_GI _ _ | exact n9k_AI _ _ _ _ | intro _)
theorem n9k_Th_reach_L18 (x) : V9k (M_Th_reach_L18 x) := by
  unfold M_Th_reach_L18
  repeat' with_reducible (first | apply n9k_B | apply n9k_C | exact n9k_Th_reach_j45 _ _ | exact n9k_Mo_place _ | exact n9k_R _ | exact n9k_GI _ _ | exact n9k_AI _ _ _ _ | intro _)
theorem n9k_Th_reach_L134 (x) : V9k (M_Th_reach_L134 x) := by
  unfold M_Th_reach_L134
  repeat' with_reducible (first | apply n9k_B | apply n9k_C | exact n9k_Mo_place _ | exact n9k_R _ | exact n9k_GI _ _ | exact n9k_AI _ _ _ _ | intro _)
theorem n9k_Th_reach (l0 : Int32) : V9k (M_Th_reach l0) := by
  unfold M_Th_reach
  repeat' with_reducible (first | apply n9k_B | exact n9k_Mo_markRow _ _ _ _ | exact n9k_Th_reach_L18 _ | exact n9k_Th_reach_L134 _ | exact n9k_R _ | exact n9k_GI _ _ | apply n9k_W | intro _)
theorem n9k_Mo_threadGoes_L2 (x) : V9k (M_Mo_threadGoes_L2 x) := by
  unfold M_Mo_threadGoes_L2
  repeat' with_reducible (first | apply n9k_B | apply n9k_C | exact n9k_Mo_closeVariable _ | exact n9k_R _ | exact n9k_GI _ _ | exact n9k_AI _ _ _ _ | intro _)
theorem n9k_Mo_threadGoes (l1 : Int32) : V9k (M_Mo_threadGoes l1) := by
  unfold M_Mo_threadGoes
  repeat' with_reducible (first | apply n9k_B | exact n9k_Mo_threadGoes_L2 _ | exact n9k_R _ | exact n9k_GI _ _ | exact n9k_PI (by omega) | apply n9k_W | intro _)
theorem n9k_Mo_unchain_L48 (x) : V9k (M_Mo_unchain_L48 x) := by
  unfold M_Mo_unchain_L48
  repeat' with_reducible (first | apply n9k_B | apply n9k_C | exact n9k_R _ | exact n9k_AI _ _ _ _ | apply n9k_L | intro _)
theorem n9k_Mo_unchain (l1 : Int32) : V9k (M_Mo_unchain l1) := by
  unfold M_Mo_unchain
  repeat' with_reducible (first | apply n9k_B | apply n9k_C | exact n9k_Mo_hash _ _ _ _ | exact n9k_Mo_unchain_L48 _ | exact n9k_R _ | exact n9k_AI _ _ _ _ | exact n9k_SI | apply n9k_L | apply n9k_W | intro _)
theorem n9k_Mo_entry_j91 (l1 : Int32) (l2 : Int32) (l3 : Int64) (l5 : Int32) : V9k (M_Mo_entry_j91 l1 l2 l3 l5) := by
  unfold M_Mo_entry_j91
  repeat' with_reducible (first | apply n9k_B | exact n9k_R _ | exact n9k_GI _ _ | exact n9k_AI _ _ _ _ | exact n9k_K _ | apply n9k_L | intro _)
theorem n9k_Mo_entry_L39 (x) : V9k (M_Mo_entry_L39 x) := by
  unfold M_Mo_entry_L39
  repeat' with_reducible (first | apply n9k_B | apply n9k_C | exact n9k_Mo_entry_j91 _ _ _ _ | exact n9k_R _ | exact n9k_GI _ _ | exact n9k_AI _ _ _ _ | exact n9k_AL _ _ _ _ | exact n9k_K _ | intro _)
theorem n9k_Mo_entry (l1 : Int32) (l2 : Int32) (l3 : Int64) : V9k (M_Mo_entry l1 l2 l3) := by
  unfold M_Mo_entry
  repeat' with_reducible (first | apply n9k_B | apply n9k_C | exact n9k_Mo_slot _ _ _ | exact n9k_Mo_entry_L39 _ | exact n9k_R _ | exact n9k_GI _ _ | exact n9k_AI _ _ _ _ | exact n9k_K _ | exact n9k_Pr _ _ | apply n9k_L | apply n9k_W | apply n9k_E | intro _)
theorem n9k_Mo_move_j117 (l1 : Int32) (l4 : Int32) (l5 : Int32) (l6 : Int32) : V9k (M_Mo_move_j117 l1 l4 l5 l6) := by
  unfold M_Mo_move_j117
  repeat' with_reducible (first | exact n9k_R _ | intro _)
theorem n9k_Mo_move_L52 (x) : V9k (M_Mo_move_L52 x) := by
  unfold M_Mo_move_L52
  repeat' with_reducible (first | apply n9k_B | apply n9k_C | exact n9k_Mo_move_j117 _ _ _ _ | exact n9k_Mo_append _ _ _ _ _ | exact n9k_R _ | exact n9k_GI _ _ | exact n9k_AI _ _ _ _ | exact n9k_AL _ _ _ _ | exact n9k_K _ | intro _)
theorem n9k_Mo_move (l1 : Int32) (l2 : Int32) (l3 : Int32) : V9k (M_Mo_move l1 l2 l3) := by
  unfold M_Mo_move
  repeat' with_reducible (first | apply n9k_B | exact n9k_Arr_fill_____ _ _ _ _ _ | exact n9k_Mo_move_L52 _ | exact n9k_R _ | exact n9k_GI _ _ | exact n9k_AI _ _ _ _ | exact n9k_SI | exact n9k_K _ | apply n9k_W | intro _)
theorem n9k_Mo_topOf_L5 (x) : V9k (M_Mo_topOf_L5 x) := by
  unfold M_Mo_topOf_L5
  repeat' with_reducible (first | apply n9k_B | apply n9k_C | exact n9k_R _ | exact n9k_AI _ _ _ _ | intro _)
theorem n9k_Mo_topOf (l1 : Int32) : V9k (M_Mo_topOf l1) := by
  unfold M_Mo_topOf
  repeat' with_reducible (first | apply n9k_B | exact n9k_Th_top _ | exact n9k_Mo_topOf_L5 _ | exact n9k_R _ | exact n9k_AI _ _ _ _ | apply n9k_W | apply n9k_E | intro _)
theorem n9k_Mo_follow_L53 (x) : V9k (M_Mo_follow_L53 x) := by
  unfold M_Mo_follow_L53
  repeat' with_reducible (first | apply n9k_B | apply n9k_C | exact n9k_Mo_mark _ _ | exact n9k_R _ | exact n9k_GI _ _ | exact n9k_AI _ _ _ _ | exact n9k_AL _ _ _ _ | exact n9k_K _ | intro _)
theorem n9k_Mo_follow_L135 (x) : V9k (M_Mo_follow_L135 x) := by
  unfold M_Mo_follow_L135
  repeat' with_reducible (first | apply n9k_B | apply n9k_C | exact n9k_Mo_place _ | exact n9k_R _ | exact n9k_GI _ _ | exact n9k_AI _ _ _ _ | exact n9k_K _ | intro _)
theorem n9k_Mo_follow (l1 : Int32) : V9k (M_Mo_follow l1) := by
  unfold M_Mo_follow
  repeat' with_reducible (first | apply n9k_B | apply n9k_C | exact n9k_Mo_place _ | exact n9k_Mo_follow_L53 _ | exact n9k_Mo_follow_L135 _ | exact n9k_Th_reach _ | exact n9k_Mo_load _ | exact n9k_Mo_mark _ _ | exact n9k_R _ | exact n9k_GI _ _ | exact n9k_GL _ _ | exact n9k_AI _ _ _ _ | exact n9k_K _ | apply n9k_W | intro _)
theorem n9k_Mo_sweep_j73 (l1 : Int32) (l2 : Int64) (l4 : Int32) : V9k (M_Mo_sweep_j73 l1 l2 l4) := by
  unfold M_Mo_sweep_j73
  repeat' with_reducible (first | exact n9k_R _ | intro _)
theorem n9k_Mo_sweep_L13 (x) : V9k (M_Mo_sweep_L13 x) := by
  unfold M_Mo_sweep_L13
  repeat' with_reducible (first | apply n9k_B | apply n9k_C | exact n9k_Mo_sweep_j73 _ _ _ | exact n9k_Mo_threadGoes _ | exact n9k_R _ | exact n9k_GI _ _ | exact n9k_AI _ _ _ _ | exact n9k_K _ | intro _)
theorem n9k_Mo_sweep_j240 (l1 : Int32) (l2 : Int64) (l4 : Int32) : V9k (M_Mo_sweep_j240 l1 l2 l4) := by
  unfold M_Mo_sweep_j240
  repeat' with_reducible (first | exact n9k_R _ | intro _)
theorem n9k_Mo_sweep_j204 (l1 : Int32) (l2 : Int64) (l4 : Int32) : V9k (M_Mo_sweep_j204 l1 l2 l4) := by
  unfold M_Mo_sweep_j204
  repeat' with_reducible (first | apply n9k_B | exact n9k_Mo_sweep_j240 _ _ _ | exact n9k_GI _ _ | exact n9k_PI (by omega) | exact n9k_SI | intro _)
theorem n9k_Mo_sweep_L82 (x) : V9k (M_Mo_sweep_L82 x) := by
  unfold M_Mo_sweep_L82
  repeat' with_reducible (first | apply n9k_B | apply n9k_C | exact n9k_Mo_sweep_j240 _ _ _ | exact n9k_Mo_unchain _ | exact n9k_Mo_sweep_j204 _ _ _ | exact n9k_Mo_forget _ _ | exact n9k_R _ | exact n9k_GI _ _ | exact n9k_PI (by omega) | exact n9k_AI _ _ _ _ | exact n9k_K _ | intro _)
theorem n9k_Mo_sweep  : V9k (M_Mo_sweep) := by
  unfold M_Mo_sweep
  repeat' with_reducible (first | apply n9k_B | exact n9k_Mo_sweep_L13 _ | exact n9k_Mo_sweep_L82 _ | exact n9k_R _ | exact n9k_GI _ _ | exact n9k_GL _ _ | exact n9k_PI (by omega) | exact n9k_PL | apply n9k_W | intro _)
theorem n9k_Mo_enter_j79  : V9k (M_Mo_enter_j79) := by
  unfold M_Mo_enter_j79
  repeat' with_reducible (first | apply n9k_B | exact n9k_Mo_raise _ | exact n9k_R _ | exact n9k_PI (by omega) | intro _)
theorem n9k_Mo_enter_L139 (x) : V9k (M_Mo_enter_L139 x) := by
  unfold M_Mo_enter_L139
  repeat' with_reducible (first | apply n9k_B | apply n9k_C | exact n9k_Va_set_ _ _ _ _ _ _ | exact n9k_R _ | exact n9k_AI _ _ _ _ | exact n9k_K _ | intro _)
theorem n9k_Mo_enter_j255 (l2 : Int32) (l3 : Int32) (l4 : Int32) (l5 : Int32) (l7 : Int32) : V9k (M_Mo_enter_j255 l2 l3 l4 l5 l7) := by
  unfold M_Mo_enter_j255
  repeat' with_reducible (first | exact n9k_R _ | intro _)
theorem n9k_Mo_enter_j238 (l2 : Int32) (l3 : Int32) (l4 : Int32) (l5 : Int32) (l7 : Int32) : V9k (M_Mo_enter_j238 l2 l3 l4 l5 l7) := by
  unfold M_Mo_enter_j238
  repeat' with_reducible (first | apply n9k_B | exact n9k_Va_set _ _ _ _ _ | exact n9k_Mo_enter_j255 _ _ _ _ _ | exact n9k_K _ | intro _)
theorem n9k_Mo_enter_L180 (x) : V9k (M_Mo_enter_L180 x) := by
  unfold M_Mo_enter_L180
  repeat' with_reducible (first | apply n9k_B | apply n9k_C | exact n9k_Mo_enter_j238 _ _ _ _ _ | exact n9k_Va_set_ _ _ _ _ _ _ | exact n9k_Mo_enter_j255 _ _ _ _ _ | exact n9k_R _ | exact n9k_GI _ _ | exact n9k_AI _ _ _ _ | exact n9k_K _ | intro _)
theorem n9k_Mo_enter_j44 (l1 : Int32) (l2 : Int32) (l3 : Int32) (l4 : Int32) : V9k (M_Mo_enter_j44 l1 l2 l3 l4) := by
  unfold M_Mo_enter_j44
  repeat' with_reducible (first | apply n9k_B | apply n9k_C | exact n9k_Mo_topOf _ | exact n9k_Mo_enter_j79 | exact n9k_Mo_push _ _ | exact n9k_Th_top _ | exact n9k_Mo_enter_L139 _ | exact n9k_Mo_enter_L180 _ | exact n9k_R _ | exact n9k_GI _ _ | exact n9k_PI (by omega) | exact n9k_AI _ _ _ _ | exact n9k_SI | exact n9k_K _ | apply n9k_W | intro _)
theorem n9k_Mo_enter (l1 : Int32) : V9k (M_Mo_enter l1) := by
  unfold M_Mo_enter
  repeat' with_reducible (first | apply n9k_B | apply n9k_C | exact n9k_Mth_max _ _ | exact n9k_Mo_enter_j44 _ _ _ _ | exact n9k_GI _ _ | exact n9k_AI _ _ _ _ | intro _)
theorem n9k_Mo_collection_j61 (l1 : Int32) : V9k (M_Mo_collection_j61 l1) := by
  unfold M_Mo_collection_j61
  repeat' with_reducible (first | exact n9k_R _ | intro _)
theorem n9k_Mo_collection_L30 (x) : V9k (M_Mo_collection_L30 x) := by
  unfold M_Mo_collection_L30
  repeat' with_reducible (first | apply n9k_B | apply n9k_C | exact n9k_Mo_collection_j61 _ | exact n9k_Mo_place _ | exact n9k_R _ | exact n9k_GI _ _ | exact n9k_AI _ _ _ _ | intro _)
theorem n9k_Mo_collection_L104 (x) : V9k (M_Mo_collection_L104 x) := by
  unfold M_Mo_collection_L104
  repeat' with_reducible (first | apply n9k_B | apply n9k_C | exact n9k_Mo_place _ | exact n9k_R _ | exact n9k_GI _ _ | exact n9k_K _ | intro _)
theorem n9k_Mo_collection_L218 (x) : V9k (M_Mo_collection_L218 x) := by
  unfold M_Mo_collection_L218
  repeat' with_reducible (first | apply n9k_B | apply n9k_C | exact n9k_Mo_follow _ | exact n9k_R _ | exact n9k_GI _ _ | exact n9k_PI (by omega) | exact n9k_AI _ _ _ _ | intro _)
theorem n9k_Mo_collection  : V9k (M_Mo_collection) := by
  unfold M_Mo_collection
  repeat' with_reducible (first | apply n9k_B | exact n9k_Arr_fill____ _ _ _ _ _ | exact n9k_Mo_collection_L30 _ | exact n9k_Mo_place _ | exact n9k_Mo_collection_L104 _ | exact n9k_Mo_markRow _ _ _ _ | exact n9k_Mo_mark _ _ | exact n9k_Mo_collection_L218 _ | exact n9k_Mo_sweep | exact n9k_R _ | exact n9k_GI _ _ | exact n9k_GL _ _ | exact n9k_PI (by omega) | exact n9k_K _ | apply n9k_W | intro _)
theorem n9k_Mo_grow_j59 (l1 : Int32) (l2 : Int32) : V9k (M_Mo_grow_j59 l1 l2) := by
  unfold M_Mo_grow_j59
  repeat' with_reducible (first | apply n9k_B | apply n9k_C | exact n9k_Mo_move _ _ _ | exact n9k_Mo_raise _ | exact n9k_R _ | exact n9k_GI _ _ | exact n9k_PI (by omega) | exact n9k_AI _ _ _ _ | intro _)
theorem n9k_Mo_grow_j21 (l1 : Int32) (k0 : Int32) : V9k (M_Mo_grow_j21 l1 k0) := by
  unfold M_Mo_grow_j21
  repeat' with_reducible (first | apply n9k_B | apply n9k_C | exact n9k_Mo_grow_j59 _ _ | exact n9k_Mo_collection | exact n9k_Mo_raise _ | exact n9k_R _ | exact n9k_GI _ _ | intro _)
theorem n9k_Mo_grow (l1 : Int32) : V9k (M_Mo_grow l1) := by
  unfold M_Mo_grow
  repeat' with_reducible (first | apply n9k_B | apply n9k_C | exact n9k_Mo_grow_j21 _ _ | exact n9k_AI _ _ _ _ | intro _)
theorem n9k_Mo_may_j82  : V9k (M_Mo_may_j82) := by
  unfold M_Mo_may_j82
  repeat' with_reducible (first | apply n9k_B | exact n9k_Mo_raise _ | exact n9k_R _ | intro _)
theorem n9k_Mo_may_j56 (l1 : Int32) : V9k (M_Mo_may_j56 l1) := by
  unfold M_Mo_may_j56
  repeat' with_reducible (first | apply n9k_B | apply n9k_C | exact n9k_Mo_may_j82 | exact n9k_R _ | exact n9k_GI _ _ | intro _)
theorem n9k_Mo_may_j45 (l1 : Int32) : V9k (M_Mo_may_j45 l1) := by
  unfold M_Mo_may_j45
  repeat' with_reducible (first | apply n9k_B | apply n9k_C | exact n9k_Mo_collection | exact n9k_Mo_may_j56 _ | exact n9k_GI _ _ | intro _)
theorem n9k_Mo_may (l1 : Int32) : V9k (M_Mo_may l1) := by
  unfold M_Mo_may
  repeat' with_reducible (first | apply n9k_B | apply n9k_C | exact n9k_Mo_raise _ | exact n9k_Mo_may_j45 _ | exact n9k_R _ | exact n9k_GI _ _ | intro _)
theorem n9k_Mo_newVariable  : V9k (M_Mo_newVariable) := by
  unfold M_Mo_newVariable
  repeat' with_reducible (first | apply n9k_B | apply n9k_C | exact n9k_Mo_may _ | exact n9k_Mo_object _ | exact n9k_Va_set _ _ _ _ _ | exact n9k_R _ | exact n9k_SI | intro _)
theorem n9k_Mo_put_j192 (l1 : Int32) (l2 : Int32) (l3 : Int64) (l5 : Int32) (l6 : Int64) : V9k (M_Mo_put_j192 l1 l2 l3 l5 l6) := by
  unfold M_Mo_put_j192
  repeat' with_reducible (first | apply n9k_B | exact n9k_Mo_append _ _ _ _ _ | exact n9k_R _ | intro _)
theorem n9k_Mo_put_j174 (l1 : Int32) (l2 : Int32) (l3 : Int64) (l5 : Int32) (l6 : Int64) (l9 : Int32) (k0 : Int32) : V9k (M_Mo_put_j174 l1 l2 l3 l5 l6 l9 k0) := by
  unfold M_Mo_put_j174
  repeat' with_reducible (first | apply n9k_B | apply n9k_C | exact n9k_Mo_put_j192 _ _ _ _ _ | exact n9k_R _ | exact n9k_PI (by omega) | intro _)
theorem n9k_Mo_put_j169 (l1 : Int32) (l2 : Int32) (l3 : Int64) (l5 : Int32) (l6 : Int64) (l9 : Int32) : V9k (M_Mo_put_j169 l1 l2 l3 l5 l6 l9) := by
  unfold M_Mo_put_j169
  repeat' with_reducible (first | exact n9k_Mo_put_j174 _ _ _ _ _ _ _ | intro _)
theorem n9k_Mo_put_j161 (l1 : Int32) (l2 : Int32) (l3 : Int64) (l5 : Int32) (l6 : Int64) (l9 : Int32) : V9k (M_Mo_put_j161 l1 l2 l3 l5 l6 l9) := by
  unfold M_Mo_put_j161
  repeat' with_reducible (first | apply n9k_B | apply n9k_C | exact n9k_Mo_grow _ | exact n9k_Mo_put_j174 _ _ _ _ _ _ _ | exact n9k_Mo_put_j169 _ _ _ _ _ _ | intro _)
theorem n9k_Mo_put_j96 (l1 : Int32) (l2 : Int32) (l3 : Int64) (l5 : Int32) (l6 : Int64) : V9k (M_Mo_put_j96 l1 l2 l3 l5 l6) := by
  unfold M_Mo_put_j96
  repeat' with_reducible (first | apply n9k_B | apply n9k_C | exact n9k_Va_add _ _ _ _ | exact n9k_Mo_put_j161 _ _ _ _ _ _ | exact n9k_Mo_put_j169 _ _ _ _ _ _ | exact n9k_GI _ _ | exact n9k_AI _ _ _ _ | intro _)
theorem n9k_Mo_put (l1 : Int32) (l2 : Int32) (l3 : Int64) (l5 : Int32) (l6 : Int64) : V9k (M_Mo_put l1 l2 l3 l5 l6) := by
  unfold M_Mo_put
  repeat' with_reducible (first | apply n9k_B | apply n9k_C | exact n9k_Mo_raise _ | exact n9k_Mo_entry _ _ _ | exact n9k_Mo_put_j96 _ _ _ _ _ | exact n9k_Mo_move _ _ _ | exact n9k_Mo_put_j192 _ _ _ _ _ | exact n9k_R _ | exact n9k_GI _ _ | exact n9k_AI _ _ _ _ | exact n9k_SI | exact n9k_SL | exact n9k_K _ | intro _)
theorem n9k_Mo_closure_L95 (x) : V9k (M_Mo_closure_L95 x) := by
  unfold M_Mo_closure_L95
  repeat' with_reducible (first | apply n9k_B | apply n9k_C | exact n9k_R _ | exact n9k_GI _ _ | exact n9k_AI _ _ _ _ | exact n9k_SI | exact n9k_K _ | intro _)
theorem n9k_Mo_closure_j83 (l3 : Int32) (l4 : Int32) (k0 : Int32) (k1 : Int32) : V9k (M_Mo_closure_j83 l3 l4 k0 k1) := by
  unfold M_Mo_closure_j83
  repeat' with_reducible (first | apply n9k_B | exact n9k_Mo_closure_L95 _ | exact n9k_R _ | exact n9k_GI _ _ | exact n9k_PI (by omega) | exact n9k_SI | apply n9k_W | intro _)
theorem n9k_Mo_closure (l1 : Int32) (l2 : Int32) (l3 : Int32) : V9k (M_Mo_closure l1 l2 l3) := by
  unfold M_Mo_closure
  repeat' with_reducible (first | apply n9k_B | apply n9k_C | exact n9k_Mo_may _ | exact n9k_Mo_object _ | exact n9k_Mo_closure_j83 _ _ _ _ | exact n9k_Mo_raise _ | exact n9k_R _ | exact n9k_GI _ _ | exact n9k_PI (by omega) | exact n9k_SI | intro _)
theorem n9k_Mo_thread__L12 (x) : V9k (M_Mo_thread__L12 x) := by
  unfold M_Mo_thread__L12
  repeat' with_reducible (first | apply n9k_B | apply n9k_C | exact n9k_R _ | exact n9k_GI _ _ | exact n9k_K _ | intro _)
theorem n9k_Mo_thread_  : V9k (M_Mo_thread_) := by
  unfold M_Mo_thread_
  repeat' with_reducible (first | apply n9k_B | apply n9k_C | exact n9k_Mo_may _ | exact n9k_Mo_thread__L12 _ | exact n9k_Mo_object _ | exact n9k_Th_begin _ _ | exact n9k_R _ | exact n9k_GI _ _ | exact n9k_PI (by omega) | exact n9k_SI | exact n9k_K _ | apply n9k_W | intro _)
theorem n9k_Mo_table  : V9k (M_Mo_table) := by
  unfold M_Mo_table
  repeat' with_reducible (first | apply n9k_B | apply n9k_C | exact n9k_Mo_may _ | exact n9k_Mo_object _ | exact n9k_R _ | exact n9k_SI | intro _)
theorem n9k_Mo_string_j86 (l1r : Nat) (l1 : Int32) (l2 : Int32) (l3 : Int32) (l4 : Int32) (l5 : Int32) (l7 : Int32) (k0 : Int32) : V9k (M_Mo_string_j86 l1r l1 l2 l3 l4 l5 l7 k0) := by
  unfold M_Mo_string_j86
  repeat' with_reducible (first | exact n9k_R _ | intro _)
theorem n9k_Mo_string_L46 (x) : V9k (M_Mo_string_L46 x) := by
  unfold M_Mo_string_L46
  repeat' with_reducible (first | apply n9k_B | apply n9k_C | exact n9k_Mo_string_j86 _ _ _ _ _ _ _ _ | exact n9k_R _ | exact n9k_AI _ _ _ _ | intro _)
theorem n9k_Mo_string_j94 (l1r : Nat) (l1 : Int32) (l2 : Int32) (l3 : Int32) (l4 : Int32) (l5 : Int32) (l6 : Int32) : V9k (M_Mo_string_j94 l1r l1 l2 l3 l4 l5 l6) := by
  unfold M_Mo_string_j94
  repeat' with_reducible (first | apply n9k_B | apply n9k_C | exact n9k_R _ | exact n9k_AI _ _ _ _ | apply n9k_L | intro _)
theorem n9k_Mo_string_j41 (l1r : Nat) (l1 : Int32) (l2 : Int32) (l3 : Int32) (l4 : Int32) (l5 : Int32) (k0 : Int32) : V9k (M_Mo_string_j41 l1r l1 l2 l3 l4 l5 k0) := by
  unfold M_Mo_string_j41
  repeat' with_reducible (first | apply n9k_B | exact n9k_Mo_string_L46 _ | exact n9k_Mo_string_j94 _ _ _ _ _ _ _ | apply n9k_W | intro _)
theorem n9k_Mo_string_L20 (x) : V9k (M_Mo_string_L20 x) := by
  unfold M_Mo_string_L20
  repeat' with_reducible (first | apply n9k_B | apply n9k_C | exact n9k_Mo_string_j41 _ _ _ _ _ _ _ | exact n9k_R _ | exact n9k_AI _ _ _ _ | intro _)
theorem n9k_Mo_string (l1r : Nat) (l1 : Int32) (l2 : Int32) (l3 : Int32) : V9k (M_Mo_string l1r l1 l2 l3) := by
  unfold M_Mo_string
  repeat' with_reducible (first | apply n9k_B | apply n9k_C | exact n9k_Mo_hash _ _ _ _ | exact n9k_Mo_string_L20 _ | exact n9k_Mo_may _ | exact n9k_Mo_object _ | exact n9k_Mo_raise _ | exact n9k_R _ | exact n9k_GI _ _ | exact n9k_PI (by omega) | exact n9k_AI _ _ _ _ | exact n9k_SI | exact n9k_Pr _ _ | exact n9k_CI | apply n9k_L | apply n9k_W | apply n9k_E | intro _)
