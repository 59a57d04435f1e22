/-! Made by wip/l4/w5gen.py: the fault and the tape stay. -/
theorem w5_Mo_join (l1 : Int32) (l2 : Int32) (l3 : Int32) (l4 : Int32) (l5 : Int64) : W5k (M_Mo_join l1 l2 l3 l4 l5) := by
  unfold M_Mo_join
  repeat' with_reducible (first | apply w5_B | exact w5_Mo_join_L51 _ | exact w5_Mo_raise _ | exact w5_Mo_join_j273 _ _ _ _ _ _ _ _ | exact w5_Mo_a _ | exact w5_Va_set _ _ _ _ _ (by omega) | exact w5_R _ | exact w5_AI _ _ _ _ | apply w5_W | apply w5_E | intro _)
theorem w5_Mo_middle_j91 (k0 : Int32) (k1 : Int32) (k2r : Nat) (k2 : Int32) (h2 : (k2r ≠ 39 ∧ k2r ≠ 40 ∧ k2r ≠ 41)) : W5k (M_Mo_middle_j91 k0 k1 k2r k2) := by
  unfold M_Mo_middle_j91
  repeat' with_reducible (first | apply w5_B | exact w5_Va_set _ _ _ _ _ (by omega) | exact w5_R _ | intro _)
theorem w5_Mo_middle_j199 (l1 : Int32) (l2 : Int32) (l4 : Int32) : W5k (M_Mo_middle_j199 l1 l2 l4) := by
  unfold M_Mo_middle_j199
  repeat' with_reducible (first | apply w5_B | exact w5_Mo_sbx _ | exact w5_R _ | exact w5_AI _ _ _ _ | exact w5_SI (by omega) | intro _)
theorem w5_Mo_middle_j240 (l1 : Int32) (l2 : Int32) (k0 : Int32) (k1 : Int32) : W5k (M_Mo_middle_j240 l1 l2 k0 k1) := by
  unfold M_Mo_middle_j240
  repeat' with_reducible (first | apply w5_B | apply w5_C | exact w5_R _ | exact w5_AI _ _ _ _ | exact w5_SI (by omega) | intro _)
theorem w5_Mo_middle_j281 (l1 : Int32) (l2 : Int32) (l6r : Nat) (l6 : Int32) (l7 : Int32) (l8 : Int32) (k0 : Int32) (k1 : Int32) (h2 : (l6r ≠ 39 ∧ l6r ≠ 40 ∧ l6r ≠ 41)) : W5k (M_Mo_middle_j281 l1 l2 l6r l6 l7 l8 k0 k1) := by
  unfold M_Mo_middle_j281
  repeat' with_reducible (first | apply w5_B | apply w5_C | exact w5_Va_set_ _ _ _ _ _ _ (by omega) | exact w5_R _ | exact w5_AI _ _ _ _ | exact w5_SI (by omega) | intro _)
theorem w5_Mo_middle (l1 : Int32) (l2 : Int32) (l3 : Int32) (l4 : Int32) (l5 : Int32) (l6r : Nat) (l6 : Int32) (l7 : Int32) (h5 : (l6r ≠ 39 ∧ l6r ≠ 40 ∧ l6r ≠ 41)) : W5k (M_Mo_middle l1 l2 l3 l4 l5 l6r l6 l7) := by
  unfold M_Mo_middle
  repeat' with_reducible (first | apply w5_B | apply w5_C | exact w5_Mo_b _ | exact w5_Mo_truth _ | exact w5_Mo_middle_j91 _ _ _ _ (by omega) | exact w5_Mo_a _ | exact w5_Mo_length _ _ _ _ _ _ (by omega) | exact w5_Mo_c _ | exact w5_Mo_join _ _ _ _ _ | exact w5_Mo_middle_j199 _ _ _ | exact w5_Mo_close _ _ | exact w5_Mo_middle_j240 _ _ _ _ | exact w5_Mo_middle_j281 _ _ _ _ _ _ _ _ (by omega) | exact w5_Mo_compare _ _ _ _ _ | exact w5_R _ | exact w5_AI _ _ _ _ | exact w5_AL _ _ _ _ | apply w5_L | intro _)
theorem w5_Mo_begin_j177 (l1 : Int32) (l2 : Int32) : W5k (M_Mo_begin_j177 l1 l2) := by
  unfold M_Mo_begin_j177
  repeat' with_reducible (first | exact w5_R _ | intro _)
theorem w5_Mo_begin_L104 (x) : W5k (M_Mo_begin_L104 x) := by
  unfold M_Mo_begin_L104
  repeat' with_reducible (first | apply w5_B | apply w5_C | exact w5_Mo_string _ _ _ _ | exact w5_Mo_begin_j177 _ _ | exact w5_R _ | exact w5_GI _ _ | exact w5_AI _ _ _ _ | exact w5_AL _ _ _ _ | exact w5_SI (by omega) | exact w5_SL | intro _)
theorem w5_Mo_begin_L185 (x) : W5k (M_Mo_begin_L185 x) := by
  unfold M_Mo_begin_L185
  repeat' with_reducible (first | apply w5_B | apply w5_C | exact w5_Mo_put _ _ _ _ _ | exact w5_R _ | exact w5_GI _ _ | exact w5_AI _ _ _ _ | intro _)
theorem w5_Mo_begin  : W5k (M_Mo_begin) := by
  unfold M_Mo_begin
  repeat' with_reducible (first | apply w5_B | apply w5_C | exact w5_Mo_table | exact w5_Mo_words _ _ _ _ (by omega) | exact w5_Mo_newVariable | exact w5_Va_set _ _ _ _ _ (by omega) | exact w5_Mo_begin_L104 _ | exact w5_Mo_begin_L185 _ | exact w5_Mo_closure _ _ _ | exact w5_Mo_thread_ | exact w5_Mo_enter _ | exact w5_R _ | exact w5_GI _ _ | exact w5_PI (by omega) | exact w5_SI (by omega) | exact w5_K _ | apply w5_W | apply w5_E | intro _)
theorem w5_Mo_print_L72 (x) : W5k (M_Mo_print_L72 x) := by
  unfold M_Mo_print_L72
  repeat' with_reducible (first | apply w5_B | apply w5_C | exact w5_R _ | exact w5_GI _ _ | exact w5_PI (by omega) | exact w5_AI _ _ _ _ | exact w5_SI (by omega) | intro _)
theorem w5_Mo_print_j118 (l1 : Int32) : W5k (M_Mo_print_j118 l1) := by
  unfold M_Mo_print_j118
  repeat' with_reducible (first | exact w5_R _ | intro _)
theorem w5_Mo_print_j70 (l1 : Int32) : W5k (M_Mo_print_j70 l1) := by
  unfold M_Mo_print_j70
  repeat' with_reducible (first | apply w5_B | exact w5_Mo_print_L72 _ | exact w5_Mo_print_j118 _ | apply w5_W | intro _)
theorem w5_Mo_print_j48 (l1 : Int32) : W5k (M_Mo_print_j48 l1) := by
  unfold M_Mo_print_j48
  repeat' with_reducible (first | apply w5_B | exact w5_Mo_sayValue _ _ | exact w5_Mo_print_j70 _ | exact w5_AI _ _ _ _ | exact w5_AL _ _ _ _ | intro _)
theorem w5_Mo_print_L2 (x) : W5k (M_Mo_print_L2 x) := by
  unfold M_Mo_print_L2
  repeat' with_reducible (first | apply w5_B | apply w5_C | exact w5_Mo_say _ | exact w5_Mo_print_j70 _ | exact w5_Mo_print_j48 _ | exact w5_R _ | exact w5_GI _ _ | exact w5_PI (by omega) | intro _)
theorem w5_Mo_print  : W5k (M_Mo_print) := by
  unfold M_Mo_print
  repeat' with_reducible (first | apply w5_B | exact w5_Mo_print_L2 _ | exact w5_Mo_giveNone | exact w5_R _ | apply w5_W | intro _)
theorem w5_Mo_taken_j248 (l1 : Int32) (l2 : Int32) (l3 : Int32) (l7 : Int32) : W5k (M_Mo_taken_j248 l1 l2 l3 l7) := by
  unfold M_Mo_taken_j248
  repeat' with_reducible (first | exact w5_R _ | intro _)
theorem w5_Mo_taken_L178 (x) : W5k (M_Mo_taken_L178 x) := by
  unfold M_Mo_taken_L178
  repeat' with_reducible (first | apply w5_B | apply w5_C | exact w5_Va_set _ _ _ _ _ (by omega) | exact w5_Mo_taken_j248 _ _ _ _ | exact w5_Va_set_ _ _ _ _ _ _ (by omega) | exact w5_R _ | exact w5_GI _ _ | exact w5_AI _ _ _ _ | intro _)
theorem w5_Mo_taken_j350  : W5k (M_Mo_taken_j350) := by
  unfold M_Mo_taken_j350
  repeat' with_reducible (first | apply w5_B | exact w5_R _ | exact w5_PI (by omega) | intro _)
theorem w5_Mo_taken_L116 (x) : W5k (M_Mo_taken_L116 x) := by
  unfold M_Mo_taken_L116
  repeat' with_reducible (first | apply w5_B | apply w5_C | exact w5_Va_add_ _ _ _ _ _ (by omega) | exact w5_R _ | exact w5_GI _ _ | intro _)
theorem w5_Mo_taken_j305 (l1 : Int32) (l2 : Int32) (k0 : Int32) (k1 : Int32) : W5k (M_Mo_taken_j305 l1 l2 k0 k1) := by
  unfold M_Mo_taken_j305
  repeat' with_reducible (first | apply w5_B | apply w5_C | exact w5_Mo_taken_j350 | exact w5_AI _ _ _ _ | exact w5_SI (by omega) | intro _)
theorem w5_Mo_taken_j290 (l1 : Int32) (l2 : Int32) (k0 : Int32) : W5k (M_Mo_taken_j290 l1 l2 k0) := by
  unfold M_Mo_taken_j290
  repeat' with_reducible (first | apply w5_B | apply w5_C | exact w5_Mo_taken_j305 _ _ _ _ | exact w5_AI _ _ _ _ | intro _)
theorem w5_Mo_taken_j55 (l1 : Int32) (l2 : Int32) (l3 : Int32) (l4 : Int32) (k0 : Int64) : W5k (M_Mo_taken_j55 l1 l2 l3 l4 k0) := by
  unfold M_Mo_taken_j55
  repeat' with_reducible (first | apply w5_B | apply w5_C | exact w5_Mo_taken_L178 _ | exact w5_Mo_taken_j350 | exact w5_Mo_taken_L116 _ | exact w5_Va_set _ _ _ _ _ (by omega) | exact w5_Mo_taken_j290 _ _ _ | exact w5_Mo_join _ _ _ _ _ | exact w5_GI _ _ | exact w5_PI (by omega) | exact w5_AI _ _ _ _ | exact w5_SI (by omega) | apply w5_W | intro _)
theorem w5_Mo_taken_j30 (l1 : Int32) (l2 : Int32) (l3 : Int32) (k0 : Int32) : W5k (M_Mo_taken_j30 l1 l2 l3 k0) := by
  unfold M_Mo_taken_j30
  repeat' with_reducible (first | apply w5_B | apply w5_C | exact w5_Mo_taken_j55 _ _ _ _ _ | exact w5_GI _ _ | exact w5_AL _ _ _ _ | intro _)
theorem w5_Mo_taken (l1 : Int32) (l2 : Int32) : W5k (M_Mo_taken l1 l2) := by
  unfold M_Mo_taken
  repeat' with_reducible (first | apply w5_B | apply w5_C | exact w5_Mo_taken_j30 _ _ _ _ | exact w5_GI _ _ | exact w5_AI _ _ _ _ | intro _)
theorem w5_Mo_step  : W5k (M_Mo_step) := by
  unfold M_Mo_step
  repeat' with_reducible (first | apply w5_B | apply w5_C | exact w5_Th_top _ | exact w5_Mo_op _ | exact w5_Mo_a _ | exact w5_Mo_self _ _ _ _ _ _ _ (by omega) | exact w5_Mo_high _ _ _ _ _ _ _ _ (by omega) | exact w5_Mo_middle _ _ _ _ _ _ _ _ (by omega) | exact w5_Mo_arithmetic _ _ _ _ _ _ _ _ (by omega) | exact w5_Mo_small _ _ _ _ _ _ _ _ (by omega) | exact w5_R _ | exact w5_GI _ _ | exact w5_GL _ _ | exact w5_PL | exact w5_AI _ _ _ _ | exact w5_SI (by omega) | exact w5_K _ | apply w5_L | intro _)
theorem w5_Mo_builtIn_j388  : W5k (M_Mo_builtIn_j388) := by
  unfold M_Mo_builtIn_j388
  repeat' with_reducible (first | apply w5_B | exact w5_R _ | exact w5_PI (by omega) | intro _)
theorem w5_Mo_builtIn_j158 (k0 : Int32) (k2 : Int32) : W5k (M_Mo_builtIn_j158 k0 k2) := by
  unfold M_Mo_builtIn_j158
  repeat' with_reducible (first | apply w5_B | exact w5_Mo_give _ _ | exact w5_Mo_builtIn_j388 | exact w5_AI _ _ _ _ | intro _)
theorem w5_Mo_builtIn_j252 (k0 : Int32) : W5k (M_Mo_builtIn_j252 k0) := by
  unfold M_Mo_builtIn_j252
  repeat' with_reducible (first | apply w5_B | exact w5_Mo_give _ _ | exact w5_Mo_builtIn_j388 | intro _)
theorem w5_Mo_builtIn_j251  : W5k (M_Mo_builtIn_j251) := by
  unfold M_Mo_builtIn_j251
  repeat' with_reducible (first | exact w5_Mo_builtIn_j252 _ | intro _)
theorem w5_Mo_builtIn_j344 (k0 : Int32) : W5k (M_Mo_builtIn_j344 k0) := by
  unfold M_Mo_builtIn_j344
  repeat' with_reducible (first | apply w5_B | exact w5_Mo_create _ | exact w5_Mo_builtIn_j388 | intro _)
theorem w5_Mo_builtIn (l1 : Int32) : W5k (M_Mo_builtIn l1) := by
  unfold M_Mo_builtIn
  repeat' with_reducible (first | apply w5_B | apply w5_C | exact w5_Mo_print | exact w5_Mo_builtIn_j388 | exact w5_Mo_tostring | exact w5_Mo_ak _ | exact w5_Mo_builtIn_j158 _ _ | exact w5_Mo_av _ | exact w5_Mo_pcall | exact w5_Mo_setMeta | exact w5_Mo_getMeta | exact w5_Mo_rawOf _ | exact w5_Mo_builtIn_j252 _ | exact w5_Mo_builtIn_j251 | exact w5_Mo_next | exact w5_Mo_select | exact w5_Mo_sub | exact w5_Mo_byteOf | exact w5_Mo_characters | exact w5_Mo_is _ _ | exact w5_Mo_raise _ | exact w5_Mo_give _ _ | exact w5_Mo_builtIn_j344 _ | exact w5_Mo_resume | exact w5_Mo_giveWay | exact w5_Mo_state | exact w5_Mo_running | exact w5_Mo_collection | exact w5_R _ | exact w5_GI _ _ | exact w5_PI (by omega) | exact w5_PL | exact w5_AI _ _ _ _ | intro _)
theorem w5_Mo_deliver_L126 (x) : W5k (M_Mo_deliver_L126 x) := by
  unfold M_Mo_deliver_L126
  repeat' with_reducible (first | apply w5_B | apply w5_C | exact w5_Va_set_ _ _ _ _ _ _ (by omega) | exact w5_R _ | intro _)
theorem w5_Mo_deliver_j215  : W5k (M_Mo_deliver_j215) := by
  unfold M_Mo_deliver_j215
  repeat' with_reducible (first | apply w5_B | exact w5_Mo_raise _ | exact w5_R _ | exact w5_PI (by omega) | intro _)
theorem w5_Mo_deliver  : W5k (M_Mo_deliver) := by
  unfold M_Mo_deliver
  repeat' with_reducible (first | apply w5_B | apply w5_C | exact w5_Mo_finished | exact w5_Th_top _ | exact w5_Mo_taken _ _ | exact w5_Mo_raise _ | exact w5_Mo_deliver_L126 _ | exact w5_Va_set _ _ _ _ _ (by omega) | exact w5_Mo_deliver_j215 | exact w5_R _ | exact w5_GI _ _ | exact w5_PI (by omega) | exact w5_AI _ _ _ _ | exact w5_K _ | apply w5_W | intro _)
theorem w5_Mo_call_L73 (x) : W5k (M_Mo_call_L73 x) := by
  unfold M_Mo_call_L73
  repeat' with_reducible (first | apply w5_B | apply w5_C | exact w5_Va_set_ _ _ _ _ _ _ (by omega) | exact w5_R _ | intro _)
theorem w5_Mo_call_L7 (x) : W5k (M_Mo_call_L7 x) := by
  unfold M_Mo_call_L7
  repeat' with_reducible (first | apply w5_B | apply w5_C | exact w5_Mo_meta _ _ _ | exact w5_Mo_call_L73 _ | exact w5_Va_set _ _ _ _ _ (by omega) | exact w5_R _ | exact w5_GI _ _ | exact w5_GL _ _ | exact w5_PI (by omega) | exact w5_PL | apply w5_W | intro _)
theorem w5_Mo_call  : W5k (M_Mo_call) := by
  unfold M_Mo_call
  repeat' with_reducible (first | apply w5_B | apply w5_C | exact w5_Mo_call_L7 _ | exact w5_Mo_raise _ | exact w5_Mo_enter _ | exact w5_Mo_goesOn _ _ _ _ _ | exact w5_Mo_builtIn _ | exact w5_R _ | exact w5_GI _ _ | exact w5_GL _ _ | exact w5_PI (by omega) | exact w5_AI _ _ _ _ | exact w5_K _ | apply w5_W | apply w5_E | intro _)
theorem w5_Mo_run_L54 (x) : W5k (M_Mo_run_L54 x) := by
  unfold M_Mo_run_L54
  repeat' with_reducible (first | apply w5_B | apply w5_C | exact w5_Mo_call | exact w5_Mo_deliver | exact w5_Mo_error | exact w5_Mo_halt | exact w5_Mo_step | exact w5_R _ | exact w5_GI _ _ | intro _)
theorem w5_Mo_run_j138  : W5k (M_Mo_run_j138) := by
  unfold M_Mo_run_j138
  repeat' with_reducible (first | apply w5_B | exact w5_R _ | exact w5_GI _ _ | intro _)
theorem w5_Mo_run_j44 (l1 : Int32) (k0 : Int32) (k1 : Int32) : W5k (M_Mo_run_j44 l1 k0 k1) := by
  unfold M_Mo_run_j44
  repeat' with_reducible (first | apply w5_B | apply w5_C | exact w5_Mo_refuse _ _ | exact w5_Mo_run_L54 _ | exact w5_Mo_run_j138 | exact w5_R _ | apply w5_W | apply w5_E | intro _)
theorem w5_Mo_run_j24 (l1 : Int32) (k0 : Int32) (k1 : Int32) : W5k (M_Mo_run_j24 l1 k0 k1) := by
  unfold M_Mo_run_j24
  repeat' with_reducible (first | apply w5_B | apply w5_C | exact w5_Mo_refuse _ _ | exact w5_Mo_run_j44 _ _ _ | exact w5_R _ | exact w5_GI _ _ | intro _)
theorem w5_Mo_run_j19 (l1 : Int32) (k0 : Int32) : W5k (M_Mo_run_j19 l1 k0) := by
  unfold M_Mo_run_j19
  repeat' with_reducible (first | exact w5_Mo_run_j24 _ _ _ | intro _)
theorem w5_Mo_run (l1 : Int32) : W5k (M_Mo_run l1) := by
  unfold M_Mo_run
  repeat' with_reducible (first | apply w5_B | apply w5_C | exact w5_Mo_run_j19 _ _ | exact w5_Mo_run_j24 _ _ _ | exact w5_PI (by omega) | intro _)
theorem w5_Mo_clear_L129 (x) : W5k (M_Mo_clear_L129 x) := by
  unfold M_Mo_clear_L129
  repeat' with_reducible (first | apply w5_B | apply w5_C | exact w5_R _ | exact w5_PI (by omega) | exact w5_K _ | intro _)
theorem w5_Mo_clear_j61 (ln : Nat × Nat) : W5k (M_Mo_clear_j61 ln) := by
  unfold M_Mo_clear_j61
  repeat' with_reducible (first | apply w5_B | exact w5_Arr_fill _ _ _ (by omega) | exact w5_Arr_fill___ _ _ _ (by omega) | exact w5_Mo_clear_L129 _ | exact w5_R _ | exact w5_GI _ _ | exact w5_PI (by omega) | exact w5_PL | exact w5_K _ | apply w5_W | intro _)
theorem w5_Mo_clear (n0 : Nat × Nat) : W5k (M_Mo_clear n0) := by
  unfold M_Mo_clear
  repeat' with_reducible (first | apply w5_B | apply w5_C | exact w5_Mo_clear_j61 _ | exact w5_GI _ _ | exact w5_Nw _ _ | exact w5_S (w5r_nwR (by omega)) | intro _)
theorem w5_Mo_load__j145 (ln : Nat × Nat) (k0 : Int32) (k1 : Int32) : W5k (M_Mo_load__j145 ln k0 k1) := by
  unfold M_Mo_load__j145
  repeat' with_reducible (first | apply w5_B | apply w5_C | exact w5_Mo_refuse _ _ | exact w5_Mo_clear _ | exact w5_R _ | exact w5_GI _ _ | exact w5_PI (by omega) | intro _)
theorem w5_Mo_load__j119 (ln : Nat × Nat) (k0 : Int32) (k1 : Int32) : W5k (M_Mo_load__j119 ln k0 k1) := by
  unfold M_Mo_load__j119
  repeat' with_reducible (first | apply w5_B | apply w5_C | exact w5_Mo_refuse _ _ | exact w5_Mo_clear _ | exact w5_Mo_begin | exact w5_Mo_load__j145 _ _ _ | exact w5_R _ | intro _)
theorem w5_Mo_load__j100 (ln : Nat × Nat) : W5k (M_Mo_load__j100 ln) := by
  unfold M_Mo_load__j100
  repeat' with_reducible (first | apply w5_B | apply w5_C | exact w5_Mo_load__j119 _ _ _ | exact w5_GI _ _ | exact w5_PI (by omega) | intro _)
