/-! Made by wip/l2n/ygen.py: the reference's programs leave the class's state alone. -/
theorem yk_Mo_say__ (l1 : Nat) : Yk (M_Mo_say__ l1) := by
  unfold M_Mo_say__
  repeat' with_reducible (first | apply yk_B | exact yk_Mo_say___L2 _ | exact yk_R _ | apply yk_W | intro _)
theorem yw_Mo_words_L2 (x) (h : x.2.2.1 < 98) : Yk (oW M_Mo_words_L2 x) := by
  refine (yp_W (I := fun x => x.2.2.1 < 98) (J := fun _ => True) (fun x hx => ?_) _ h).k
  unfold M_Mo_words_L2
  exact yp_C (yp_R trivial) (yp_B (yk_K _).p fun _ _ => yp_B (yk_Mo_word _).p fun _ _ => yp_B (yk_Pr _ _).p fun _ _ => yp_B (yk_Pr _ _).p fun _ _ => yp_B (yk_SI (Nat.lt_trans hx (by decide))).p fun _ _ => yp_B (yk_AI _ _ _ _).p fun _ _ => yp_C (yp_R hx) (yp_R trivial))
theorem yk_Mo_words (l1r : Nat) (l1 : Int32) (l2r : Nat) (l2 : Int32) (h2 : l2r < 98) : Yk (M_Mo_words l1r l1 l2r l2) := by
  unfold M_Mo_words
  repeat' with_reducible (first | apply yk_B | exact yw_Mo_words_L2 _ (by dsimp only; omega) | exact yk_R _ | apply yk_W | apply yk_E | intro _)
theorem yk_Mo_sayValue_j145 (k0 : Int64) : Yk (M_Mo_sayValue_j145 k0) := by
  unfold M_Mo_sayValue_j145
  repeat' with_reducible (first | apply yk_B | exact yk_Mo_sayNumber _ | exact yk_R _ | intro _)
theorem yk_Mo_sayValue_j119 (l2 : Int64) (k0 : Nat) : Yk (M_Mo_sayValue_j119 l2 k0) := by
  unfold M_Mo_sayValue_j119
  repeat' with_reducible (first | apply yk_B | apply yk_C | exact yk_Mo_say__ _ | exact yk_Mo_sayValue_j145 _ | exact yk_AI _ _ _ _ | intro _)
theorem yk_Mo_sayValue_j166 (l2 : Int64) (k0 : Nat) : Yk (M_Mo_sayValue_j166 l2 k0) := by
  unfold M_Mo_sayValue_j166
  repeat' with_reducible (first | apply yk_B | exact yk_Mo_say__ _ | exact yk_Mo_sayNumber _ | exact yk_R _ | exact yk_AI _ _ _ _ | intro _)
theorem yk_Mo_sayValue (l1 : Int32) (l2 : Int64) : Yk (M_Mo_sayValue l1 l2) := by
  unfold M_Mo_sayValue
  repeat' with_reducible (first | apply yk_B | apply yk_C | exact yk_Mo_say__ _ | exact yk_Mo_sayNumber _ | exact yk_Mo_say_ _ _ | exact yk_Mo_sayValue_j119 _ _ | exact yk_Mo_sayValue_j166 _ _ | exact yk_R _ | exact yk_AI _ _ _ _ | intro _)
theorem yk_Mo_tostring_j141  : Yk (M_Mo_tostring_j141) := by
  unfold M_Mo_tostring_j141
  repeat' with_reducible (first | apply yk_B | exact yk_R _ | exact yk_PI (by omega) | intro _)
theorem yk_Mo_tostring  : Yk (M_Mo_tostring) := by
  unfold M_Mo_tostring
  repeat' with_reducible (first | apply yk_B | apply yk_C | exact yk_Mo_ak _ | exact yk_Mo_av _ | exact yk_Mo_meta _ _ _ | exact yk_Mo_give _ _ | exact yk_Mo_tostring_j141 | exact yk_Mo_sayValue _ _ | exact yk_Mo_string _ _ _ _ | exact yk_Va_add _ _ _ _ (by omega) | exact yk_Mo_push _ _ | exact yk_R _ | exact yk_GI _ _ | exact yk_GL _ _ | exact yk_PI (by omega) | exact yk_PL (by omega) | intro _)
theorem yk_Mo_join_j245 (l1 : Int32) (l2 : Int32) (l7 : Int32) (l8 : Int32) (l12 : Int32) (l17 : Int32) (k0 : Int32) : Yk (M_Mo_join_j245 l1 l2 l7 l8 l12 l17 k0) := by
  unfold M_Mo_join_j245
  repeat' with_reducible (first | apply yk_B | apply yk_C | exact yk_R _ | exact yk_PI (by omega) | intro _)
theorem yk_Mo_join_j158 (l1 : Int32) (l2 : Int32) (l7 : Int32) (l8 : Int32) (l9 : Int32) (l10 : Int64) (l12 : Int32) (l13 : Int32) (l14 : Int64) (k0 : Int32) (k1 : Int32) : Yk (M_Mo_join_j158 l1 l2 l7 l8 l9 l10 l12 l13 l14 k0 k1) := by
  unfold M_Mo_join_j158
  repeat' with_reducible (first | apply yk_B | apply yk_C | exact yk_Mo_sayValue _ _ | exact yk_Va_add _ _ _ _ (by omega) | exact yk_Mo_string _ _ _ _ | exact yk_Mo_join_j245 _ _ _ _ _ _ _ | exact yk_Mo_raise _ | exact yk_R _ | exact yk_GI _ _ | apply yk_L | intro _)
theorem yk_Mo_join_j139 (l1 : Int32) (l2 : Int32) (l7 : Int32) (l8 : Int32) (l9 : Int32) (l10 : Int64) (l12 : Int32) (l13 : Int32) (l14 : Int64) (k0 : Int32) : Yk (M_Mo_join_j139 l1 l2 l7 l8 l9 l10 l12 l13 l14 k0) := by
  unfold M_Mo_join_j139
  repeat' with_reducible (first | apply yk_B | apply yk_C | exact yk_Mo_join_j158 _ _ _ _ _ _ _ _ _ _ _ | exact yk_AI _ _ _ _ | intro _)
theorem yk_Mo_join_j115 (l1 : Int32) (l2 : Int32) (l7 : Int32) (l8 : Int32) (l9 : Int32) (l10 : Int64) (l12 : Int32) (l13 : Int32) (l14 : Int64) : Yk (M_Mo_join_j115 l1 l2 l7 l8 l9 l10 l12 l13 l14) := by
  unfold M_Mo_join_j115
  repeat' with_reducible (first | apply yk_B | apply yk_C | exact yk_Mo_join_j139 _ _ _ _ _ _ _ _ _ _ | exact yk_PI (by omega) | exact yk_AI _ _ _ _ | intro _)
theorem yk_Mo_join_j103 (l1 : Int32) (l2 : Int32) (l7 : Int32) (l8 : Int32) (l9 : Int32) (l10 : Int64) (l12 : Int32) (l13 : Int32) (l14 : Int64) : Yk (M_Mo_join_j103 l1 l2 l7 l8 l9 l10 l12 l13 l14) := by
  unfold M_Mo_join_j103
  repeat' with_reducible (first | apply yk_C | exact yk_Mo_join_j115 _ _ _ _ _ _ _ _ _ | exact yk_R _ | intro _)
theorem yk_Mo_join_L51 (x) : Yk (M_Mo_join_L51 x) := by
  unfold M_Mo_join_L51
  repeat' with_reducible (first | apply yk_B | apply yk_C | exact yk_Mo_b _ | exact yk_Mo_join_j103 _ _ _ _ _ _ _ _ _ | exact yk_R _ | exact yk_AI _ _ _ _ | exact yk_AL _ _ _ _ | intro _)
theorem yk_Mo_join_j273 (l1 : Int32) (l2 : Int32) (l7 : Int32) (l9 : Int32) (l10 : Int64) (l12 : Int32) (l13 : Int32) (l14 : Int64) : Yk (M_Mo_join_j273 l1 l2 l7 l9 l10 l12 l13 l14) := by
  unfold M_Mo_join_j273
  repeat' with_reducible (first | apply yk_B | apply yk_C | exact yk_Mo_a _ | exact yk_Mo_expect _ _ _ | exact yk_Mo_either _ _ _ _ _ | exact yk_Mo_raise _ | exact yk_R _ | exact yk_SI (by omega) | intro _)
theorem yk_Mo_join (l1 : Int32) (l2 : Int32) (l3 : Int32) (l4 : Int32) (l5 : Int64) : Yk (M_Mo_join l1 l2 l3 l4 l5) := by
  unfold M_Mo_join
  repeat' with_reducible (first | apply yk_B | exact yk_Mo_join_L51 _ | exact yk_Mo_raise _ | exact yk_Mo_join_j273 _ _ _ _ _ _ _ _ | exact yk_Mo_a _ | exact yk_Va_set _ _ _ _ _ (by omega) | exact yk_R _ | exact yk_AI _ _ _ _ | apply yk_W | apply yk_E | intro _)
theorem yk_Mo_middle_j91 (k0 : Int32) (k1 : Int32) (k2r : Nat) (k2 : Int32) (h2 : k2r < 98) : Yk (M_Mo_middle_j91 k0 k1 k2r k2) := by
  unfold M_Mo_middle_j91
  repeat' with_reducible (first | apply yk_B | exact yk_Va_set _ _ _ _ _ (by omega) | exact yk_R _ | intro _)
theorem yk_Mo_middle_j199 (l1 : Int32) (l2 : Int32) (l4 : Int32) : Yk (M_Mo_middle_j199 l1 l2 l4) := by
  unfold M_Mo_middle_j199
  repeat' with_reducible (first | apply yk_B | exact yk_Mo_sbx _ | exact yk_R _ | exact yk_AI _ _ _ _ | exact yk_SI (by omega) | intro _)
theorem yk_Mo_middle_j240 (l1 : Int32) (l2 : Int32) (k0 : Int32) (k1 : Int32) : Yk (M_Mo_middle_j240 l1 l2 k0 k1) := by
  unfold M_Mo_middle_j240
  repeat' with_reducible (first | apply yk_B | apply yk_C | exact yk_R _ | exact yk_AI _ _ _ _ | exact yk_SI (by omega) | intro _)
theorem yk_Mo_middle_j281 (l1 : Int32) (l2 : Int32) (l6r : Nat) (l6 : Int32) (l7 : Int32) (l8 : Int32) (k0 : Int32) (k1 : Int32) (h2 : l6r < 98) : Yk (M_Mo_middle_j281 l1 l2 l6r l6 l7 l8 k0 k1) := by
  unfold M_Mo_middle_j281
  repeat' with_reducible (first | apply yk_B | apply yk_C | exact yk_Va_set_ _ _ _ _ _ _ (by omega) | exact yk_R _ | exact yk_AI _ _ _ _ | exact yk_SI (by omega) | intro _)
theorem yk_Mo_middle (l1 : Int32) (l2 : Int32) (l3 : Int32) (l4 : Int32) (l5 : Int32) (l6r : Nat) (l6 : Int32) (l7 : Int32) (h5 : l6r < 98) : Yk (M_Mo_middle l1 l2 l3 l4 l5 l6r l6 l7) := by
  unfold M_Mo_middle
  repeat' with_reducible (first | apply yk_B | apply yk_C | exact yk_Mo_b _ | exact yk_Mo_truth _ | exact yk_Mo_middle_j91 _ _ _ _ (by omega) | exact yk_Mo_a _ | exact yk_Mo_length _ _ _ _ _ _ (by omega) | exact yk_Mo_c _ | exact yk_Mo_join _ _ _ _ _ | exact yk_Mo_middle_j199 _ _ _ | exact yk_Mo_close _ _ | exact yk_Mo_middle_j240 _ _ _ _ | exact yk_Mo_middle_j281 _ _ _ _ _ _ _ _ (by omega) | exact yk_Mo_compare _ _ _ _ _ | exact yk_R _ | exact yk_AI _ _ _ _ | exact yk_AL _ _ _ _ | apply yk_L | intro _)
theorem yk_Mo_begin_j177 (l1 : Int32) (l2 : Int32) : Yk (M_Mo_begin_j177 l1 l2) := by
  unfold M_Mo_begin_j177
  repeat' with_reducible (first | exact yk_R _ | intro _)
theorem yk_Mo_begin_L104 (x) : Yk (M_Mo_begin_L104 x) := by
  unfold M_Mo_begin_L104
  repeat' with_reducible (first | apply yk_B | apply yk_C | exact yk_Mo_string _ _ _ _ | exact yk_Mo_begin_j177 _ _ | exact yk_R _ | exact yk_GI _ _ | exact yk_AI _ _ _ _ | exact yk_AL _ _ _ _ | exact yk_SI (by omega) | exact yk_SL (by omega) | intro _)
theorem yk_Mo_begin_L185 (x) : Yk (M_Mo_begin_L185 x) := by
  unfold M_Mo_begin_L185
  repeat' with_reducible (first | apply yk_B | apply yk_C | exact yk_Mo_put _ _ _ _ _ | exact yk_R _ | exact yk_GI _ _ | exact yk_AI _ _ _ _ | intro _)
theorem yk_Mo_begin  : Yk (M_Mo_begin) := by
  unfold M_Mo_begin
  repeat' with_reducible (first | apply yk_B | apply yk_C | exact yk_Mo_table | exact yk_Mo_words _ _ _ _ (by omega) | exact yk_Mo_newVariable | exact yk_Va_set _ _ _ _ _ (by omega) | exact yk_Mo_begin_L104 _ | exact yk_Mo_begin_L185 _ | exact yk_Mo_closure _ _ _ | exact yk_Mo_thread_ | exact yk_Mo_enter _ | exact yk_R _ | exact yk_GI _ _ | exact yk_PI (by omega) | exact yk_SI (by omega) | exact yk_K _ | apply yk_W | apply yk_E | intro _)
theorem yk_Mo_print_L72 (x) : Yk (M_Mo_print_L72 x) := by
  unfold M_Mo_print_L72
  repeat' with_reducible (first | apply yk_B | apply yk_C | exact yk_R _ | exact yk_GI _ _ | exact yk_PI (by omega) | exact yk_AI _ _ _ _ | exact yk_SI (by omega) | intro _)
theorem yk_Mo_print_j118 (l1 : Int32) : Yk (M_Mo_print_j118 l1) := by
  unfold M_Mo_print_j118
  repeat' with_reducible (first | exact yk_R _ | intro _)
theorem yk_Mo_print_j70 (l1 : Int32) : Yk (M_Mo_print_j70 l1) := by
  unfold M_Mo_print_j70
  repeat' with_reducible (first | apply yk_B | exact yk_Mo_print_L72 _ | exact yk_Mo_print_j118 _ | apply yk_W | intro _)
theorem yk_Mo_print_j48 (l1 : Int32) : Yk (M_Mo_print_j48 l1) := by
  unfold M_Mo_print_j48
  repeat' with_reducible (first | apply yk_B | exact yk_Mo_sayValue _ _ | exact yk_Mo_print_j70 _ | exact yk_AI _ _ _ _ | exact yk_AL _ _ _ _ | intro _)
theorem yk_Mo_print_L2 (x) : Yk (M_Mo_print_L2 x) := by
  unfold M_Mo_print_L2
  repeat' with_reducible (first | apply yk_B | apply yk_C | exact yk_Mo_say _ | exact yk_Mo_print_j70 _ | exact yk_Mo_print_j48 _ | exact yk_R _ | exact yk_GI _ _ | exact yk_PI (by omega) | intro _)
theorem yk_Mo_print  : Yk (M_Mo_print) := by
  unfold M_Mo_print
  repeat' with_reducible (first | apply yk_B | exact yk_Mo_print_L2 _ | exact yk_Mo_giveNone | exact yk_R _ | apply yk_W | intro _)
theorem yk_Mo_taken_j248 (l1 : Int32) (l2 : Int32) (l3 : Int32) (l7 : Int32) : Yk (M_Mo_taken_j248 l1 l2 l3 l7) := by
  unfold M_Mo_taken_j248
  repeat' with_reducible (first | exact yk_R _ | intro _)
theorem yk_Mo_taken_L178 (x) : Yk (M_Mo_taken_L178 x) := by
  unfold M_Mo_taken_L178
  repeat' with_reducible (first | apply yk_B | apply yk_C | exact yk_Va_set _ _ _ _ _ (by omega) | exact yk_Mo_taken_j248 _ _ _ _ | exact yk_Va_set_ _ _ _ _ _ _ (by omega) | exact yk_R _ | exact yk_GI _ _ | exact yk_AI _ _ _ _ | intro _)
theorem yk_Mo_taken_j350  : Yk (M_Mo_taken_j350) := by
  unfold M_Mo_taken_j350
  repeat' with_reducible (first | apply yk_B | exact yk_R _ | exact yk_PI (by omega) | intro _)
theorem yk_Mo_taken_L116 (x) : Yk (M_Mo_taken_L116 x) := by
  unfold M_Mo_taken_L116
  repeat' with_reducible (first | apply yk_B | apply yk_C | exact yk_Va_add_ _ _ _ _ _ (by omega) | exact yk_R _ | exact yk_GI _ _ | intro _)
theorem yk_Mo_taken_j305 (l1 : Int32) (l2 : Int32) (k0 : Int32) (k1 : Int32) : Yk (M_Mo_taken_j305 l1 l2 k0 k1) := by
  unfold M_Mo_taken_j305
  repeat' with_reducible (first | apply yk_B | apply yk_C | exact yk_Mo_taken_j350 | exact yk_AI _ _ _ _ | exact yk_SI (by omega) | intro _)
theorem yk_Mo_taken_j290 (l1 : Int32) (l2 : Int32) (k0 : Int32) : Yk (M_Mo_taken_j290 l1 l2 k0) := by
  unfold M_Mo_taken_j290
  repeat' with_reducible (first | apply yk_B | apply yk_C | exact yk_Mo_taken_j305 _ _ _ _ | exact yk_AI _ _ _ _ | intro _)
theorem yk_Mo_taken_j55 (l1 : Int32) (l2 : Int32) (l3 : Int32) (l4 : Int32) (k0 : Int64) : Yk (M_Mo_taken_j55 l1 l2 l3 l4 k0) := by
  unfold M_Mo_taken_j55
  repeat' with_reducible (first | apply yk_B | apply yk_C | exact yk_Mo_taken_L178 _ | exact yk_Mo_taken_j350 | exact yk_Mo_taken_L116 _ | exact yk_Va_set _ _ _ _ _ (by omega) | exact yk_Mo_taken_j290 _ _ _ | exact yk_Mo_join _ _ _ _ _ | exact yk_GI _ _ | exact yk_PI (by omega) | exact yk_AI _ _ _ _ | exact yk_SI (by omega) | apply yk_W | intro _)
theorem yk_Mo_taken_j30 (l1 : Int32) (l2 : Int32) (l3 : Int32) (k0 : Int32) : Yk (M_Mo_taken_j30 l1 l2 l3 k0) := by
  unfold M_Mo_taken_j30
  repeat' with_reducible (first | apply yk_B | apply yk_C | exact yk_Mo_taken_j55 _ _ _ _ _ | exact yk_GI _ _ | exact yk_AL _ _ _ _ | intro _)
theorem yk_Mo_taken (l1 : Int32) (l2 : Int32) : Yk (M_Mo_taken l1 l2) := by
  unfold M_Mo_taken
  repeat' with_reducible (first | apply yk_B | apply yk_C | exact yk_Mo_taken_j30 _ _ _ _ | exact yk_GI _ _ | exact yk_AI _ _ _ _ | intro _)
theorem yk_Mo_step  : Yk (M_Mo_step) := by
  unfold M_Mo_step
  repeat' with_reducible (first | apply yk_B | apply yk_C | exact yk_Th_top _ | exact yk_Mo_op _ | exact yk_Mo_a _ | exact yk_Mo_self _ _ _ _ _ _ _ (by omega) | exact yk_Mo_high _ _ _ _ _ _ _ _ (by omega) | exact yk_Mo_middle _ _ _ _ _ _ _ _ (by omega) | exact yk_Mo_arithmetic _ _ _ _ _ _ _ _ (by omega) | exact yk_Mo_small _ _ _ _ _ _ _ _ (by omega) | exact yk_R _ | exact yk_GI _ _ | exact yk_GL _ _ | exact yk_PL (by omega) | exact yk_AI _ _ _ _ | exact yk_SI (by omega) | exact yk_K _ | apply yk_L | intro _)
theorem yk_Mo_builtIn_j388  : Yk (M_Mo_builtIn_j388) := by
  unfold M_Mo_builtIn_j388
  repeat' with_reducible (first | apply yk_B | exact yk_R _ | exact yk_PI (by omega) | intro _)
theorem yk_Mo_builtIn_j158 (k0 : Int32) (k2 : Int32) : Yk (M_Mo_builtIn_j158 k0 k2) := by
  unfold M_Mo_builtIn_j158
  repeat' with_reducible (first | apply yk_B | exact yk_Mo_give _ _ | exact yk_Mo_builtIn_j388 | exact yk_AI _ _ _ _ | intro _)
theorem yk_Mo_builtIn_j252 (k0 : Int32) : Yk (M_Mo_builtIn_j252 k0) := by
  unfold M_Mo_builtIn_j252
  repeat' with_reducible (first | apply yk_B | exact yk_Mo_give _ _ | exact yk_Mo_builtIn_j388 | intro _)
theorem yk_Mo_builtIn_j251  : Yk (M_Mo_builtIn_j251) := by
  unfold M_Mo_builtIn_j251
  repeat' with_reducible (first | exact yk_Mo_builtIn_j252 _ | intro _)
theorem yk_Mo_builtIn_j344 (k0 : Int32) : Yk (M_Mo_builtIn_j344 k0) := by
  unfold M_Mo_builtIn_j344
  repeat' with_reducible (first | apply yk_B | exact yk_Mo_create _ | exact yk_Mo_builtIn_j388 | intro _)
theorem yk_Mo_builtIn (l1 : Int32) : Yk (M_Mo_builtIn l1) := by
  unfold M_Mo_builtIn
  repeat' with_reducible (first | apply yk_B | apply yk_C | exact yk_Mo_print | exact yk_Mo_builtIn_j388 | exact yk_Mo_tostring | exact yk_Mo_ak _ | exact yk_Mo_builtIn_j158 _ _ | exact yk_Mo_av _ | exact yk_Mo_pcall | exact yk_Mo_setMeta | exact yk_Mo_getMeta | exact yk_Mo_rawOf _ | exact yk_Mo_builtIn_j252 _ | exact yk_Mo_builtIn_j251 | exact yk_Mo_next | exact yk_Mo_select | exact yk_Mo_sub | exact yk_Mo_byteOf | exact yk_Mo_characters | exact yk_Mo_is _ _ | exact yk_Mo_raise _ | exact yk_Mo_give _ _ | exact yk_Mo_builtIn_j344 _ | exact yk_Mo_resume | exact yk_Mo_giveWay | exact yk_Mo_state | exact yk_Mo_running | exact yk_Mo_collection | exact yk_R _ | exact yk_GI _ _ | exact yk_PI (by omega) | exact yk_PL (by omega) | exact yk_AI _ _ _ _ | intro _)
theorem yk_Mo_deliver_L126 (x) : Yk (M_Mo_deliver_L126 x) := by
  unfold M_Mo_deliver_L126
  repeat' with_reducible (first | apply yk_B | apply yk_C | exact yk_Va_set_ _ _ _ _ _ _ (by omega) | exact yk_R _ | intro _)
theorem yk_Mo_deliver_j215  : Yk (M_Mo_deliver_j215) := by
  unfold M_Mo_deliver_j215
  repeat' with_reducible (first | apply yk_B | exact yk_Mo_raise _ | exact yk_R _ | exact yk_PI (by omega) | intro _)
theorem yk_Mo_deliver  : Yk (M_Mo_deliver) := by
  unfold M_Mo_deliver
  repeat' with_reducible (first | apply yk_B | apply yk_C | exact yk_Mo_finished | exact yk_Th_top _ | exact yk_Mo_taken _ _ | exact yk_Mo_raise _ | exact yk_Mo_deliver_L126 _ | exact yk_Va_set _ _ _ _ _ (by omega) | exact yk_Mo_deliver_j215 | exact yk_R _ | exact yk_GI _ _ | exact yk_PI (by omega) | exact yk_AI _ _ _ _ | exact yk_K _ | apply yk_W | intro _)
theorem yk_Mo_call_L73 (x) : Yk (M_Mo_call_L73 x) := by
  unfold M_Mo_call_L73
  repeat' with_reducible (first | apply yk_B | apply yk_C | exact yk_Va_set_ _ _ _ _ _ _ (by omega) | exact yk_R _ | intro _)
theorem yk_Mo_call_L7 (x) : Yk (M_Mo_call_L7 x) := by
  unfold M_Mo_call_L7
  repeat' with_reducible (first | apply yk_B | apply yk_C | exact yk_Mo_meta _ _ _ | exact yk_Mo_call_L73 _ | exact yk_Va_set _ _ _ _ _ (by omega) | exact yk_R _ | exact yk_GI _ _ | exact yk_GL _ _ | exact yk_PI (by omega) | exact yk_PL (by omega) | apply yk_W | intro _)
theorem yk_Mo_call  : Yk (M_Mo_call) := by
  unfold M_Mo_call
  repeat' with_reducible (first | apply yk_B | apply yk_C | exact yk_Mo_call_L7 _ | exact yk_Mo_raise _ | exact yk_Mo_enter _ | exact yk_Mo_goesOn _ _ _ _ _ | exact yk_Mo_builtIn _ | exact yk_R _ | exact yk_GI _ _ | exact yk_GL _ _ | exact yk_PI (by omega) | exact yk_AI _ _ _ _ | exact yk_K _ | apply yk_W | apply yk_E | intro _)
theorem yk_Mo_run_L54 (x) : Yk (M_Mo_run_L54 x) := by
  unfold M_Mo_run_L54
  repeat' with_reducible (first | apply yk_B | apply yk_C | exact yk_Mo_call | exact yk_Mo_deliver | exact yk_Mo_error | exact yk_Mo_halt | exact yk_Mo_step | exact yk_R _ | exact yk_GI _ _ | intro _)
theorem yk_Mo_run_j138  : Yk (M_Mo_run_j138) := by
  unfold M_Mo_run_j138
  repeat' with_reducible (first | apply yk_B | exact yk_R _ | exact yk_GI _ _ | intro _)
theorem yk_Mo_run_j44 (l1 : Int32) (k0 : Int32) (k1 : Int32) : Yk (M_Mo_run_j44 l1 k0 k1) := by
  unfold M_Mo_run_j44
  repeat' with_reducible (first | apply yk_B | apply yk_C | exact yk_Mo_refuse _ _ | exact yk_Mo_run_L54 _ | exact yk_Mo_run_j138 | exact yk_R _ | apply yk_W | apply yk_E | intro _)
theorem yk_Mo_run_j24 (l1 : Int32) (k0 : Int32) (k1 : Int32) : Yk (M_Mo_run_j24 l1 k0 k1) := by
  unfold M_Mo_run_j24
  repeat' with_reducible (first | apply yk_B | apply yk_C | exact yk_Mo_refuse _ _ | exact yk_Mo_run_j44 _ _ _ | exact yk_R _ | exact yk_GI _ _ | intro _)
theorem yk_Mo_run_j19 (l1 : Int32) (k0 : Int32) : Yk (M_Mo_run_j19 l1 k0) := by
  unfold M_Mo_run_j19
  repeat' with_reducible (first | exact yk_Mo_run_j24 _ _ _ | intro _)
theorem yk_Mo_run (l1 : Int32) : Yk (M_Mo_run l1) := by
  unfold M_Mo_run
  repeat' with_reducible (first | apply yk_B | apply yk_C | exact yk_Mo_run_j19 _ _ | exact yk_Mo_run_j24 _ _ _ | exact yk_PI (by omega) | intro _)
theorem yk_Mo_proto_j24 (rec : Int32 → Int32 → M (Unit)) (hr : ∀ a b, Yk (rec a b))  : Yk (M_Mo_proto_j24 rec) := by
  unfold M_Mo_proto_j24
  repeat' with_reducible (first | apply yk_B | exact yk_Mo_bad _ _ | exact hr _ _ | exact yk_R _ | exact yk_GI _ _ | intro _)
theorem yk_Mo_proto_L237 (rec) (hr : ∀ a b, Yk (rec a b)) (x) : Yk (M_Mo_proto_L237 rec x) := by
  unfold M_Mo_proto_L237
  repeat' with_reducible (first | apply yk_B | apply yk_C | exact yk_Mo_upvalue _ | exact hr _ _ | exact yk_R _ | exact yk_AI _ _ _ _ | intro _)
theorem yk_Mo_proto_j365 (rec : Int32 → Int32 → M (Unit)) (hr : ∀ a b, Yk (rec a b)) (l2 : Int32) (l3 : Int32) (l4 : Int32) (l5 : Int32) (l6 : Int32) (l7 : Int32) : Yk (M_Mo_proto_j365 rec l2 l3 l4 l5 l6 l7) := by
  unfold M_Mo_proto_j365
  repeat' with_reducible (first | apply yk_B | apply yk_C | exact hr _ _ | exact yk_R _ | exact yk_GI _ _ | exact yk_PI (by omega) | exact yk_SI (by omega) | intro _)
theorem yk_Mo_proto_L307 (rec) (hr : ∀ a b, Yk (rec a b)) (x) : Yk (M_Mo_proto_L307 rec x) := by
  unfold M_Mo_proto_L307
  repeat' with_reducible (first | apply yk_B | apply yk_C | exact yk_Mo_number _ | exact yk_Mo_bad _ _ | exact yk_Mo_proto_j365 rec hr _ _ _ _ _ _ | exact hr _ _ | exact yk_R _ | exact yk_GI _ _ | intro _)
theorem yk_Mo_proto_j505 (rec : Int32 → Int32 → M (Unit)) (hr : ∀ a b, Yk (rec a b)) (l2 : Int32) (l3 : Int32) (l5 : Int32) (l6 : Int32) : Yk (M_Mo_proto_j505 rec l2 l3 l5 l6) := by
  unfold M_Mo_proto_j505
  repeat' with_reducible (first | apply yk_B | exact hr _ _ | exact yk_R _ | intro _)
theorem yk_Mo_proto_L458 (rec) (hr : ∀ a b, Yk (rec a b)) (x) : Yk (M_Mo_proto_L458 rec x) := by
  unfold M_Mo_proto_L458
  repeat' with_reducible (first | apply yk_B | apply yk_C | exact yk_Mo_proto_j505 rec hr _ _ _ _ | exact hr _ _ | exact yk_R _ | exact yk_GI _ _ | exact yk_AI _ _ _ _ | exact yk_SI (by omega) | intro _)
theorem yk_Mo_proto_j410 (rec : Int32 → Int32 → M (Unit)) (hr : ∀ a b, Yk (rec a b)) (l2 : Int32) (l3 : Int32) : Yk (M_Mo_proto_j410 rec l2 l3) := by
  unfold M_Mo_proto_j410
  repeat' with_reducible (first | apply yk_B | apply yk_C | exact yk_Mo_number _ | exact yk_Mo_proto_L458 rec hr _ | exact hr _ _ | exact yk_R _ | exact yk_GI _ _ | exact yk_PI (by omega) | exact yk_SI (by omega) | apply yk_W | intro _)
theorem yk_Mo_proto_j283 (rec : Int32 → Int32 → M (Unit)) (hr : ∀ a b, Yk (rec a b)) (l2 : Int32) (l3 : Int32) (l4 : Int32) (k0 : Int32) : Yk (M_Mo_proto_j283 rec l2 l3 l4 k0) := by
  unfold M_Mo_proto_j283
  repeat' with_reducible (first | apply yk_B | exact yk_Mo_need _ | exact yk_Mo_proto_L307 rec hr _ | exact yk_Mo_proto_j410 rec hr _ _ | exact hr _ _ | exact yk_GI _ _ | exact yk_SI (by omega) | apply yk_W | apply yk_E | intro _)
theorem yk_Mo_proto_j213 (rec : Int32 → Int32 → M (Unit)) (hr : ∀ a b, Yk (rec a b)) (l1 : Int32) (l2 : Int32) (l3 : Int32) (k0 : Int32) : Yk (M_Mo_proto_j213 rec l1 l2 l3 k0) := by
  unfold M_Mo_proto_j213
  repeat' with_reducible (first | apply yk_B | apply yk_C | exact yk_Mo_need _ | exact yk_Mo_proto_L237 rec hr _ | exact yk_Mo_readConstants _ | exact yk_Mo_number _ | exact yk_Mo_proto_j283 rec hr _ _ _ _ | exact hr _ _ | exact yk_R _ | exact yk_GI _ _ | exact yk_SI (by omega) | apply yk_W | intro _)
theorem yk_Mo_proto_j159 (rec : Int32 → Int32 → M (Unit)) (hr : ∀ a b, Yk (rec a b)) (l1 : Int32) (l2 : Int32) (l3 : Int32) (k0 : Int32) : Yk (M_Mo_proto_j159 rec l1 l2 l3 k0) := by
  unfold M_Mo_proto_j159
  repeat' with_reducible (first | apply yk_B | apply yk_C | exact yk_Mo_need _ | exact yk_Mo_number _ | exact yk_Mo_proto_j213 rec hr _ _ _ _ | exact hr _ _ | exact yk_AI _ _ _ _ | exact yk_SI (by omega) | intro _)
theorem yk_Mo_proto_j158 (rec : Int32 → Int32 → M (Unit)) (hr : ∀ a b, Yk (rec a b)) (l1 : Int32) (l2 : Int32) (l3 : Int32) : Yk (M_Mo_proto_j158 rec l1 l2 l3) := by
  unfold M_Mo_proto_j158
  repeat' with_reducible (first | exact yk_Mo_proto_j159 rec hr _ _ _ _ | exact hr _ _ | intro _)
theorem yk_Mo_proto_j101 (rec : Int32 → Int32 → M (Unit)) (hr : ∀ a b, Yk (rec a b)) (l1 : Int32) (l2 : Int32) (l3 : Int32) (k0 : Int32) : Yk (M_Mo_proto_j101 rec l1 l2 l3 k0) := by
  unfold M_Mo_proto_j101
  repeat' with_reducible (first | apply yk_B | apply yk_C | exact yk_Mo_need _ | exact yk_Mo_number _ | exact yk_Mo_proto_j158 rec hr _ _ _ | exact yk_Mo_proto_j159 rec hr _ _ _ _ | exact hr _ _ | exact yk_AI _ _ _ _ | exact yk_SI (by omega) | intro _)
theorem yk_Mo_proto_j100 (rec : Int32 → Int32 → M (Unit)) (hr : ∀ a b, Yk (rec a b)) (l1 : Int32) (l2 : Int32) (l3 : Int32) : Yk (M_Mo_proto_j100 rec l1 l2 l3) := by
  unfold M_Mo_proto_j100
  repeat' with_reducible (first | exact yk_Mo_proto_j101 rec hr _ _ _ _ | exact hr _ _ | intro _)
theorem yk_Mo_proto_j96 (rec : Int32 → Int32 → M (Unit)) (hr : ∀ a b, Yk (rec a b)) (l1 : Int32) (l2 : Int32) (l3 : Int32) : Yk (M_Mo_proto_j96 rec l1 l2 l3) := by
  unfold M_Mo_proto_j96
  repeat' with_reducible (first | exact yk_Mo_proto_j101 rec hr _ _ _ _ | exact hr _ _ | intro _)
theorem yk_Mo_proto_body (rec : Int32 → Int32 → M (Unit)) (hr : ∀ a b, Yk (rec a b)) (l1 : Int32) (l2 : Int32) : Yk (M_Mo_proto_body rec l1 l2) := by
  unfold M_Mo_proto_body
  repeat' with_reducible (first | apply yk_B | apply yk_C | exact yk_Mo_proto_j24 rec hr | exact yk_Mo_number _ | exact yk_Mo_proto_j100 rec hr _ _ _ | exact yk_Mo_proto_j96 rec hr _ _ _ | exact hr _ _ | exact yk_R _ | exact yk_GI _ _ | exact yk_PI (by omega) | exact yk_AI _ _ _ _ | exact yk_SI (by omega) | intro _)
theorem yk_Mo_proto : ∀ (k : Nat) (a b : Int32), Yk (M_Mo_proto k a b)
  | 0, _, _ => yk_F
  | k + 1, a, b => yk_Mo_proto_body (M_Mo_proto k) (yk_Mo_proto k) a b
theorem yk_Mo_clear_L129 (x) : Yk (M_Mo_clear_L129 x) := by
  unfold M_Mo_clear_L129
  repeat' with_reducible (first | apply yk_B | apply yk_C | exact yk_R _ | exact yk_PI (by omega) | exact yk_K _ | intro _)
theorem yk_Mo_clear_j61 (ln : Nat × Nat) : Yk (M_Mo_clear_j61 ln) := by
  unfold M_Mo_clear_j61
  repeat' with_reducible (first | apply yk_B | exact yk_Arr_fill _ _ _ (by omega) | exact yk_Arr_fill___ _ _ _ (by omega) | exact yk_Mo_clear_L129 _ | exact yk_R _ | exact yk_GI _ _ | exact yk_PI (by omega) | exact yk_PL (by omega) | exact yk_K _ | apply yk_W | intro _)
theorem yk_Mo_clear (n0 : Nat × Nat) : Yk (M_Mo_clear n0) := by
  unfold M_Mo_clear
  repeat' with_reducible (first | apply yk_B | apply yk_C | exact yk_Mo_clear_j61 _ | exact yk_GI _ _ | exact yk_Nw _ _ | exact yk_S (yr_nwR (by omega)) | intro _)
theorem yk_Mo_load__j145 (ln : Nat × Nat) (k0 : Int32) (k1 : Int32) : Yk (M_Mo_load__j145 ln k0 k1) := by
  unfold M_Mo_load__j145
  repeat' with_reducible (first | apply yk_B | apply yk_C | exact yk_Mo_refuse _ _ | exact yk_Mo_clear _ | exact yk_R _ | exact yk_GI _ _ | exact yk_PI (by omega) | intro _)
theorem yk_Mo_load__j119 (ln : Nat × Nat) (k0 : Int32) (k1 : Int32) : Yk (M_Mo_load__j119 ln k0 k1) := by
  unfold M_Mo_load__j119
  repeat' with_reducible (first | apply yk_B | apply yk_C | exact yk_Mo_refuse _ _ | exact yk_Mo_clear _ | exact yk_Mo_begin | exact yk_Mo_load__j145 _ _ _ | exact yk_R _ | intro _)
theorem yk_Mo_load__j100 (ln : Nat × Nat) : Yk (M_Mo_load__j100 ln) := by
  unfold M_Mo_load__j100
  repeat' with_reducible (first | apply yk_B | apply yk_C | exact yk_Mo_load__j119 _ _ _ | exact yk_GI _ _ | exact yk_PI (by omega) | intro _)
theorem yk_Mo_load__j89 (ln : Nat × Nat) : Yk (M_Mo_load__j89 ln) := by
  unfold M_Mo_load__j89
  repeat' with_reducible (first | apply yk_B | apply yk_C | exact yk_Mo_lookOver | exact yk_Mo_load__j100 _ | exact yk_GI _ _ | intro _)
theorem yk_Mo_load_ (n0 : Nat × Nat) : Yk (M_Mo_load_ n0) := by
  unfold M_Mo_load_
  repeat' with_reducible (first | apply yk_B | apply yk_C | exact yk_Mo_proto _ _ _ | exact yk_Mo_load__j89 _ | exact yk_Mo_bad _ _ | exact yk_GI _ _ | exact yk_PI (by omega) | intro _)
theorem yk_Mo_feed_L60 (x) : Yk (M_Mo_feed_L60 x) := by
  unfold M_Mo_feed_L60
  repeat' with_reducible (first | apply yk_B | apply yk_C | exact yk_R _ | exact yk_GI _ _ | exact yk_PI (by omega) | exact yk_AI _ _ _ _ | exact yk_SI (by omega) | intro _)
theorem yk_Mo_feed_j22 (l1 : Int32) (l2 : Int32) (l3 : Int32) (l4 : Int32) (l5 : Int32) (ln : Nat × Nat) (k0 : Int32) (k1 : Int32) : Yk (M_Mo_feed_j22 l1 l2 l3 l4 l5 ln k0 k1) := by
  unfold M_Mo_feed_j22
  repeat' with_reducible (first | apply yk_B | apply yk_C | exact yk_Mo_refuse _ _ | exact yk_Mo_feed_L60 _ | exact yk_R _ | exact yk_GI _ _ | exact yk_SI (by omega) | exact yk_Nw _ _ | apply yk_W | exact yk_S (yr_nwR (by omega)) | intro _)
theorem yk_Mo_feed (n0 : Nat × Nat) (l1 : Int32) (l2 : Int32) (l3 : Int32) (l4 : Int32) (l5 : Int32) : Yk (M_Mo_feed n0 l1 l2 l3 l4 l5) := by
  unfold M_Mo_feed
  repeat' with_reducible (first | apply yk_B | apply yk_C | exact yk_Mo_feed_j22 _ _ _ _ _ _ _ _ | exact yk_GI _ _ | exact yk_PI (by omega) | intro _)
