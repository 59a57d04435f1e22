/-! Made by wip/l2n/ugen.py: what was printed stays within its row. -/
theorem uk_Mo_sayValue (l1 : Int32) (l2 : Int64) : Uk (M_Mo_sayValue l1 l2) := by
  unfold M_Mo_sayValue
  repeat' with_reducible (first | apply uk_B | apply uk_C | exact uk_Mo_say__ _ | exact uk_Mo_sayNumber _ | exact uk_Mo_say_ _ _ | exact uk_Mo_sayValue_j119 _ _ | exact uk_Mo_sayValue_j166 _ _ | exact uk_R _ | exact uk_AI _ _ _ _ | intro _)
theorem uk_Mo_tostring_j141  : Uk (M_Mo_tostring_j141) := by
  unfold M_Mo_tostring_j141
  repeat' with_reducible (first | apply uk_B | exact uk_R _ | exact uk_PI (by omega) | intro _)
theorem uk_Mo_tostring  : Uk (M_Mo_tostring) := by
  unfold M_Mo_tostring
  repeat' with_reducible (first | apply uk_B | apply uk_C | exact uk_Mo_ak _ | exact uk_Mo_av _ | exact uk_Mo_meta _ _ _ | exact uk_Mo_give _ _ | exact uk_Mo_tostring_j141 | exact uk_Mo_sayValue _ _ | exact uk_Mo_string _ _ _ _ | exact uk_Va_add _ _ _ _ | exact uk_Mo_push _ _ | exact uk_R _ | exact uk_GI _ _ | exact uk_GL _ _ | exact uk_PI (by omega) | exact uk_PL | intro _)
theorem uk_Mo_join_j245 (l1 : Int32) (l2 : Int32) (l7 : Int32) (l8 : Int32) (l12 : Int32) (l17 : Int32) (k0 : Int32) : Uk (M_Mo_join_j245 l1 l2 l7 l8 l12 l17 k0) := by
  unfold M_Mo_join_j245
  repeat' with_reducible (first | apply uk_B | apply uk_C | exact uk_R _ | exact uk_PI (by omega) | intro _)
theorem uk_Mo_join_j158 (l1 : Int32) (l2 : Int32) (l7 : Int32) (l8 : Int32) (l9 : Int32) (l10 : Int64) (l12 : Int32) (l13 : Int32) (l14 : Int64) (k0 : Int32) (k1 : Int32) : Uk (M_Mo_join_j158 l1 l2 l7 l8 l9 l10 l12 l13 l14 k0 k1) := by
  unfold M_Mo_join_j158
  repeat' with_reducible (first | apply uk_B | apply uk_C | exact uk_Mo_sayValue _ _ | exact uk_Va_add _ _ _ _ | exact uk_Mo_string _ _ _ _ | exact uk_Mo_join_j245 _ _ _ _ _ _ _ | exact uk_Mo_raise _ | exact uk_R _ | exact uk_GI _ _ | apply uk_L | intro _)
theorem uk_Mo_join_j139 (l1 : Int32) (l2 : Int32) (l7 : Int32) (l8 : Int32) (l9 : Int32) (l10 : Int64) (l12 : Int32) (l13 : Int32) (l14 : Int64) (k0 : Int32) : Uk (M_Mo_join_j139 l1 l2 l7 l8 l9 l10 l12 l13 l14 k0) := by
  unfold M_Mo_join_j139
  repeat' with_reducible (first | apply uk_B | apply uk_C | exact uk_Mo_join_j158 _ _ _ _ _ _ _ _ _ _ _ | exact uk_AI _ _ _ _ | intro _)
theorem uk_Mo_join_j115 (l1 : Int32) (l2 : Int32) (l7 : Int32) (l8 : Int32) (l9 : Int32) (l10 : Int64) (l12 : Int32) (l13 : Int32) (l14 : Int64) : Uk (M_Mo_join_j115 l1 l2 l7 l8 l9 l10 l12 l13 l14) := by
  unfold M_Mo_join_j115
  repeat' with_reducible (first | apply uk_B | apply uk_C | exact uk_Mo_join_j139 _ _ _ _ _ _ _ _ _ _ | exact uk_PI (by omega) | exact uk_AI _ _ _ _ | intro _)
theorem uk_Mo_join_j103 (l1 : Int32) (l2 : Int32) (l7 : Int32) (l8 : Int32) (l9 : Int32) (l10 : Int64) (l12 : Int32) (l13 : Int32) (l14 : Int64) : Uk (M_Mo_join_j103 l1 l2 l7 l8 l9 l10 l12 l13 l14) := by
  unfold M_Mo_join_j103
  repeat' with_reducible (first | apply uk_C | exact uk_Mo_join_j115 _ _ _ _ _ _ _ _ _ | exact uk_R _ | intro _)
theorem uk_Mo_join_L51 (x) : Uk (M_Mo_join_L51 x) := by
  unfold M_Mo_join_L51
  repeat' with_reducible (first | apply uk_B | apply uk_C | exact uk_Mo_b _ | exact uk_Mo_join_j103 _ _ _ _ _ _ _ _ _ | exact uk_R _ | exact uk_AI _ _ _ _ | exact uk_AL _ _ _ _ | intro _)
theorem uk_Mo_join_j273 (l1 : Int32) (l2 : Int32) (l7 : Int32) (l9 : Int32) (l10 : Int64) (l12 : Int32) (l13 : Int32) (l14 : Int64) : Uk (M_Mo_join_j273 l1 l2 l7 l9 l10 l12 l13 l14) := by
  unfold M_Mo_join_j273
  repeat' with_reducible (first | apply uk_B | apply uk_C | exact uk_Mo_a _ | exact uk_Mo_expect _ _ _ | exact uk_Mo_either _ _ _ _ _ | exact uk_Mo_raise _ | exact uk_R _ | exact uk_SI | intro _)
theorem uk_Mo_join (l1 : Int32) (l2 : Int32) (l3 : Int32) (l4 : Int32) (l5 : Int64) : Uk (M_Mo_join l1 l2 l3 l4 l5) := by
  unfold M_Mo_join
  repeat' with_reducible (first | apply uk_B | exact uk_Mo_join_L51 _ | exact uk_Mo_raise _ | exact uk_Mo_join_j273 _ _ _ _ _ _ _ _ | exact uk_Mo_a _ | exact uk_Va_set _ _ _ _ _ | exact uk_R _ | exact uk_AI _ _ _ _ | apply uk_W | apply uk_E | intro _)
theorem uk_Mo_middle_j91 (k0 : Int32) (k1 : Int32) (k2r : Nat) (k2 : Int32) : Uk (M_Mo_middle_j91 k0 k1 k2r k2) := by
  unfold M_Mo_middle_j91
  repeat' with_reducible (first | apply uk_B | exact uk_Va_set _ _ _ _ _ | exact uk_R _ | intro _)
theorem uk_Mo_middle_j199 (l1 : Int32) (l2 : Int32) (l4 : Int32) : Uk (M_Mo_middle_j199 l1 l2 l4) := by
  unfold M_Mo_middle_j199
  repeat' with_reducible (first | apply uk_B | exact uk_Mo_sbx _ | exact uk_R _ | exact uk_AI _ _ _ _ | exact uk_SI | intro _)
theorem uk_Mo_middle_j240 (l1 : Int32) (l2 : Int32) (k0 : Int32) (k1 : Int32) : Uk (M_Mo_middle_j240 l1 l2 k0 k1) := by
  unfold M_Mo_middle_j240
  repeat' with_reducible (first | apply uk_B | apply uk_C | exact uk_R _ | exact uk_AI _ _ _ _ | exact uk_SI | intro _)
theorem uk_Mo_middle_j281 (l1 : Int32) (l2 : Int32) (l6r : Nat) (l6 : Int32) (l7 : Int32) (l8 : Int32) (k0 : Int32) (k1 : Int32) : Uk (M_Mo_middle_j281 l1 l2 l6r l6 l7 l8 k0 k1) := by
  unfold M_Mo_middle_j281
  repeat' with_reducible (first | apply uk_B | apply uk_C | exact uk_Va_set_ _ _ _ _ _ _ | exact uk_R _ | exact uk_AI _ _ _ _ | exact uk_SI | intro _)
theorem uk_Mo_middle (l1 : Int32) (l2 : Int32) (l3 : Int32) (l4 : Int32) (l5 : Int32) (l6r : Nat) (l6 : Int32) (l7 : Int32) : Uk (M_Mo_middle l1 l2 l3 l4 l5 l6r l6 l7) := by
  unfold M_Mo_middle
  repeat' with_reducible (first | apply uk_B | apply uk_C | exact uk_Mo_b _ | exact uk_Mo_truth _ | exact uk_Mo_middle_j91 _ _ _ _ | exact uk_Mo_a _ | exact uk_Mo_length _ _ _ _ _ _ | exact uk_Mo_c _ | exact uk_Mo_join _ _ _ _ _ | exact uk_Mo_middle_j199 _ _ _ | exact uk_Mo_close _ _ | exact uk_Mo_middle_j240 _ _ _ _ | exact uk_Mo_middle_j281 _ _ _ _ _ _ _ _ | exact uk_Mo_compare _ _ _ _ _ | exact uk_R _ | exact uk_AI _ _ _ _ | exact uk_AL _ _ _ _ | apply uk_L | intro _)
theorem uk_Mo_begin_j177 (l1 : Int32) (l2 : Int32) : Uk (M_Mo_begin_j177 l1 l2) := by
  unfold M_Mo_begin_j177
  repeat' with_reducible (first | exact uk_R _ | intro _)
theorem uk_Mo_begin_L104 (x) : Uk (M_Mo_begin_L104 x) := by
  unfold M_Mo_begin_L104
  repeat' with_reducible (first | apply uk_B | apply uk_C | exact uk_Mo_string _ _ _ _ | exact uk_Mo_begin_j177 _ _ | exact uk_R _ | exact uk_GI _ _ | exact uk_AI _ _ _ _ | exact uk_AL _ _ _ _ | exact uk_SI | exact uk_SL | intro _)
theorem uk_Mo_begin_L185 (x) : Uk (M_Mo_begin_L185 x) := by
  unfold M_Mo_begin_L185
  repeat' with_reducible (first | apply uk_B | apply uk_C | exact uk_Mo_put _ _ _ _ _ | exact uk_R _ | exact uk_GI _ _ | exact uk_AI _ _ _ _ | intro _)
theorem uk_Mo_begin  : Uk (M_Mo_begin) := by
  unfold M_Mo_begin
  repeat' with_reducible (first | apply uk_B | apply uk_C | exact uk_Mo_table | exact uk_Mo_words _ _ _ _ | exact uk_Mo_newVariable | exact uk_Va_set _ _ _ _ _ | exact uk_Mo_begin_L104 _ | exact uk_Mo_begin_L185 _ | exact uk_Mo_closure _ _ _ | exact uk_Mo_thread_ | exact uk_Mo_enter _ | exact uk_R _ | exact uk_GI _ _ | exact uk_PI (by omega) | exact uk_SI | exact uk_K _ | apply uk_W | apply uk_E | intro _)
theorem uk_Mo_print_L72 (x) : Uk (M_Mo_print_L72 x) := fun s a t e => by
  refine ⟨?_, fun q => ?_⟩
  · have w : Up2 (M_Mo_print_L72 x) := by
      unfold M_Mo_print_L72
      exact u2_B (u2_GI _ _) fun _ => u2_C (u2_R _) (u2_B (u2_GI _ _) fun _ => u2_C (u2_R _) (u2_B (u2_GI _ _) fun _ => u2_B (u2_PI (by decide)) fun _ => u2_B (u2_AI _ _ _ _) fun _ => u2_B u2_SI fun _ => u2_R _))
    exact w s a t e
  have w : hu (M_Mo_print_L72 x) s (fun _ t => (gI t 95 0).toInt ≤ 20000) := by
    unfold M_Mo_print_L72
    rw [hu_B, hu_GI, hu_C]
    refine ⟨fun _ => (hu_R _ _ _).2 q, fun _ => ?_⟩
    rw [hu_B, hu_GI, hu_C]
    refine ⟨fun _ => (hu_R _ _ _).2 q, fun c => ?_⟩
    rw [hu_B, hu_GI, hu_B, hu_PI]
    have e2 : (20000 : Int32).toInt = 20000 := rfl
    have e1 : (1 : Int32).toInt = 1 := rfl
    have k : (gI (sI s 95 0 (gI s 95 0 + 1)) 95 0).toInt ≤ 20000 := by
      rw [gI_sI, if_pos ⟨rfl, rfl⟩]
      rw [i32_le, e2] at c
      have := (gI s 95 0).le_toInt
      rw [ktI_add] <;> omega
    intro a' t' e'
    exact ((uk_B (uk_AI 87 266800 0 x.2) fun v => uk_B (uk_SI (a := 88) (n := 20000) (i := 0) (j := gI s 95 0) (x := v.toInt8.toInt32)) fun _ => uk_R (Sum.inl (x.1, x.2 + 1))) _ a' t' e').2 k
  exact w a t e
theorem uk_Mo_print_j118 (l1 : Int32) : Uk (M_Mo_print_j118 l1) := by
  unfold M_Mo_print_j118
  repeat' with_reducible (first | exact uk_R _ | intro _)
theorem uk_Mo_print_j70 (l1 : Int32) : Uk (M_Mo_print_j70 l1) := by
  unfold M_Mo_print_j70
  repeat' with_reducible (first | apply uk_B | exact uk_Mo_print_L72 _ | exact uk_Mo_print_j118 _ | apply uk_W | intro _)
theorem uk_Mo_print_j48 (l1 : Int32) : Uk (M_Mo_print_j48 l1) := by
  unfold M_Mo_print_j48
  repeat' with_reducible (first | apply uk_B | exact uk_Mo_sayValue _ _ | exact uk_Mo_print_j70 _ | exact uk_AI _ _ _ _ | exact uk_AL _ _ _ _ | intro _)
theorem uk_Mo_print_L2 (x) : Uk (M_Mo_print_L2 x) := by
  unfold M_Mo_print_L2
  repeat' with_reducible (first | apply uk_B | apply uk_C | exact uk_Mo_say _ | exact uk_Mo_print_j70 _ | exact uk_Mo_print_j48 _ | exact uk_R _ | exact uk_GI _ _ | exact uk_PI (by omega) | intro _)
theorem uk_Mo_print  : Uk (M_Mo_print) := by
  unfold M_Mo_print
  repeat' with_reducible (first | apply uk_B | exact uk_Mo_print_L2 _ | exact uk_Mo_giveNone | exact uk_R _ | apply uk_W | intro _)
theorem uk_Mo_taken_j248 (l1 : Int32) (l2 : Int32) (l3 : Int32) (l7 : Int32) : Uk (M_Mo_taken_j248 l1 l2 l3 l7) := by
  unfold M_Mo_taken_j248
  repeat' with_reducible (first | exact uk_R _ | intro _)
theorem uk_Mo_taken_L178 (x) : Uk (M_Mo_taken_L178 x) := by
  unfold M_Mo_taken_L178
  repeat' with_reducible (first | apply uk_B | apply uk_C | exact uk_Va_set _ _ _ _ _ | exact uk_Mo_taken_j248 _ _ _ _ | exact uk_Va_set_ _ _ _ _ _ _ | exact uk_R _ | exact uk_GI _ _ | exact uk_AI _ _ _ _ | intro _)
theorem uk_Mo_taken_j350  : Uk (M_Mo_taken_j350) := by
  unfold M_Mo_taken_j350
  repeat' with_reducible (first | apply uk_B | exact uk_R _ | exact uk_PI (by omega) | intro _)
theorem uk_Mo_taken_L116 (x) : Uk (M_Mo_taken_L116 x) := by
  unfold M_Mo_taken_L116
  repeat' with_reducible (first | apply uk_B | apply uk_C | exact uk_Va_add_ _ _ _ _ _ | exact uk_R _ | exact uk_GI _ _ | intro _)
theorem uk_Mo_taken_j305 (l1 : Int32) (l2 : Int32) (k0 : Int32) (k1 : Int32) : Uk (M_Mo_taken_j305 l1 l2 k0 k1) := by
  unfold M_Mo_taken_j305
  repeat' with_reducible (first | apply uk_B | apply uk_C | exact uk_Mo_taken_j350 | exact uk_AI _ _ _ _ | exact uk_SI | intro _)
theorem uk_Mo_taken_j290 (l1 : Int32) (l2 : Int32) (k0 : Int32) : Uk (M_Mo_taken_j290 l1 l2 k0) := by
  unfold M_Mo_taken_j290
  repeat' with_reducible (first | apply uk_B | apply uk_C | exact uk_Mo_taken_j305 _ _ _ _ | exact uk_AI _ _ _ _ | intro _)
theorem uk_Mo_taken_j55 (l1 : Int32) (l2 : Int32) (l3 : Int32) (l4 : Int32) (k0 : Int64) : Uk (M_Mo_taken_j55 l1 l2 l3 l4 k0) := by
  unfold M_Mo_taken_j55
  repeat' with_reducible (first | apply uk_B | apply uk_C | exact uk_Mo_taken_L178 _ | exact uk_Mo_taken_j350 | exact uk_Mo_taken_L116 _ | exact uk_Va_set _ _ _ _ _ | exact uk_Mo_taken_j290 _ _ _ | exact uk_Mo_join _ _ _ _ _ | exact uk_GI _ _ | exact uk_PI (by omega) | exact uk_AI _ _ _ _ | exact uk_SI | apply uk_W | intro _)
theorem uk_Mo_taken_j30 (l1 : Int32) (l2 : Int32) (l3 : Int32) (k0 : Int32) : Uk (M_Mo_taken_j30 l1 l2 l3 k0) := by
  unfold M_Mo_taken_j30
  repeat' with_reducible (first | apply uk_B | apply uk_C | exact uk_Mo_taken_j55 _ _ _ _ _ | exact uk_GI _ _ | exact uk_AL _ _ _ _ | intro _)
theorem uk_Mo_taken (l1 : Int32) (l2 : Int32) : Uk (M_Mo_taken l1 l2) := by
  unfold M_Mo_taken
  repeat' with_reducible (first | apply uk_B | apply uk_C | exact uk_Mo_taken_j30 _ _ _ _ | exact uk_GI _ _ | exact uk_AI _ _ _ _ | intro _)
theorem uk_Mo_step  : Uk (M_Mo_step) := by
  unfold M_Mo_step
  repeat' with_reducible (first | apply uk_B | apply uk_C | exact uk_Th_top _ | exact uk_Mo_op _ | exact uk_Mo_a _ | exact uk_Mo_self _ _ _ _ _ _ _ | exact uk_Mo_high _ _ _ _ _ _ _ _ | exact uk_Mo_middle _ _ _ _ _ _ _ _ | exact uk_Mo_arithmetic _ _ _ _ _ _ _ _ | exact uk_Mo_small _ _ _ _ _ _ _ _ | exact uk_R _ | exact uk_GI _ _ | exact uk_GL _ _ | exact uk_PL | exact uk_AI _ _ _ _ | exact uk_SI | exact uk_K _ | apply uk_L | intro _)
theorem uk_Mo_builtIn_j388  : Uk (M_Mo_builtIn_j388) := by
  unfold M_Mo_builtIn_j388
  repeat' with_reducible (first | apply uk_B | exact uk_R _ | exact uk_PI (by omega) | intro _)
theorem uk_Mo_builtIn_j158 (k0 : Int32) (k2 : Int32) : Uk (M_Mo_builtIn_j158 k0 k2) := by
  unfold M_Mo_builtIn_j158
  repeat' with_reducible (first | apply uk_B | exact uk_Mo_give _ _ | exact uk_Mo_builtIn_j388 | exact uk_AI _ _ _ _ | intro _)
theorem uk_Mo_builtIn_j252 (k0 : Int32) : Uk (M_Mo_builtIn_j252 k0) := by
  unfold M_Mo_builtIn_j252
  repeat' with_reducible (first | apply uk_B | exact uk_Mo_give _ _ | exact uk_Mo_builtIn_j388 | intro _)
theorem uk_Mo_builtIn_j251  : Uk (M_Mo_builtIn_j251) := by
  unfold M_Mo_builtIn_j251
  repeat' with_reducible (first | exact uk_Mo_builtIn_j252 _ | intro _)
theorem uk_Mo_builtIn_j344 (k0 : Int32) : Uk (M_Mo_builtIn_j344 k0) := by
  unfold M_Mo_builtIn_j344
  repeat' with_reducible (first | apply uk_B | exact uk_Mo_create _ | exact uk_Mo_builtIn_j388 | intro _)
theorem uk_Mo_builtIn (l1 : Int32) : Uk (M_Mo_builtIn l1) := by
  unfold M_Mo_builtIn
  repeat' with_reducible (first | apply uk_B | apply uk_C | exact uk_Mo_print | exact uk_Mo_builtIn_j388 | exact uk_Mo_tostring | exact uk_Mo_ak _ | exact uk_Mo_builtIn_j158 _ _ | exact uk_Mo_av _ | exact uk_Mo_pcall | exact uk_Mo_setMeta | exact uk_Mo_getMeta | exact uk_Mo_rawOf _ | exact uk_Mo_builtIn_j252 _ | exact uk_Mo_builtIn_j251 | exact uk_Mo_next | exact uk_Mo_select | exact uk_Mo_sub | exact uk_Mo_byteOf | exact uk_Mo_characters | exact uk_Mo_is _ _ | exact uk_Mo_raise _ | exact uk_Mo_give _ _ | exact uk_Mo_builtIn_j344 _ | exact uk_Mo_resume | exact uk_Mo_giveWay | exact uk_Mo_state | exact uk_Mo_running | exact uk_Mo_collection | exact uk_R _ | exact uk_GI _ _ | exact uk_PI (by omega) | exact uk_PL | exact uk_AI _ _ _ _ | intro _)
theorem uk_Mo_deliver_L126 (x) : Uk (M_Mo_deliver_L126 x) := by
  unfold M_Mo_deliver_L126
  repeat' with_reducible (first | apply uk_B | apply uk_C | exact uk_Va_set_ _ _ _ _ _ _ | exact uk_R _ | intro _)
theorem uk_Mo_deliver_j215  : Uk (M_Mo_deliver_j215) := by
  unfold M_Mo_deliver_j215
  repeat' with_reducible (first | apply uk_B | exact uk_Mo_raise _ | exact uk_R _ | exact uk_PI (by omega) | intro _)
theorem uk_Mo_deliver  : Uk (M_Mo_deliver) := by
  unfold M_Mo_deliver
  repeat' with_reducible (first | apply uk_B | apply uk_C | exact uk_Mo_finished | exact uk_Th_top _ | exact uk_Mo_taken _ _ | exact uk_Mo_raise _ | exact uk_Mo_deliver_L126 _ | exact uk_Va_set _ _ _ _ _ | exact uk_Mo_deliver_j215 | exact uk_R _ | exact uk_GI _ _ | exact uk_PI (by omega) | exact uk_AI _ _ _ _ | exact uk_K _ | apply uk_W | intro _)
theorem uk_Mo_call_L73 (x) : Uk (M_Mo_call_L73 x) := by
  unfold M_Mo_call_L73
  repeat' with_reducible (first | apply uk_B | apply uk_C | exact uk_Va_set_ _ _ _ _ _ _ | exact uk_R _ | intro _)
theorem uk_Mo_call_L7 (x) : Uk (M_Mo_call_L7 x) := by
  unfold M_Mo_call_L7
  repeat' with_reducible (first | apply uk_B | apply uk_C | exact uk_Mo_meta _ _ _ | exact uk_Mo_call_L73 _ | exact uk_Va_set _ _ _ _ _ | exact uk_R _ | exact uk_GI _ _ | exact uk_GL _ _ | exact uk_PI (by omega) | exact uk_PL | apply uk_W | intro _)
theorem uk_Mo_call  : Uk (M_Mo_call) := by
  unfold M_Mo_call
  repeat' with_reducible (first | apply uk_B | apply uk_C | exact uk_Mo_call_L7 _ | exact uk_Mo_raise _ | exact uk_Mo_enter _ | exact uk_Mo_goesOn _ _ _ _ _ | exact uk_Mo_builtIn _ | exact uk_R _ | exact uk_GI _ _ | exact uk_GL _ _ | exact uk_PI (by omega) | exact uk_AI _ _ _ _ | exact uk_K _ | apply uk_W | apply uk_E | intro _)
theorem uk_Mo_run_L54 (x) : Uk (M_Mo_run_L54 x) := by
  unfold M_Mo_run_L54
  repeat' with_reducible (first | apply uk_B | apply uk_C | exact uk_Mo_call | exact uk_Mo_deliver | exact uk_Mo_error | exact uk_Mo_halt | exact uk_Mo_step | exact uk_R _ | exact uk_GI _ _ | intro _)
theorem uk_Mo_run_j138  : Uk (M_Mo_run_j138) := by
  unfold M_Mo_run_j138
  repeat' with_reducible (first | apply uk_B | exact uk_R _ | exact uk_GI _ _ | intro _)
theorem uk_Mo_run_j44 (l1 : Int32) (k0 : Int32) (k1 : Int32) : Uk (M_Mo_run_j44 l1 k0 k1) := by
  unfold M_Mo_run_j44
  repeat' with_reducible (first | apply uk_B | apply uk_C | exact uk_Mo_refuse _ _ | exact uk_Mo_run_L54 _ | exact uk_Mo_run_j138 | exact uk_R _ | apply uk_W | apply uk_E | intro _)
theorem uk_Mo_run_j24 (l1 : Int32) (k0 : Int32) (k1 : Int32) : Uk (M_Mo_run_j24 l1 k0 k1) := by
  unfold M_Mo_run_j24
  repeat' with_reducible (first | apply uk_B | apply uk_C | exact uk_Mo_refuse _ _ | exact uk_Mo_run_j44 _ _ _ | exact uk_R _ | exact uk_GI _ _ | intro _)
theorem uk_Mo_run_j19 (l1 : Int32) (k0 : Int32) : Uk (M_Mo_run_j19 l1 k0) := by
  unfold M_Mo_run_j19
  repeat' with_reducible (first | exact uk_Mo_run_j24 _ _ _ | intro _)
theorem uk_Mo_run (l1 : Int32) : Uk (M_Mo_run l1) := by
  unfold M_Mo_run
  repeat' with_reducible (first | apply uk_B | apply uk_C | exact uk_Mo_run_j19 _ _ | exact uk_Mo_run_j24 _ _ _ | exact uk_PI (by omega) | intro _)
theorem uk_Mo_proto_j24 (rec : Int32 → Int32 → M (Unit)) (hr : ∀ a b, Uk (rec a b))  : Uk (M_Mo_proto_j24 rec) := by
  unfold M_Mo_proto_j24
  repeat' with_reducible (first | apply uk_B | exact uk_Mo_bad _ _ | exact hr _ _ | exact uk_R _ | exact uk_GI _ _ | intro _)
theorem uk_Mo_proto_L237 (rec) (hr : ∀ a b, Uk (rec a b)) (x) : Uk (M_Mo_proto_L237 rec x) := by
  unfold M_Mo_proto_L237
  repeat' with_reducible (first | apply uk_B | apply uk_C | exact uk_Mo_upvalue _ | exact hr _ _ | exact uk_R _ | exact uk_AI _ _ _ _ | intro _)
theorem uk_Mo_proto_j365 (rec : Int32 → Int32 → M (Unit)) (hr : ∀ a b, Uk (rec a b)) (l2 : Int32) (l3 : Int32) (l4 : Int32) (l5 : Int32) (l6 : Int32) (l7 : Int32) : Uk (M_Mo_proto_j365 rec l2 l3 l4 l5 l6 l7) := by
  unfold M_Mo_proto_j365
  repeat' with_reducible (first | apply uk_B | apply uk_C | exact hr _ _ | exact uk_R _ | exact uk_GI _ _ | exact uk_PI (by omega) | exact uk_SI | intro _)
theorem uk_Mo_proto_L307 (rec) (hr : ∀ a b, Uk (rec a b)) (x) : Uk (M_Mo_proto_L307 rec x) := by
  unfold M_Mo_proto_L307
  repeat' with_reducible (first | apply uk_B | apply uk_C | exact uk_Mo_number _ | exact uk_Mo_bad _ _ | exact uk_Mo_proto_j365 rec hr _ _ _ _ _ _ | exact hr _ _ | exact uk_R _ | exact uk_GI _ _ | intro _)
theorem uk_Mo_proto_j505 (rec : Int32 → Int32 → M (Unit)) (hr : ∀ a b, Uk (rec a b)) (l2 : Int32) (l3 : Int32) (l5 : Int32) (l6 : Int32) : Uk (M_Mo_proto_j505 rec l2 l3 l5 l6) := by
  unfold M_Mo_proto_j505
  repeat' with_reducible (first | apply uk_B | exact hr _ _ | exact uk_R _ | intro _)
theorem uk_Mo_proto_L458 (rec) (hr : ∀ a b, Uk (rec a b)) (x) : Uk (M_Mo_proto_L458 rec x) := by
  unfold M_Mo_proto_L458
  repeat' with_reducible (first | apply uk_B | apply uk_C | exact uk_Mo_proto_j505 rec hr _ _ _ _ | exact hr _ _ | exact uk_R _ | exact uk_GI _ _ | exact uk_AI _ _ _ _ | exact uk_SI | intro _)
theorem uk_Mo_proto_j410 (rec : Int32 → Int32 → M (Unit)) (hr : ∀ a b, Uk (rec a b)) (l2 : Int32) (l3 : Int32) : Uk (M_Mo_proto_j410 rec l2 l3) := by
  unfold M_Mo_proto_j410
  repeat' with_reducible (first | apply uk_B | apply uk_C | exact uk_Mo_number _ | exact uk_Mo_proto_L458 rec hr _ | exact hr _ _ | exact uk_R _ | exact uk_GI _ _ | exact uk_PI (by omega) | exact uk_SI | apply uk_W | intro _)
theorem uk_Mo_proto_j283 (rec : Int32 → Int32 → M (Unit)) (hr : ∀ a b, Uk (rec a b)) (l2 : Int32) (l3 : Int32) (l4 : Int32) (k0 : Int32) : Uk (M_Mo_proto_j283 rec l2 l3 l4 k0) := by
  unfold M_Mo_proto_j283
  repeat' with_reducible (first | apply uk_B | exact uk_Mo_need _ | exact uk_Mo_proto_L307 rec hr _ | exact uk_Mo_proto_j410 rec hr _ _ | exact hr _ _ | exact uk_GI _ _ | exact uk_SI | apply uk_W | apply uk_E | intro _)
theorem uk_Mo_proto_j213 (rec : Int32 → Int32 → M (Unit)) (hr : ∀ a b, Uk (rec a b)) (l1 : Int32) (l2 : Int32) (l3 : Int32) (k0 : Int32) : Uk (M_Mo_proto_j213 rec l1 l2 l3 k0) := by
  unfold M_Mo_proto_j213
  repeat' with_reducible (first | apply uk_B | apply uk_C | exact uk_Mo_need _ | exact uk_Mo_proto_L237 rec hr _ | exact uk_Mo_readConstants _ | exact uk_Mo_number _ | exact uk_Mo_proto_j283 rec hr _ _ _ _ | exact hr _ _ | exact uk_R _ | exact uk_GI _ _ | exact uk_SI | apply uk_W | intro _)
theorem uk_Mo_proto_j159 (rec : Int32 → Int32 → M (Unit)) (hr : ∀ a b, Uk (rec a b)) (l1 : Int32) (l2 : Int32) (l3 : Int32) (k0 : Int32) : Uk (M_Mo_proto_j159 rec l1 l2 l3 k0) := by
  unfold M_Mo_proto_j159
  repeat' with_reducible (first | apply uk_B | apply uk_C | exact uk_Mo_need _ | exact uk_Mo_number _ | exact uk_Mo_proto_j213 rec hr _ _ _ _ | exact hr _ _ | exact uk_AI _ _ _ _ | exact uk_SI | intro _)
theorem uk_Mo_proto_j158 (rec : Int32 → Int32 → M (Unit)) (hr : ∀ a b, Uk (rec a b)) (l1 : Int32) (l2 : Int32) (l3 : Int32) : Uk (M_Mo_proto_j158 rec l1 l2 l3) := by
  unfold M_Mo_proto_j158
  repeat' with_reducible (first | exact uk_Mo_proto_j159 rec hr _ _ _ _ | exact hr _ _ | intro _)
theorem uk_Mo_proto_j101 (rec : Int32 → Int32 → M (Unit)) (hr : ∀ a b, Uk (rec a b)) (l1 : Int32) (l2 : Int32) (l3 : Int32) (k0 : Int32) : Uk (M_Mo_proto_j101 rec l1 l2 l3 k0) := by
  unfold M_Mo_proto_j101
  repeat' with_reducible (first | apply uk_B | apply uk_C | exact uk_Mo_need _ | exact uk_Mo_number _ | exact uk_Mo_proto_j158 rec hr _ _ _ | exact uk_Mo_proto_j159 rec hr _ _ _ _ | exact hr _ _ | exact uk_AI _ _ _ _ | exact uk_SI | intro _)
theorem uk_Mo_proto_j100 (rec : Int32 → Int32 → M (Unit)) (hr : ∀ a b, Uk (rec a b)) (l1 : Int32) (l2 : Int32) (l3 : Int32) : Uk (M_Mo_proto_j100 rec l1 l2 l3) := by
  unfold M_Mo_proto_j100
  repeat' with_reducible (first | exact uk_Mo_proto_j101 rec hr _ _ _ _ | exact hr _ _ | intro _)
theorem uk_Mo_proto_j96 (rec : Int32 → Int32 → M (Unit)) (hr : ∀ a b, Uk (rec a b)) (l1 : Int32) (l2 : Int32) (l3 : Int32) : Uk (M_Mo_proto_j96 rec l1 l2 l3) := by
  unfold M_Mo_proto_j96
  repeat' with_reducible (first | exact uk_Mo_proto_j101 rec hr _ _ _ _ | exact hr _ _ | intro _)
theorem uk_Mo_proto_body (rec : Int32 → Int32 → M (Unit)) (hr : ∀ a b, Uk (rec a b)) (l1 : Int32) (l2 : Int32) : Uk (M_Mo_proto_body rec l1 l2) := by
  unfold M_Mo_proto_body
  repeat' with_reducible (first | apply uk_B | apply uk_C | exact uk_Mo_proto_j24 rec hr | exact uk_Mo_number _ | exact uk_Mo_proto_j100 rec hr _ _ _ | exact uk_Mo_proto_j96 rec hr _ _ _ | exact hr _ _ | exact uk_R _ | exact uk_GI _ _ | exact uk_PI (by omega) | exact uk_AI _ _ _ _ | exact uk_SI | intro _)
theorem uk_Mo_proto : ∀ (k : Nat) (a b : Int32), Uk (M_Mo_proto k a b)
  | 0, _, _ => uk_F
  | k + 1, a, b => uk_Mo_proto_body (M_Mo_proto k) (uk_Mo_proto k) a b
theorem uk_Mo_clear_L129 (x) : Uk (M_Mo_clear_L129 x) := by
  unfold M_Mo_clear_L129
  repeat' with_reducible (first | apply uk_B | apply uk_C | exact uk_R _ | exact uk_PI (by omega) | exact uk_K _ | intro _)
theorem uk_Mo_clear_j61 (ln : Nat × Nat) : Uk (M_Mo_clear_j61 ln) := by
  unfold M_Mo_clear_j61
  repeat' with_reducible (first | apply uk_B | exact uk_Arr_fill _ _ _ | exact uk_Arr_fill___ _ _ _ | exact uk_Mo_clear_L129 _ | exact uk_PI0 | exact uk_R _ | exact uk_GI _ _ | exact uk_PI (by omega) | exact uk_PL | exact uk_K _ | apply uk_W | intro _)
theorem uk_Mo_clear (n0 : Nat × Nat) : Uk (M_Mo_clear n0) := by
  unfold M_Mo_clear
  repeat' with_reducible (first | apply uk_B | apply uk_C | exact uk_Mo_clear_j61 _ | exact uk_GI _ _ | exact uk_Nw _ _ | exact uk_S ur_nwR | intro _)
