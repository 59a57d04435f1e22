/-! Made by wip/l2n/ugen.py: what was printed stays within its row. -/
theorem n9k_Mo_word_L2 (x) : V9k (M_Mo_word_L2 x) := by
  unfold M_Mo_word_L2
  repeat' with_reducible (first | apply n9k_B | apply n9k_C | exact n9k_R _ | exact n9k_SI | exact n9k_K _ | intro _)
theorem n9k_Mo_word (l1 : Nat) : V9k (M_Mo_word l1) := by
  unfold M_Mo_word
  repeat' with_reducible (first | apply n9k_B | apply n9k_C | exact n9k_Mo_word_L2 _ | exact n9k_Mo_string _ _ _ _ | exact n9k_R _ | exact n9k_SI | apply n9k_W | intro _)
theorem n9k_Mo_words_L2 (x) : V9k (M_Mo_words_L2 x) := by
  unfold M_Mo_words_L2
  repeat' with_reducible (first | apply n9k_B | apply n9k_C | exact n9k_Mo_word _ | exact n9k_R _ | exact n9k_AI _ _ _ _ | exact n9k_SI | exact n9k_K _ | exact n9k_Pr _ _ | intro _)
theorem n9k_Mo_words (l1r : Nat) (l1 : Int32) (l2r : Nat) (l2 : Int32) : V9k (M_Mo_words l1r l1 l2r l2) := by
  unfold M_Mo_words
  repeat' with_reducible (first | apply n9k_B | exact n9k_Mo_words_L2 _ | exact n9k_R _ | apply n9k_W | apply n9k_E | intro _)
theorem n9k_Mo_begin_j177 (l1 : Int32) (l2 : Int32) : V9k (M_Mo_begin_j177 l1 l2) := by
  unfold M_Mo_begin_j177
  repeat' with_reducible (first | exact n9k_R _ | intro _)
theorem n9k_Mo_begin_L104 (x) : V9k (M_Mo_begin_L104 x) := by
  unfold M_Mo_begin_L104
  repeat' with_reducible (first | apply n9k_B | apply n9k_C | exact n9k_Mo_string _ _ _ _ | exact n9k_Mo_begin_j177 _ _ | exact n9k_R _ | exact n9k_GI _ _ | exact n9k_AI _ _ _ _ | exact n9k_AL _ _ _ _ | exact n9k_SI | exact n9k_SL | intro _)
theorem n9k_Mo_begin_L185 (x) : V9k (M_Mo_begin_L185 x) := by
  unfold M_Mo_begin_L185
  repeat' with_reducible (first | apply n9k_B | apply n9k_C | exact n9k_Mo_put _ _ _ _ _ | exact n9k_R _ | exact n9k_GI _ _ | exact n9k_AI _ _ _ _ | intro _)
theorem n9k_Mo_begin  : V9k (M_Mo_begin) := by
  unfold M_Mo_begin
  repeat' with_reducible (first | apply n9k_B | apply n9k_C | exact n9k_Mo_table | exact n9k_Mo_words _ _ _ _ | exact n9k_Mo_newVariable | exact n9k_Va_set _ _ _ _ _ | exact n9k_Mo_begin_L104 _ | exact n9k_Mo_begin_L185 _ | exact n9k_Mo_closure _ _ _ | exact n9k_Mo_thread_ | exact n9k_Mo_enter _ | exact n9k_R _ | exact n9k_GI _ _ | exact n9k_PI (by omega) | exact n9k_SI | exact n9k_K _ | apply n9k_W | apply n9k_E | intro _)
