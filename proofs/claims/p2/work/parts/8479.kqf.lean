/-! Made by wip/l2n/kpgen2.py: who leaves the face alone. -/
theorem kq_Mo_builtIn_j251  : Kq true (M_Mo_builtIn_j251) := by
  unfold M_Mo_builtIn_j251
  repeat' (first | with_reducible (first | exact kq_Mo_builtIn_j252 _ | intro _) | omega)
theorem kq_Mo_builtIn_j344 (k0 : Int32) : Kq true (M_Mo_builtIn_j344 k0) := by
  unfold M_Mo_builtIn_j344
  repeat' (first | with_reducible (first | apply kq_B | exact kq_Mo_create _ | exact kq_Mo_builtIn_j388 | intro _) | omega)
theorem kq_Mo_builtIn (l1 : Int32) : Kq false (M_Mo_builtIn l1) := by
  unfold M_Mo_builtIn
  repeat' (first | with_reducible (first | apply kq_B | apply kq_C | exact kq_Mo_print | exact (kq_Mo_builtIn_j388).weak | exact (kq_Mo_tostring).weak | exact (kq_Mo_ak _).weak | exact (kq_Mo_builtIn_j158 _ _).weak | exact (kq_Mo_av _).weak | exact (kq_Mo_pcall).weak | exact (kq_Mo_setMeta).weak | exact (kq_Mo_getMeta).weak | exact (kq_Mo_rawOf _).weak | exact (kq_Mo_builtIn_j252 _).weak | exact (kq_Mo_builtIn_j251).weak | exact (kq_Mo_next).weak | exact (kq_Mo_select).weak | exact (kq_Mo_sub).weak | exact (kq_Mo_byteOf).weak | exact (kq_Mo_characters).weak | exact (kq_Mo_is _ _).weak | exact (kq_Mo_raise _).weak | exact (kq_Mo_give _ _).weak | exact (kq_Mo_builtIn_j344 _).weak | exact (kq_Mo_resume).weak | exact (kq_Mo_giveWay).weak | exact (kq_Mo_state).weak | exact (kq_Mo_running).weak | exact (kq_Mo_collection).weak | exact kq_R _ | exact kq_GI _ _ | exact kq_PL _ _ _ | exact kq_AI _ _ _ _ | (refine kq_PI ?_) | intro _) | omega)
theorem kq_Mo_deliver_L126 (x) : Kq true (M_Mo_deliver_L126 x) := by
  unfold M_Mo_deliver_L126
  repeat' (first | with_reducible (first | apply kq_B | apply kq_C | exact kq_Va_set_ _ _ _ _ _ _ | exact kq_R _ | intro _) | omega)
theorem kq_Mo_deliver_j215  : Kq true (M_Mo_deliver_j215) := by
  unfold M_Mo_deliver_j215
  repeat' (first | with_reducible (first | apply kq_B | exact kq_Mo_raise _ | exact kq_R _ | (refine kq_PI ?_) | intro _) | omega)
theorem kq_Mo_deliver  : Kq true (M_Mo_deliver) := by
  unfold M_Mo_deliver
  repeat' (first | with_reducible (first | apply kq_B | apply kq_C | exact kq_Mo_finished | exact kq_Th_top _ | exact kq_Mo_taken _ _ | exact kq_Mo_raise _ | exact kq_Mo_deliver_L126 _ | exact kq_Va_set _ _ _ _ _ | exact kq_Mo_deliver_j215 | exact kq_R _ | exact kq_GI _ _ | exact kq_AI _ _ _ _ | exact kq_K _ | apply kq_W | (refine kq_PI ?_) | intro _) | omega)
theorem kq_Mo_call_L73 (x) : Kq true (M_Mo_call_L73 x) := by
  unfold M_Mo_call_L73
  repeat' (first | with_reducible (first | apply kq_B | apply kq_C | exact kq_Va_set_ _ _ _ _ _ _ | exact kq_R _ | intro _) | omega)
theorem kq_Mo_call_L7 (x) : Kq true (M_Mo_call_L7 x) := by
  unfold M_Mo_call_L7
  repeat' (first | with_reducible (first | apply kq_B | apply kq_C | exact kq_Mo_meta _ _ _ | exact kq_Mo_call_L73 _ | exact kq_Va_set _ _ _ _ _ | exact kq_R _ | exact kq_GI _ _ | exact kq_GL _ _ | exact kq_PL _ _ _ | apply kq_W | (refine kq_PI ?_) | intro _) | omega)
theorem kq_Mo_call  : Kq false (M_Mo_call) := by
  unfold M_Mo_call
  repeat' (first | with_reducible (first | apply kq_B | apply kq_C | exact (kq_Mo_call_L7 _).weak | exact (kq_Mo_raise _).weak | exact (kq_Mo_enter _).weak | exact (kq_Mo_goesOn _ _ _ _ _).weak | exact kq_Mo_builtIn _ | exact kq_R _ | exact kq_GI _ _ | exact kq_GL _ _ | exact kq_AI _ _ _ _ | exact kq_K _ | apply kq_W | (refine kq_PI ?_) | apply kq_E | intro _) | omega)
