/-! Made by wip/l2n/kpgen2.py: who leaves the face alone. -/
theorem kq_Mo_raw_j15 (k0 : Int32) : Kq true (M_Mo_raw_j15 k0) := by
  unfold M_Mo_raw_j15
  repeat' (first | with_reducible (first | apply kq_B | apply kq_C | exact kq_Mo_raw_j34 _ _ | exact kq_GI _ _ | exact kq_AI _ _ _ _ | exact kq_K _ | intro _) | omega)
theorem kq_Mo_raw (l1 : Int32) (l2 : Int32) (l3 : Int64) : Kq true (M_Mo_raw l1 l2 l3) := by
  unfold M_Mo_raw
  repeat' (first | with_reducible (first | apply kq_B | apply kq_C | exact kq_Mo_raw_j15 _ | exact kq_Mo_entry _ _ _ | intro _) | omega)
theorem kq_Mo_setMeta_j27  : Kq true (M_Mo_setMeta_j27) := by
  unfold M_Mo_setMeta_j27
  repeat' (first | with_reducible (first | apply kq_B | exact kq_Mo_raise _ | exact kq_R _ | intro _) | omega)
theorem kq_Mo_setMeta_j104 (l1 : Int32) (k0 : Int32) (k1 : Int32) : Kq true (M_Mo_setMeta_j104 l1 k0 k1) := by
  unfold M_Mo_setMeta_j104
  repeat' (first | with_reducible (first | apply kq_B | exact kq_Mo_give _ _ | exact kq_R _ | exact kq_SI _ _ _ _ _ | intro _) | omega)
theorem kq_Mo_setMeta_j80 (l1 : Int32) : Kq true (M_Mo_setMeta_j80 l1) := by
  unfold M_Mo_setMeta_j80
  repeat' (first | with_reducible (first | apply kq_B | apply kq_C | exact kq_Mo_is _ _ | exact kq_Mo_setMeta_j104 _ _ _ | exact kq_Mo_av _ | intro _) | omega)
theorem kq_Mo_setMeta_j34  : Kq true (M_Mo_setMeta_j34) := by
  unfold M_Mo_setMeta_j34
  repeat' (first | with_reducible (first | apply kq_B | apply kq_C | exact kq_Mo_av _ | exact kq_Mo_setMeta_j80 _ | exact kq_Mo_raw _ _ _ | exact kq_Mo_raise _ | exact kq_R _ | exact kq_AI _ _ _ _ | intro _) | omega)
theorem kq_Mo_setMeta  : Kq true (M_Mo_setMeta) := by
  unfold M_Mo_setMeta
  repeat' (first | with_reducible (first | apply kq_B | apply kq_C | exact kq_Mo_is _ _ | exact kq_Mo_setMeta_j27 | exact kq_Mo_setMeta_j34 | intro _) | omega)
theorem kq_Mo_getMeta_j23  : Kq true (M_Mo_getMeta_j23) := by
  unfold M_Mo_getMeta_j23
  repeat' (first | with_reducible (first | apply kq_B | exact kq_Mo_give _ _ | exact kq_R _ | intro _) | omega)
theorem kq_Mo_getMeta  : Kq true (M_Mo_getMeta) := by
  unfold M_Mo_getMeta
  repeat' (first | with_reducible (first | apply kq_B | apply kq_C | exact kq_Mo_is _ _ | exact kq_Mo_getMeta_j23 | exact kq_Mo_av _ | exact kq_Mo_raw _ _ _ | exact kq_Mo_give _ _ | exact kq_R _ | exact kq_GI _ _ | exact kq_GL _ _ | exact kq_AI _ _ _ _ | intro _) | omega)
theorem kq_Mo_border_L2 (x) : Kq true (M_Mo_border_L2 x) := by
  unfold M_Mo_border_L2
  repeat' (first | with_reducible (first | apply kq_B | apply kq_C | exact kq_Mo_raw _ _ _ | exact kq_R _ | apply kq_L | intro _) | omega)
theorem kq_Mo_border (l1 : Int32) : Kq true (M_Mo_border l1) := by
  unfold M_Mo_border
  repeat' (first | with_reducible (first | apply kq_B | exact kq_Mo_border_L2 _ | exact kq_R _ | apply kq_W | intro _) | omega)
theorem kq_Mo_next_L85 (x) : Kq true (M_Mo_next_L85 x) := by
  unfold M_Mo_next_L85
  repeat' (first | with_reducible (first | apply kq_B | apply kq_C | exact kq_R _ | exact kq_GI _ _ | exact kq_AI _ _ _ _ | exact kq_K _ | intro _) | omega)
theorem kq_Mo_next_j105 (l2 : Int32) (l3 : Int32) : Kq true (M_Mo_next_j105 l2 l3) := by
  unfold M_Mo_next_j105
  repeat' (first | with_reducible (first | apply kq_B | apply kq_C | exact kq_Mo_give _ _ | exact kq_Va_add _ _ _ _ | exact kq_R _ | exact kq_GI _ _ | exact kq_AI _ _ _ _ | exact kq_AL _ _ _ _ | exact kq_K _ | intro _) | omega)
theorem kq_Mo_next_j71 (l1 : Int32) (l2 : Int32) : Kq true (M_Mo_next_j71 l1 l2) := by
  unfold M_Mo_next_j71
  repeat' (first | with_reducible (first | apply kq_B | exact kq_Mo_next_L85 _ | exact kq_Mo_next_j105 _ _ | exact kq_AI _ _ _ _ | apply kq_L | apply kq_W | intro _) | omega)
theorem kq_Mo_next  : Kq true (M_Mo_next) := by
  unfold M_Mo_next
  repeat' (first | with_reducible (first | apply kq_B | apply kq_C | exact kq_Mo_is _ _ | exact kq_Mo_raise _ | exact kq_Mo_av _ | exact kq_Mo_ak _ | exact kq_Mo_entry _ _ _ | exact kq_Mo_next_j71 _ _ | exact kq_R _ | exact kq_AI _ _ _ _ | apply kq_L | intro _) | omega)
theorem kq_Mo_select_j57  : Kq true (M_Mo_select_j57) := by
  unfold M_Mo_select_j57
  repeat' (first | with_reducible (first | apply kq_B | exact kq_Mo_raise _ | exact kq_R _ | intro _) | omega)
theorem kq_Mo_select_L75 (x) : Kq true (M_Mo_select_L75 x) := by
  unfold M_Mo_select_L75
  repeat' (first | with_reducible (first | apply kq_B | apply kq_C | exact kq_Va_add_ _ _ _ _ _ | exact kq_R _ | exact kq_GI _ _ | apply kq_L | intro _) | omega)
theorem kq_Mo_select_j38  : Kq true (M_Mo_select_j38) := by
  unfold M_Mo_select_j38
  repeat' (first | with_reducible (first | apply kq_B | apply kq_C | exact kq_Mo_is _ _ | exact kq_Mo_select_j57 | exact kq_Mo_av _ | exact kq_Mo_giveNone | exact kq_Mo_select_L75 _ | exact kq_R _ | apply kq_W | intro _) | omega)
theorem kq_Mo_select  : Kq true (M_Mo_select) := by
  unfold M_Mo_select
  repeat' (first | with_reducible (first | apply kq_B | apply kq_C | exact kq_Mo_is _ _ | exact kq_Mo_select_j38 | exact kq_Mo_av _ | exact kq_Mo_isMark _ | exact kq_Mo_give _ _ | exact kq_R _ | exact kq_GI _ _ | intro _) | omega)
theorem kq_Mo_resume  : Kq true (M_Mo_resume) := by
  unfold M_Mo_resume
  repeat' (first | with_reducible (first | apply kq_B | apply kq_C | exact kq_Mo_is _ _ | exact kq_Mo_raise _ | exact kq_Mo_av _ | exact kq_Mo_goesOn _ _ _ _ _ | exact kq_R _ | exact kq_AI _ _ _ _ | exact kq_K _ | (refine kq_PI ?_) | intro _) | omega)
theorem kq_Mo_giveWay_L41 (x) : Kq true (M_Mo_giveWay_L41 x) := by
  unfold M_Mo_giveWay_L41
  repeat' (first | with_reducible (first | apply kq_B | apply kq_C | exact kq_Va_add_ _ _ _ _ _ | exact kq_R _ | exact kq_GI _ _ | intro _) | omega)
theorem kq_Mo_giveWay  : Kq true (M_Mo_giveWay) := by
  unfold M_Mo_giveWay
  repeat' (first | with_reducible (first | apply kq_B | apply kq_C | exact kq_Mo_raise _ | exact kq_Mo_giveWay_L41 _ | exact kq_Mo_back _ | exact kq_R _ | exact kq_GI _ _ | exact kq_K _ | apply kq_W | (refine kq_PI ?_) | intro _) | omega)
theorem kq_Mo_leave_L2 (x) : Kq true (M_Mo_leave_L2 x) := by
  unfold M_Mo_leave_L2
  repeat' (first | with_reducible (first | apply kq_B | apply kq_C | exact kq_R _ | exact kq_GI _ _ | exact kq_AI _ _ _ _ | intro _) | omega)
theorem kq_Mo_leave (l1 : Int32) (l2 : Int32) : Kq true (M_Mo_leave l1 l2) := by
  unfold M_Mo_leave
  repeat' (first | with_reducible (first | apply kq_B | exact kq_Mo_leave_L2 _ | exact kq_Mo_close _ _ | exact kq_R _ | exact kq_AI _ _ _ _ | apply kq_W | apply kq_E | intro _) | omega)
theorem kq_Mo_halt_L26 (x) : Kq true (M_Mo_halt_L26 x) := by
  unfold M_Mo_halt_L26
  repeat' (first | with_reducible (first | apply kq_B | apply kq_C | exact kq_Mo_leave _ _ | exact kq_R _ | exact kq_GI _ _ | exact kq_K _ | (refine kq_PI ?_) | intro _) | omega)
theorem kq_Mo_halt  : Kq true (M_Mo_halt) := by
  unfold M_Mo_halt
  repeat' (first | with_reducible (first | apply kq_B | exact kq_Mo_halt_L26 _ | exact kq_Va_add _ _ _ _ | exact kq_R _ | exact kq_GI _ _ | exact kq_GL _ _ | exact kq_K _ | apply kq_W | (refine kq_PI ?_) | intro _) | omega)
theorem kq_Mo_reckon (l0 : Int32) (l1 : Int64) (l3 : Int64) : Kq true (M_Mo_reckon l0 l1 l3) := by
  unfold M_Mo_reckon
  repeat' (first | with_reducible (first | apply kq_B | apply kq_C | exact kq_Mth_floorMod _ _ | exact kq_Mth_floorDiv _ _ | exact kq_Mo_shifted _ _ | exact kq_R _ | intro _) | omega)
theorem kq_Mo_gather_j92 (l1 : Int32) (l2 : Int32) (l4 : Int32) (l5 : Int32) (l6 : Int32) (k0 : Int32) (k1 : Int32) (k2 : Int32) : Kq true (M_Mo_gather_j92 l1 l2 l4 l5 l6 k0 k1 k2) := by
  unfold M_Mo_gather_j92
  repeat' (first | with_reducible (first | apply kq_B | exact kq_Mo_addAt _ _ _ _ _ _ | exact kq_R _ | intro _) | omega)
theorem kq_Mo_gather_L68 (x) : Kq true (M_Mo_gather_L68 x) := by
  unfold M_Mo_gather_L68
  repeat' (first | with_reducible (first | apply kq_C | exact kq_Mo_gather_j92 _ _ _ _ _ _ _ _ | exact kq_R _ | intro _) | omega)
theorem kq_Mo_gather_j25 (l1 : Int32) (l2 : Int32) (l3 : Int32) (l4 : Int32) (k0 : Int32) : Kq true (M_Mo_gather_j25 l1 l2 l3 l4 k0) := by
  unfold M_Mo_gather_j25
  repeat' (first | with_reducible (first | apply kq_B | apply kq_C | exact kq_Mo_gather_L68 _ | exact kq_Mo_raise _ | exact kq_R _ | exact kq_SI _ _ _ _ _ | apply kq_L | apply kq_W | (refine kq_PI ?_) | intro _) | omega)
theorem kq_Mo_gather (l1 : Int32) (l2 : Int32) (l3 : Int32) (l4 : Int32) : Kq true (M_Mo_gather l1 l2 l3 l4) := by
  unfold M_Mo_gather
  repeat' (first | with_reducible (first | apply kq_B | apply kq_C | exact kq_Mo_gather_j25 _ _ _ _ _ | exact kq_AI _ _ _ _ | intro _) | omega)
theorem kq_Mo_follow_L53 (x) : Kq true (M_Mo_follow_L53 x) := by
  unfold M_Mo_follow_L53
  repeat' (first | with_reducible (first | apply kq_B | apply kq_C | exact kq_Mo_mark _ _ | exact kq_R _ | exact kq_GI _ _ | exact kq_AI _ _ _ _ | exact kq_AL _ _ _ _ | exact kq_K _ | intro _) | omega)
theorem kq_Mo_follow_L135 (x) : Kq true (M_Mo_follow_L135 x) := by
  unfold M_Mo_follow_L135
  repeat' (first | with_reducible (first | apply kq_B | apply kq_C | exact kq_Mo_place _ | exact kq_R _ | exact kq_GI _ _ | exact kq_AI _ _ _ _ | exact kq_K _ | intro _) | omega)
theorem kq_Mo_follow (l1 : Int32) : Kq true (M_Mo_follow l1) := by
  unfold M_Mo_follow
  repeat' (first | with_reducible (first | apply kq_B | apply kq_C | exact kq_Mo_place _ | exact kq_Mo_follow_L53 _ | exact kq_Mo_follow_L135 _ | exact kq_Th_reach _ | exact kq_Mo_load _ | exact kq_Mo_mark _ _ | exact kq_R _ | exact kq_GI _ _ | exact kq_GL _ _ | exact kq_AI _ _ _ _ | exact kq_K _ | apply kq_W | intro _) | omega)
theorem kq_Mo_sweep_j73 (l1 : Int32) (l2 : Int64) (l4 : Int32) : Kq true (M_Mo_sweep_j73 l1 l2 l4) := by
  unfold M_Mo_sweep_j73
  repeat' (first | with_reducible (first | exact kq_R _ | intro _) | omega)
theorem kq_Mo_sweep_L13 (x) : Kq true (M_Mo_sweep_L13 x) := by
  unfold M_Mo_sweep_L13
  repeat' (first | with_reducible (first | apply kq_B | apply kq_C | exact kq_Mo_sweep_j73 _ _ _ | exact kq_Mo_threadGoes _ | exact kq_R _ | exact kq_GI _ _ | exact kq_AI _ _ _ _ | exact kq_K _ | intro _) | omega)
theorem kq_Mo_sweep_j240 (l1 : Int32) (l2 : Int64) (l4 : Int32) : Kq true (M_Mo_sweep_j240 l1 l2 l4) := by
  unfold M_Mo_sweep_j240
  repeat' (first | with_reducible (first | exact kq_R _ | intro _) | omega)
theorem kq_Mo_sweep_j204 (l1 : Int32) (l2 : Int64) (l4 : Int32) : Kq true (M_Mo_sweep_j204 l1 l2 l4) := by
  unfold M_Mo_sweep_j204
  repeat' (first | with_reducible (first | apply kq_B | exact kq_Mo_sweep_j240 _ _ _ | exact kq_GI _ _ | exact kq_SI _ _ _ _ _ | (refine kq_PI ?_) | intro _) | omega)
theorem kq_Mo_sweep_L82 (x) : Kq true (M_Mo_sweep_L82 x) := by
  unfold M_Mo_sweep_L82
  repeat' (first | with_reducible (first | apply kq_B | apply kq_C | exact kq_Mo_sweep_j240 _ _ _ | exact kq_Mo_unchain _ | exact kq_Mo_sweep_j204 _ _ _ | exact kq_Mo_forget _ _ | exact kq_R _ | exact kq_GI _ _ | exact kq_AI _ _ _ _ | exact kq_K _ | (refine kq_PI ?_) | intro _) | omega)
theorem kq_Mo_sweep  : Kq true (M_Mo_sweep) := by
  unfold M_Mo_sweep
  repeat' (first | with_reducible (first | apply kq_B | exact kq_Mo_sweep_L13 _ | exact kq_Mo_sweep_L82 _ | exact kq_R _ | exact kq_GI _ _ | exact kq_GL _ _ | exact kq_PL _ _ _ | apply kq_W | (refine kq_PI ?_) | intro _) | omega)
theorem kq_Mo_enter_j79  : Kq true (M_Mo_enter_j79) := by
  unfold M_Mo_enter_j79
  repeat' (first | with_reducible (first | apply kq_B | exact kq_Mo_raise _ | exact kq_R _ | (refine kq_PI ?_) | intro _) | omega)
theorem kq_Mo_enter_L139 (x) : Kq true (M_Mo_enter_L139 x) := by
  unfold M_Mo_enter_L139
  repeat' (first | with_reducible (first | apply kq_B | apply kq_C | exact kq_Va_set_ _ _ _ _ _ _ | exact kq_R _ | exact kq_AI _ _ _ _ | exact kq_K _ | intro _) | omega)
theorem kq_Mo_enter_j255 (l2 : Int32) (l3 : Int32) (l4 : Int32) (l5 : Int32) (l7 : Int32) : Kq true (M_Mo_enter_j255 l2 l3 l4 l5 l7) := by
  unfold M_Mo_enter_j255
  repeat' (first | with_reducible (first | exact kq_R _ | intro _) | omega)
theorem kq_Mo_enter_j238 (l2 : Int32) (l3 : Int32) (l4 : Int32) (l5 : Int32) (l7 : Int32) : Kq true (M_Mo_enter_j238 l2 l3 l4 l5 l7) := by
  unfold M_Mo_enter_j238
  repeat' (first | with_reducible (first | apply kq_B | exact kq_Va_set _ _ _ _ _ | exact kq_Mo_enter_j255 _ _ _ _ _ | exact kq_K _ | intro _) | omega)
theorem kq_Mo_enter_L180 (x) : Kq true (M_Mo_enter_L180 x) := by
  unfold M_Mo_enter_L180
  repeat' (first | with_reducible (first | apply kq_B | apply kq_C | exact kq_Mo_enter_j238 _ _ _ _ _ | exact kq_Va_set_ _ _ _ _ _ _ | exact kq_Mo_enter_j255 _ _ _ _ _ | exact kq_R _ | exact kq_GI _ _ | exact kq_AI _ _ _ _ | exact kq_K _ | intro _) | omega)
theorem kq_Mo_enter_j44 (l1 : Int32) (l2 : Int32) (l3 : Int32) (l4 : Int32) : Kq true (M_Mo_enter_j44 l1 l2 l3 l4) := by
  unfold M_Mo_enter_j44
  repeat' (first | with_reducible (first | apply kq_B | apply kq_C | exact kq_Mo_topOf _ | exact kq_Mo_enter_j79 | exact kq_Mo_push _ _ | exact kq_Th_top _ | exact kq_Mo_enter_L139 _ | exact kq_Mo_enter_L180 _ | exact kq_R _ | exact kq_GI _ _ | exact kq_AI _ _ _ _ | exact kq_SI _ _ _ _ _ | exact kq_K _ | apply kq_W | (refine kq_PI ?_) | intro _) | omega)
theorem kq_Mo_enter (l1 : Int32) : Kq true (M_Mo_enter l1) := by
  unfold M_Mo_enter
  repeat' (first | with_reducible (first | apply kq_B | apply kq_C | exact kq_Mth_max _ _ | exact kq_Mo_enter_j44 _ _ _ _ | exact kq_GI _ _ | exact kq_AI _ _ _ _ | intro _) | omega)
theorem kq_Mo_meta (l1 : Int32) (l2 : Int64) (l4 : Int32) : Kq true (M_Mo_meta l1 l2 l4) := by
  unfold M_Mo_meta
  repeat' (first | with_reducible (first | apply kq_B | apply kq_C | exact kq_Mo_raw _ _ _ | exact kq_R _ | exact kq_AI _ _ _ _ | exact kq_K _ | (refine kq_PI ?_) | intro _) | omega)
theorem kq_Mo_either_j24 (l2 : Int32) (l3 : Int64) (l5 : Int32) (l6 : Int64) : Kq true (M_Mo_either_j24 l2 l3 l5 l6) := by
  unfold M_Mo_either_j24
  repeat' (first | with_reducible (first | apply kq_B | exact kq_Mo_arguments _ _ _ _ | exact kq_R _ | exact kq_GI _ _ | exact kq_GL _ _ | exact kq_PL _ _ _ | (refine kq_PI ?_) | intro _) | omega)
theorem kq_Mo_either (l1 : Int32) (l2 : Int32) (l3 : Int64) (l5 : Int32) (l6 : Int64) : Kq true (M_Mo_either l1 l2 l3 l5 l6) := by
  unfold M_Mo_either
  repeat' (first | with_reducible (first | apply kq_B | apply kq_C | exact kq_Mo_meta _ _ _ | exact kq_Mo_either_j24 _ _ _ _ | exact kq_R _ | intro _) | omega)
theorem kq_Mo_error_L31 (x) : Kq true (M_Mo_error_L31 x) := by
  unfold M_Mo_error_L31
  repeat' (first | with_reducible (first | apply kq_B | apply kq_C | exact kq_R _ | exact kq_AI _ _ _ _ | exact kq_K _ | intro _) | omega)
theorem kq_Mo_error_j194 (k0 : Int32) : Kq true (M_Mo_error_j194 k0) := by
  unfold M_Mo_error_j194
  repeat' (first | with_reducible (first | apply kq_B | apply kq_C | exact kq_Va_add _ _ _ _ | exact kq_R _ | exact kq_GI _ _ | exact kq_GL _ _ | exact kq_K _ | (refine kq_PI ?_) | intro _) | omega)
theorem kq_Mo_error_j51 (l1 : Int32) (l2 : Int32) : Kq true (M_Mo_error_j51 l1 l2) := by
  unfold M_Mo_error_j51
  repeat' (first | with_reducible (first | apply kq_B | apply kq_C | exact kq_Mo_leave _ _ | exact kq_Va_add _ _ _ _ | exact kq_Mo_back _ | exact kq_Th_top _ | exact kq_Mo_error_j194 _ | exact kq_R _ | exact kq_GI _ _ | exact kq_GL _ _ | exact kq_AI _ _ _ _ | exact kq_K _ | (refine kq_PI ?_) | intro _) | omega)
theorem kq_Mo_error  : Kq true (M_Mo_error) := by
  unfold M_Mo_error
  repeat' (first | with_reducible (first | apply kq_B | exact kq_Th_top _ | exact kq_Mo_error_L31 _ | exact kq_Mo_error_j51 _ _ | exact kq_GI _ _ | exact kq_K _ | apply kq_W | (refine kq_PI ?_) | intro _) | omega)
theorem kq_Mo_index_L9 (x) : Kq true (M_Mo_index_L9 x) := by
  unfold M_Mo_index_L9
  repeat' (first | with_reducible (first | apply kq_B | apply kq_C | exact kq_Mo_raw _ _ _ | exact kq_Mo_meta _ _ _ | exact kq_R _ | exact kq_GI _ _ | exact kq_GL _ _ | intro _) | omega)
theorem kq_Mo_index_j64 (l7 : Int32) (l13 : Int32) (l14 : Int64) : Kq true (M_Mo_index_j64 l7 l13 l14) := by
  unfold M_Mo_index_j64
  repeat' (first | with_reducible (first | apply kq_B | exact kq_Th_top _ | exact kq_Va_set _ _ _ _ _ | exact kq_R _ | exact kq_GI _ _ | exact kq_AI _ _ _ _ | exact kq_K _ | intro _) | omega)
theorem kq_Mo_index (l1 : Int32) (l2 : Int64) (l4 : Int32) (l5 : Int64) (l7 : Int32) : Kq true (M_Mo_index l1 l2 l4 l5 l7) := by
  unfold M_Mo_index
  repeat' (first | with_reducible (first | apply kq_B | exact kq_Mo_index_L9 _ | exact kq_Mo_raise _ | exact kq_Mo_index_j64 _ _ _ | exact kq_Mo_arguments _ _ _ _ | exact kq_Mo_expect _ _ _ | exact kq_Mo_callGot | exact kq_R _ | apply kq_W | apply kq_E | intro _) | omega)
theorem kq_Mo_self (l1 : Int32) (l2 : Int32) (l3 : Int32) (l4 : Int32) (l5r : Nat) (l5 : Int32) (l6 : Int32) : Kq true (M_Mo_self l1 l2 l3 l4 l5r l5 l6) := by
  unfold M_Mo_self
  repeat' (first | with_reducible (first | apply kq_B | exact kq_Mo_b _ | exact kq_Va_set _ _ _ _ _ | exact kq_Mo_c _ | exact kq_Mo_rk_ _ _ _ _ | exact kq_Mo_a _ | exact kq_Mo_index _ _ _ _ _ | exact kq_R _ | exact kq_GI _ _ | exact kq_GL _ _ | exact kq_AI _ _ _ _ | exact kq_AL _ _ _ _ | intro _) | omega)
theorem kq_Mo_arithmetic_j118 (l4 : Int32) (l5 : Int32) (l8 : Int32) (l9 : Int64) (l11 : Int32) (l12 : Int64) : Kq true (M_Mo_arithmetic_j118 l4 l5 l8 l9 l11 l12) := by
  unfold M_Mo_arithmetic_j118
  repeat' (first | with_reducible (first | apply kq_B | apply kq_C | exact kq_Mo_a _ | exact kq_Mo_expect _ _ _ | exact kq_Mo_eventOf _ | exact kq_Mo_either _ _ _ _ _ | exact kq_Mo_raise _ | exact kq_R _ | intro _) | omega)
theorem kq_Mo_arithmetic_j188 (l5 : Int32) (l6r : Nat) (l6 : Int32) (l7 : Int32) (l9 : Int64) (l12 : Int64) : Kq true (M_Mo_arithmetic_j188 l5 l6r l6 l7 l9 l12) := by
  unfold M_Mo_arithmetic_j188
  repeat' (first | with_reducible (first | apply kq_B | exact kq_Mo_reckon _ _ _ | exact kq_Va_set _ _ _ _ _ | exact kq_R _ | intro _) | omega)
