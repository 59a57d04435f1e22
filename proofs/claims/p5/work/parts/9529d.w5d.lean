/-! Made by wip/l4/w5gen.py: the fault and the tape stay. -/
theorem w5_Mo_move_j117 (l1 : Int32) (l4 : Int32) (l5 : Int32) (l6 : Int32) : W5k (M_Mo_move_j117 l1 l4 l5 l6) := by
  unfold M_Mo_move_j117
  repeat' with_reducible (first | exact w5_R _ | intro _)
theorem w5_Mo_move_L52 (x) : W5k (M_Mo_move_L52 x) := by
  unfold M_Mo_move_L52
  repeat' with_reducible (first | apply w5_B | apply w5_C | exact w5_Mo_move_j117 _ _ _ _ | exact w5_Mo_append _ _ _ _ _ | exact w5_R _ | exact w5_GI _ _ | exact w5_AI _ _ _ _ | exact w5_AL _ _ _ _ | exact w5_K _ | intro _)
theorem w5_Mo_move (l1 : Int32) (l2 : Int32) (l3 : Int32) : W5k (M_Mo_move l1 l2 l3) := by
  unfold M_Mo_move
  repeat' with_reducible (first | apply w5_B | exact w5_Arr_fill_____ _ _ _ _ _ (by omega) | exact w5_Mo_move_L52 _ | exact w5_R _ | exact w5_GI _ _ | exact w5_AI _ _ _ _ | exact w5_SI (by omega) | exact w5_K _ | apply w5_W | intro _)
theorem w5_Mo_topOf_L5 (x) : W5k (M_Mo_topOf_L5 x) := by
  unfold M_Mo_topOf_L5
  repeat' with_reducible (first | apply w5_B | apply w5_C | exact w5_R _ | exact w5_AI _ _ _ _ | intro _)
theorem w5_Mo_topOf (l1 : Int32) : W5k (M_Mo_topOf l1) := by
  unfold M_Mo_topOf
  repeat' with_reducible (first | apply w5_B | exact w5_Th_top _ | exact w5_Mo_topOf_L5 _ | exact w5_R _ | exact w5_AI _ _ _ _ | apply w5_W | apply w5_E | intro _)
theorem w5_Mo_raw_j54 (k0 : Int64) : W5k (M_Mo_raw_j54 k0) := by
  unfold M_Mo_raw_j54
  repeat' with_reducible (first | apply w5_B | apply w5_C | exact w5_R _ | exact w5_GI _ _ | exact w5_PL | intro _)
theorem w5_Mo_raw_j34 (l5 : Int32) (k0 : Int32) : W5k (M_Mo_raw_j34 l5 k0) := by
  unfold M_Mo_raw_j34
  repeat' with_reducible (first | apply w5_B | apply w5_C | exact w5_Mo_raw_j54 _ | exact w5_GI _ _ | exact w5_PI (by omega) | exact w5_AL _ _ _ _ | exact w5_K _ | intro _)
theorem w5_Mo_raw_j15 (k0 : Int32) : W5k (M_Mo_raw_j15 k0) := by
  unfold M_Mo_raw_j15
  repeat' with_reducible (first | apply w5_B | apply w5_C | exact w5_Mo_raw_j34 _ _ | exact w5_GI _ _ | exact w5_AI _ _ _ _ | exact w5_K _ | intro _)
theorem w5_Mo_raw (l1 : Int32) (l2 : Int32) (l3 : Int64) : W5k (M_Mo_raw l1 l2 l3) := by
  unfold M_Mo_raw
  repeat' with_reducible (first | apply w5_B | apply w5_C | exact w5_Mo_raw_j15 _ | exact w5_Mo_entry _ _ _ | intro _)
theorem w5_Mo_setMeta_j27  : W5k (M_Mo_setMeta_j27) := by
  unfold M_Mo_setMeta_j27
  repeat' with_reducible (first | apply w5_B | exact w5_Mo_raise _ | exact w5_R _ | intro _)
theorem w5_Mo_setMeta_j104 (l1 : Int32) (k0 : Int32) (k1 : Int32) : W5k (M_Mo_setMeta_j104 l1 k0 k1) := by
  unfold M_Mo_setMeta_j104
  repeat' with_reducible (first | apply w5_B | exact w5_Mo_give _ _ | exact w5_R _ | exact w5_SI (by omega) | intro _)
theorem w5_Mo_setMeta_j80 (l1 : Int32) : W5k (M_Mo_setMeta_j80 l1) := by
  unfold M_Mo_setMeta_j80
  repeat' with_reducible (first | apply w5_B | apply w5_C | exact w5_Mo_is _ _ | exact w5_Mo_setMeta_j104 _ _ _ | exact w5_Mo_av _ | intro _)
theorem w5_Mo_setMeta_j34  : W5k (M_Mo_setMeta_j34) := by
  unfold M_Mo_setMeta_j34
  repeat' with_reducible (first | apply w5_B | apply w5_C | exact w5_Mo_av _ | exact w5_Mo_setMeta_j80 _ | exact w5_Mo_raw _ _ _ | exact w5_Mo_raise _ | exact w5_R _ | exact w5_AI _ _ _ _ | intro _)
theorem w5_Mo_setMeta  : W5k (M_Mo_setMeta) := by
  unfold M_Mo_setMeta
  repeat' with_reducible (first | apply w5_B | apply w5_C | exact w5_Mo_is _ _ | exact w5_Mo_setMeta_j27 | exact w5_Mo_setMeta_j34 | intro _)
theorem w5_Mo_getMeta_j23  : W5k (M_Mo_getMeta_j23) := by
  unfold M_Mo_getMeta_j23
  repeat' with_reducible (first | apply w5_B | exact w5_Mo_give _ _ | exact w5_R _ | intro _)
theorem w5_Mo_getMeta  : W5k (M_Mo_getMeta) := by
  unfold M_Mo_getMeta
  repeat' with_reducible (first | apply w5_B | apply w5_C | exact w5_Mo_is _ _ | exact w5_Mo_getMeta_j23 | exact w5_Mo_av _ | exact w5_Mo_raw _ _ _ | exact w5_Mo_give _ _ | exact w5_R _ | exact w5_GI _ _ | exact w5_GL _ _ | exact w5_AI _ _ _ _ | intro _)
theorem w5_Mo_border_L2 (x) : W5k (M_Mo_border_L2 x) := by
  unfold M_Mo_border_L2
  repeat' with_reducible (first | apply w5_B | apply w5_C | exact w5_Mo_raw _ _ _ | exact w5_R _ | apply w5_L | intro _)
theorem w5_Mo_border (l1 : Int32) : W5k (M_Mo_border l1) := by
  unfold M_Mo_border
  repeat' with_reducible (first | apply w5_B | exact w5_Mo_border_L2 _ | exact w5_R _ | apply w5_W | intro _)
theorem w5_Mo_next_L85 (x) : W5k (M_Mo_next_L85 x) := by
  unfold M_Mo_next_L85
  repeat' with_reducible (first | apply w5_B | apply w5_C | exact w5_R _ | exact w5_GI _ _ | exact w5_AI _ _ _ _ | exact w5_K _ | intro _)
theorem w5_Mo_next_j105 (l2 : Int32) (l3 : Int32) : W5k (M_Mo_next_j105 l2 l3) := by
  unfold M_Mo_next_j105
  repeat' with_reducible (first | apply w5_B | apply w5_C | exact w5_Mo_give _ _ | exact w5_Va_add _ _ _ _ (by omega) | exact w5_R _ | exact w5_GI _ _ | exact w5_AI _ _ _ _ | exact w5_AL _ _ _ _ | exact w5_K _ | intro _)
theorem w5_Mo_next_j71 (l1 : Int32) (l2 : Int32) : W5k (M_Mo_next_j71 l1 l2) := by
  unfold M_Mo_next_j71
  repeat' with_reducible (first | apply w5_B | exact w5_Mo_next_L85 _ | exact w5_Mo_next_j105 _ _ | exact w5_AI _ _ _ _ | apply w5_L | apply w5_W | intro _)
theorem w5_Mo_next  : W5k (M_Mo_next) := by
  unfold M_Mo_next
  repeat' with_reducible (first | apply w5_B | apply w5_C | exact w5_Mo_is _ _ | exact w5_Mo_raise _ | exact w5_Mo_av _ | exact w5_Mo_ak _ | exact w5_Mo_entry _ _ _ | exact w5_Mo_next_j71 _ _ | exact w5_R _ | exact w5_AI _ _ _ _ | apply w5_L | intro _)
theorem w5_Mo_select_j57  : W5k (M_Mo_select_j57) := by
  unfold M_Mo_select_j57
  repeat' with_reducible (first | apply w5_B | exact w5_Mo_raise _ | exact w5_R _ | intro _)
theorem w5_Mo_select_L75 (x) : W5k (M_Mo_select_L75 x) := by
  unfold M_Mo_select_L75
  repeat' with_reducible (first | apply w5_B | apply w5_C | exact w5_Va_add_ _ _ _ _ _ (by omega) | exact w5_R _ | exact w5_GI _ _ | apply w5_L | intro _)
theorem w5_Mo_select_j38  : W5k (M_Mo_select_j38) := by
  unfold M_Mo_select_j38
  repeat' with_reducible (first | apply w5_B | apply w5_C | exact w5_Mo_is _ _ | exact w5_Mo_select_j57 | exact w5_Mo_av _ | exact w5_Mo_giveNone | exact w5_Mo_select_L75 _ | exact w5_R _ | apply w5_W | intro _)
theorem w5_Mo_select  : W5k (M_Mo_select) := by
  unfold M_Mo_select
  repeat' with_reducible (first | apply w5_B | apply w5_C | exact w5_Mo_is _ _ | exact w5_Mo_select_j38 | exact w5_Mo_av _ | exact w5_Mo_isMark _ | exact w5_Mo_give _ _ | exact w5_R _ | exact w5_GI _ _ | intro _)
theorem w5_Mo_resume  : W5k (M_Mo_resume) := by
  unfold M_Mo_resume
  repeat' with_reducible (first | apply w5_B | apply w5_C | exact w5_Mo_is _ _ | exact w5_Mo_raise _ | exact w5_Mo_av _ | exact w5_Mo_goesOn _ _ _ _ _ | exact w5_R _ | exact w5_PI (by omega) | exact w5_AI _ _ _ _ | exact w5_K _ | intro _)
theorem w5_Mo_giveWay_L41 (x) : W5k (M_Mo_giveWay_L41 x) := by
  unfold M_Mo_giveWay_L41
  repeat' with_reducible (first | apply w5_B | apply w5_C | exact w5_Va_add_ _ _ _ _ _ (by omega) | exact w5_R _ | exact w5_GI _ _ | intro _)
theorem w5_Mo_giveWay  : W5k (M_Mo_giveWay) := by
  unfold M_Mo_giveWay
  repeat' with_reducible (first | apply w5_B | apply w5_C | exact w5_Mo_raise _ | exact w5_Mo_giveWay_L41 _ | exact w5_Mo_back _ | exact w5_R _ | exact w5_GI _ _ | exact w5_PI (by omega) | exact w5_K _ | apply w5_W | intro _)
theorem w5_Mo_leave_L2 (x) : W5k (M_Mo_leave_L2 x) := by
  unfold M_Mo_leave_L2
  repeat' with_reducible (first | apply w5_B | apply w5_C | exact w5_R _ | exact w5_GI _ _ | exact w5_AI _ _ _ _ | intro _)
theorem w5_Mo_leave (l1 : Int32) (l2 : Int32) : W5k (M_Mo_leave l1 l2) := by
  unfold M_Mo_leave
  repeat' with_reducible (first | apply w5_B | exact w5_Mo_leave_L2 _ | exact w5_Mo_close _ _ | exact w5_R _ | exact w5_AI _ _ _ _ | apply w5_W | apply w5_E | intro _)
theorem w5_Mo_halt_L26 (x) : W5k (M_Mo_halt_L26 x) := by
  unfold M_Mo_halt_L26
  repeat' with_reducible (first | apply w5_B | apply w5_C | exact w5_Mo_leave _ _ | exact w5_R _ | exact w5_GI _ _ | exact w5_PI (by omega) | exact w5_K _ | intro _)
theorem w5_Mo_halt  : W5k (M_Mo_halt) := by
  unfold M_Mo_halt
  repeat' with_reducible (first | apply w5_B | exact w5_Mo_halt_L26 _ | exact w5_Va_add _ _ _ _ (by omega) | exact w5_R _ | exact w5_GI _ _ | exact w5_GL _ _ | exact w5_PI (by omega) | exact w5_K _ | apply w5_W | intro _)
theorem w5_Mo_reckon (l0 : Int32) (l1 : Int64) (l3 : Int64) : W5k (M_Mo_reckon l0 l1 l3) := by
  unfold M_Mo_reckon
  repeat' with_reducible (first | apply w5_B | apply w5_C | exact w5_Mth_floorMod _ _ | exact w5_Mth_floorDiv _ _ | exact w5_Mo_shifted _ _ | exact w5_R _ | intro _)
theorem w5_Mo_gather_j92 (l1 : Int32) (l2 : Int32) (l4 : Int32) (l5 : Int32) (l6 : Int32) (k0 : Int32) (k1 : Int32) (k2 : Int32) : W5k (M_Mo_gather_j92 l1 l2 l4 l5 l6 k0 k1 k2) := by
  unfold M_Mo_gather_j92
  repeat' with_reducible (first | apply w5_B | exact w5_Mo_addAt _ _ _ _ _ _ (by omega) | exact w5_R _ | intro _)
theorem w5_Mo_gather_L68 (x) : W5k (M_Mo_gather_L68 x) := by
  unfold M_Mo_gather_L68
  repeat' with_reducible (first | apply w5_C | exact w5_Mo_gather_j92 _ _ _ _ _ _ _ _ | exact w5_R _ | intro _)
theorem w5_Mo_gather_j25 (l1 : Int32) (l2 : Int32) (l3 : Int32) (l4 : Int32) (k0 : Int32) : W5k (M_Mo_gather_j25 l1 l2 l3 l4 k0) := by
  unfold M_Mo_gather_j25
  repeat' with_reducible (first | apply w5_B | apply w5_C | exact w5_Mo_gather_L68 _ | exact w5_Mo_raise _ | exact w5_R _ | exact w5_PI (by omega) | exact w5_SI (by omega) | apply w5_L | apply w5_W | intro _)
theorem w5_Mo_gather (l1 : Int32) (l2 : Int32) (l3 : Int32) (l4 : Int32) : W5k (M_Mo_gather l1 l2 l3 l4) := by
  unfold M_Mo_gather
  repeat' with_reducible (first | apply w5_B | apply w5_C | exact w5_Mo_gather_j25 _ _ _ _ _ | exact w5_AI _ _ _ _ | intro _)
theorem w5_Mo_kind (l1 : Int32) : W5k (M_Mo_kind l1) := by
  unfold M_Mo_kind
  repeat' with_reducible (first | apply w5_B | apply w5_C | exact w5_Mo_none _ | exact w5_R _ | exact w5_AI _ _ _ _ | intro _)
theorem w5_Mo_formed_j231 (l1 : Int32) (l2 : Int32) (l3 : Int32) (l4 : Int32) : W5k (M_Mo_formed_j231 l1 l2 l3 l4) := by
  unfold M_Mo_formed_j231
  repeat' with_reducible (first | apply w5_B | exact w5_Mo_named _ _ _ _ | exact w5_R _ | exact w5_K _ | intro _)
theorem w5_Mo_formed_j195 (l1 : Int32) (l2 : Int32) (l3 : Int32) (l4 : Int32) (l6 : Int32) : W5k (M_Mo_formed_j195 l1 l2 l3 l4 l6) := by
  unfold M_Mo_formed_j195
  repeat' with_reducible (first | apply w5_B | apply w5_C | exact w5_Mo_formed_j231 _ _ _ _ | exact w5_Mo_op _ | exact w5_Mo_goes _ | exact w5_R _ | intro _)
theorem w5_Mo_formed_j161 (l1 : Int32) (l2 : Int32) (l3 : Int32) (l4 : Int32) (l6 : Int32) : W5k (M_Mo_formed_j161 l1 l2 l3 l4 l6) := by
  unfold M_Mo_formed_j161
  repeat' with_reducible (first | apply w5_B | apply w5_C | exact w5_Mo_uses _ | exact w5_Mo_formed_j195 _ _ _ _ _ | exact w5_Mo_makes _ | exact w5_R _ | exact w5_AI _ _ _ _ | intro _)
theorem w5_Mo_formed_j140 (l1 : Int32) (l2 : Int32) (l3 : Int32) (l4 : Int32) (l6 : Int32) (k0 : Int32) : W5k (M_Mo_formed_j140 l1 l2 l3 l4 l6 k0) := by
  unfold M_Mo_formed_j140
  repeat' with_reducible (first | apply w5_B | apply w5_C | exact w5_Mo_uses _ | exact w5_Mo_a _ | exact w5_Mo_formed_j161 _ _ _ _ _ | exact w5_R _ | intro _)
theorem w5_Mo_formed_j106 (l1 : Int32) (l2 : Int32) (l3 : Int32) (l4 : Int32) (k0 : Int32) : W5k (M_Mo_formed_j106 l1 l2 l3 l4 k0) := by
  unfold M_Mo_formed_j106
  repeat' with_reducible (first | apply w5_B | apply w5_C | exact w5_Mo_makes _ | exact w5_Mo_formed_j161 _ _ _ _ _ | exact w5_Mo_op _ | exact w5_Mo_a _ | exact w5_Mo_formed_j140 _ _ _ _ _ _ | intro _)
theorem w5_Mo_formed_j82 (l1 : Int32) (l2 : Int32) (l3 : Int32) (l4 : Int32) (l5 : Int32) : W5k (M_Mo_formed_j82 l1 l2 l3 l4 l5) := by
  unfold M_Mo_formed_j82
  repeat' with_reducible (first | apply w5_B | apply w5_C | exact w5_Mo_formed_j106 _ _ _ _ _ | exact w5_AI _ _ _ _ | intro _)
theorem w5_Mo_formed_j52 (l1 : Int32) (l2 : Int32) (l3 : Int32) (l4 : Int32) (k0 : Int32) : W5k (M_Mo_formed_j52 l1 l2 l3 l4 k0) := by
  unfold M_Mo_formed_j52
  repeat' with_reducible (first | apply w5_C | exact w5_Mo_formed_j82 _ _ _ _ _ | exact w5_R _ | intro _)
theorem w5_Mo_formed (l1 : Int32) (l2 : Int32) : W5k (M_Mo_formed l1 l2) := by
  unfold M_Mo_formed
  repeat' with_reducible (first | apply w5_B | apply w5_C | exact w5_Mo_op _ | exact w5_Mo_formed_j52 _ _ _ _ _ | exact w5_PI (by omega) | exact w5_AI _ _ _ _ | intro _)
theorem w5_Mo_follow_L53 (x) : W5k (M_Mo_follow_L53 x) := by
  unfold M_Mo_follow_L53
  repeat' with_reducible (first | apply w5_B | apply w5_C | exact w5_Mo_mark _ _ | exact w5_R _ | exact w5_GI _ _ | exact w5_AI _ _ _ _ | exact w5_AL _ _ _ _ | exact w5_K _ | intro _)
theorem w5_Mo_follow_L135 (x) : W5k (M_Mo_follow_L135 x) := by
  unfold M_Mo_follow_L135
  repeat' with_reducible (first | apply w5_B | apply w5_C | exact w5_Mo_place _ | exact w5_R _ | exact w5_GI _ _ | exact w5_AI _ _ _ _ | exact w5_K _ | intro _)
theorem w5_Mo_follow (l1 : Int32) : W5k (M_Mo_follow l1) := by
  unfold M_Mo_follow
  repeat' with_reducible (first | apply w5_B | apply w5_C | exact w5_Mo_place _ | exact w5_Mo_follow_L53 _ | exact w5_Mo_follow_L135 _ | exact w5_Th_reach _ | exact w5_Mo_load _ | exact w5_Mo_mark _ _ | exact w5_R _ | exact w5_GI _ _ | exact w5_GL _ _ | exact w5_AI _ _ _ _ | exact w5_K _ | apply w5_W | intro _)
theorem w5_Mo_sweep_j73 (l1 : Int32) (l2 : Int64) (l4 : Int32) : W5k (M_Mo_sweep_j73 l1 l2 l4) := by
  unfold M_Mo_sweep_j73
  repeat' with_reducible (first | exact w5_R _ | intro _)
theorem w5_Mo_sweep_L13 (x) : W5k (M_Mo_sweep_L13 x) := by
  unfold M_Mo_sweep_L13
  repeat' with_reducible (first | apply w5_B | apply w5_C | exact w5_Mo_sweep_j73 _ _ _ | exact w5_Mo_threadGoes _ | exact w5_R _ | exact w5_GI _ _ | exact w5_AI _ _ _ _ | exact w5_K _ | intro _)
theorem w5_Mo_sweep_j240 (l1 : Int32) (l2 : Int64) (l4 : Int32) : W5k (M_Mo_sweep_j240 l1 l2 l4) := by
  unfold M_Mo_sweep_j240
  repeat' with_reducible (first | exact w5_R _ | intro _)
theorem w5_Mo_sweep_j204 (l1 : Int32) (l2 : Int64) (l4 : Int32) : W5k (M_Mo_sweep_j204 l1 l2 l4) := by
  unfold M_Mo_sweep_j204
  repeat' with_reducible (first | apply w5_B | exact w5_Mo_sweep_j240 _ _ _ | exact w5_GI _ _ | exact w5_PI (by omega) | exact w5_SI (by omega) | intro _)
theorem w5_Mo_sweep_L82 (x) : W5k (M_Mo_sweep_L82 x) := by
  unfold M_Mo_sweep_L82
  repeat' with_reducible (first | apply w5_B | apply w5_C | exact w5_Mo_sweep_j240 _ _ _ | exact w5_Mo_unchain _ | exact w5_Mo_sweep_j204 _ _ _ | exact w5_Mo_forget _ _ | exact w5_R _ | exact w5_GI _ _ | exact w5_PI (by omega) | exact w5_AI _ _ _ _ | exact w5_K _ | intro _)
theorem w5_Mo_sweep  : W5k (M_Mo_sweep) := by
  unfold M_Mo_sweep
  repeat' with_reducible (first | apply w5_B | exact w5_Mo_sweep_L13 _ | exact w5_Mo_sweep_L82 _ | exact w5_R _ | exact w5_GI _ _ | exact w5_GL _ _ | exact w5_PI (by omega) | exact w5_PL | apply w5_W | intro _)
theorem w5_Mo_enter_j79  : W5k (M_Mo_enter_j79) := by
  unfold M_Mo_enter_j79
  repeat' with_reducible (first | apply w5_B | exact w5_Mo_raise _ | exact w5_R _ | exact w5_PI (by omega) | intro _)
theorem w5_Mo_enter_L139 (x) : W5k (M_Mo_enter_L139 x) := by
  unfold M_Mo_enter_L139
  repeat' with_reducible (first | apply w5_B | apply w5_C | exact w5_Va_set_ _ _ _ _ _ _ (by omega) | exact w5_R _ | exact w5_AI _ _ _ _ | exact w5_K _ | intro _)
theorem w5_Mo_enter_j255 (l2 : Int32) (l3 : Int32) (l4 : Int32) (l5 : Int32) (l7 : Int32) : W5k (M_Mo_enter_j255 l2 l3 l4 l5 l7) := by
  unfold M_Mo_enter_j255
  repeat' with_reducible (first | exact w5_R _ | intro _)
theorem w5_Mo_enter_j238 (l2 : Int32) (l3 : Int32) (l4 : Int32) (l5 : Int32) (l7 : Int32) : W5k (M_Mo_enter_j238 l2 l3 l4 l5 l7) := by
  unfold M_Mo_enter_j238
  repeat' with_reducible (first | apply w5_B | exact w5_Va_set _ _ _ _ _ (by omega) | exact w5_Mo_enter_j255 _ _ _ _ _ | exact w5_K _ | intro _)
theorem w5_Mo_enter_L180 (x) : W5k (M_Mo_enter_L180 x) := by
  unfold M_Mo_enter_L180
  repeat' with_reducible (first | apply w5_B | apply w5_C | exact w5_Mo_enter_j238 _ _ _ _ _ | exact w5_Va_set_ _ _ _ _ _ _ (by omega) | exact w5_Mo_enter_j255 _ _ _ _ _ | exact w5_R _ | exact w5_GI _ _ | exact w5_AI _ _ _ _ | exact w5_K _ | intro _)
theorem w5_Mo_enter_j44 (l1 : Int32) (l2 : Int32) (l3 : Int32) (l4 : Int32) : W5k (M_Mo_enter_j44 l1 l2 l3 l4) := by
  unfold M_Mo_enter_j44
  repeat' with_reducible (first | apply w5_B | apply w5_C | exact w5_Mo_topOf _ | exact w5_Mo_enter_j79 | exact w5_Mo_push _ _ | exact w5_Th_top _ | exact w5_Mo_enter_L139 _ | exact w5_Mo_enter_L180 _ | exact w5_R _ | exact w5_GI _ _ | exact w5_PI (by omega) | exact w5_AI _ _ _ _ | exact w5_SI (by omega) | exact w5_K _ | apply w5_W | intro _)
theorem w5_Mo_enter (l1 : Int32) : W5k (M_Mo_enter l1) := by
  unfold M_Mo_enter
  repeat' with_reducible (first | apply w5_B | apply w5_C | exact w5_Mth_max _ _ | exact w5_Mo_enter_j44 _ _ _ _ | exact w5_GI _ _ | exact w5_AI _ _ _ _ | intro _)
theorem w5_Mo_meta (l1 : Int32) (l2 : Int64) (l4 : Int32) : W5k (M_Mo_meta l1 l2 l4) := by
  unfold M_Mo_meta
  repeat' with_reducible (first | apply w5_B | apply w5_C | exact w5_Mo_raw _ _ _ | exact w5_R _ | exact w5_PI (by omega) | exact w5_AI _ _ _ _ | exact w5_K _ | intro _)
theorem w5_Mo_either_j24 (l2 : Int32) (l3 : Int64) (l5 : Int32) (l6 : Int64) : W5k (M_Mo_either_j24 l2 l3 l5 l6) := by
  unfold M_Mo_either_j24
  repeat' with_reducible (first | apply w5_B | exact w5_Mo_arguments _ _ _ _ | exact w5_R _ | exact w5_GI _ _ | exact w5_GL _ _ | exact w5_PI (by omega) | exact w5_PL | intro _)
theorem w5_Mo_either (l1 : Int32) (l2 : Int32) (l3 : Int64) (l5 : Int32) (l6 : Int64) : W5k (M_Mo_either l1 l2 l3 l5 l6) := by
  unfold M_Mo_either
  repeat' with_reducible (first | apply w5_B | apply w5_C | exact w5_Mo_meta _ _ _ | exact w5_Mo_either_j24 _ _ _ _ | exact w5_R _ | intro _)
theorem w5_Mo_error_L31 (x) : W5k (M_Mo_error_L31 x) := by
  unfold M_Mo_error_L31
  repeat' with_reducible (first | apply w5_B | apply w5_C | exact w5_R _ | exact w5_AI _ _ _ _ | exact w5_K _ | intro _)
theorem w5_Mo_error_j194 (k0 : Int32) : W5k (M_Mo_error_j194 k0) := by
  unfold M_Mo_error_j194
  repeat' with_reducible (first | apply w5_B | apply w5_C | exact w5_Va_add _ _ _ _ (by omega) | exact w5_R _ | exact w5_GI _ _ | exact w5_GL _ _ | exact w5_PI (by omega) | exact w5_K _ | intro _)
theorem w5_Mo_error_j51 (l1 : Int32) (l2 : Int32) : W5k (M_Mo_error_j51 l1 l2) := by
  unfold M_Mo_error_j51
  repeat' with_reducible (first | apply w5_B | apply w5_C | exact w5_Mo_leave _ _ | exact w5_Va_add _ _ _ _ (by omega) | exact w5_Mo_back _ | exact w5_Th_top _ | exact w5_Mo_error_j194 _ | exact w5_R _ | exact w5_GI _ _ | exact w5_GL _ _ | exact w5_PI (by omega) | exact w5_AI _ _ _ _ | exact w5_K _ | intro _)
theorem w5_Mo_error  : W5k (M_Mo_error) := by
  unfold M_Mo_error
  repeat' with_reducible (first | apply w5_B | exact w5_Th_top _ | exact w5_Mo_error_L31 _ | exact w5_Mo_error_j51 _ _ | exact w5_GI _ _ | exact w5_PI (by omega) | exact w5_K _ | apply w5_W | intro _)
theorem w5_Mo_index_L9 (x) : W5k (M_Mo_index_L9 x) := by
  unfold M_Mo_index_L9
  repeat' with_reducible (first | apply w5_B | apply w5_C | exact w5_Mo_raw _ _ _ | exact w5_Mo_meta _ _ _ | exact w5_R _ | exact w5_GI _ _ | exact w5_GL _ _ | intro _)
theorem w5_Mo_index_j64 (l7 : Int32) (l13 : Int32) (l14 : Int64) : W5k (M_Mo_index_j64 l7 l13 l14) := by
  unfold M_Mo_index_j64
  repeat' with_reducible (first | apply w5_B | exact w5_Th_top _ | exact w5_Va_set _ _ _ _ _ (by omega) | exact w5_R _ | exact w5_GI _ _ | exact w5_AI _ _ _ _ | exact w5_K _ | intro _)
theorem w5_Mo_index (l1 : Int32) (l2 : Int64) (l4 : Int32) (l5 : Int64) (l7 : Int32) : W5k (M_Mo_index l1 l2 l4 l5 l7) := by
  unfold M_Mo_index
  repeat' with_reducible (first | apply w5_B | exact w5_Mo_index_L9 _ | exact w5_Mo_raise _ | exact w5_Mo_index_j64 _ _ _ | exact w5_Mo_arguments _ _ _ _ | exact w5_Mo_expect _ _ _ | exact w5_Mo_callGot | exact w5_R _ | apply w5_W | apply w5_E | intro _)
theorem w5_Mo_self (l1 : Int32) (l2 : Int32) (l3 : Int32) (l4 : Int32) (l5r : Nat) (l5 : Int32) (l6 : Int32) (h4 : (l5r ≠ 39 ∧ l5r ≠ 40 ∧ l5r ≠ 41)) : W5k (M_Mo_self l1 l2 l3 l4 l5r l5 l6) := by
  unfold M_Mo_self
  repeat' with_reducible (first | apply w5_B | exact w5_Mo_b _ | exact w5_Va_set _ _ _ _ _ (by omega) | exact w5_Mo_c _ | exact w5_Mo_rk_ _ _ _ _ | exact w5_Mo_a _ | exact w5_Mo_index _ _ _ _ _ | exact w5_R _ | exact w5_GI _ _ | exact w5_GL _ _ | exact w5_AI _ _ _ _ | exact w5_AL _ _ _ _ | intro _)
theorem w5_Mo_arithmetic_j118 (l4 : Int32) (l5 : Int32) (l8 : Int32) (l9 : Int64) (l11 : Int32) (l12 : Int64) : W5k (M_Mo_arithmetic_j118 l4 l5 l8 l9 l11 l12) := by
  unfold M_Mo_arithmetic_j118
  repeat' with_reducible (first | apply w5_B | apply w5_C | exact w5_Mo_a _ | exact w5_Mo_expect _ _ _ | exact w5_Mo_eventOf _ | exact w5_Mo_either _ _ _ _ _ | exact w5_Mo_raise _ | exact w5_R _ | intro _)
theorem w5_Mo_arithmetic_j188 (l5 : Int32) (l6r : Nat) (l6 : Int32) (l7 : Int32) (l9 : Int64) (l12 : Int64) (h1 : (l6r ≠ 39 ∧ l6r ≠ 40 ∧ l6r ≠ 41)) : W5k (M_Mo_arithmetic_j188 l5 l6r l6 l7 l9 l12) := by
  unfold M_Mo_arithmetic_j188
  repeat' with_reducible (first | apply w5_B | exact w5_Mo_reckon _ _ _ | exact w5_Va_set _ _ _ _ _ (by omega) | exact w5_R _ | intro _)
theorem w5_Mo_arithmetic_j172 (l5 : Int32) (l6r : Nat) (l6 : Int32) (l7 : Int32) (l9 : Int64) (l12 : Int64) (h1 : (l6r ≠ 39 ∧ l6r ≠ 40 ∧ l6r ≠ 41)) : W5k (M_Mo_arithmetic_j172 l5 l6r l6 l7 l9 l12) := by
  unfold M_Mo_arithmetic_j172
  repeat' with_reducible (first | apply w5_B | apply w5_C | exact w5_Mo_raise _ | exact w5_Mo_arithmetic_j188 _ _ _ _ _ _ (by omega) | exact w5_R _ | intro _)
theorem w5_Mo_arithmetic_j106 (l4 : Int32) (l5 : Int32) (l6r : Nat) (l6 : Int32) (l7 : Int32) (l8 : Int32) (l9 : Int64) (l11 : Int32) (l12 : Int64) (h2 : (l6r ≠ 39 ∧ l6r ≠ 40 ∧ l6r ≠ 41)) : W5k (M_Mo_arithmetic_j106 l4 l5 l6r l6 l7 l8 l9 l11 l12) := by
  unfold M_Mo_arithmetic_j106
  repeat' with_reducible (first | apply w5_C | exact w5_Mo_arithmetic_j172 _ _ _ _ _ _ (by omega) | exact w5_Mo_arithmetic_j188 _ _ _ _ _ _ (by omega) | exact w5_Mo_arithmetic_j118 _ _ _ _ _ _ | intro _)
theorem w5_Mo_arithmetic (l1 : Int32) (l2 : Int32) (l3 : Int32) (l4 : Int32) (l5 : Int32) (l6r : Nat) (l6 : Int32) (l7 : Int32) (h5 : (l6r ≠ 39 ∧ l6r ≠ 40 ∧ l6r ≠ 41)) : W5k (M_Mo_arithmetic l1 l2 l3 l4 l5 l6r l6 l7) := by
  unfold M_Mo_arithmetic
  repeat' with_reducible (first | apply w5_B | apply w5_C | exact w5_Mo_b _ | exact w5_Mo_rk_ _ _ _ _ | exact w5_Mo_c _ | exact w5_Mo_arithmetic_j106 _ _ _ _ _ _ _ _ _ (by omega) | exact w5_GI _ _ | exact w5_GL _ _ | exact w5_AI _ _ _ _ | exact w5_AL _ _ _ _ | intro _)
theorem w5_Mo_length (l1 : Int32) (l2 : Int32) (l3 : Int64) (l5r : Nat) (l5 : Int32) (l6 : Int32) (h3 : (l5r ≠ 39 ∧ l5r ≠ 40 ∧ l5r ≠ 41)) : W5k (M_Mo_length l1 l2 l3 l5r l5 l6) := by
  unfold M_Mo_length
  repeat' with_reducible (first | apply w5_B | apply w5_C | exact w5_Va_set _ _ _ _ _ (by omega) | exact w5_Mo_meta _ _ _ | exact w5_Mo_border _ | exact w5_Va_add _ _ _ _ (by omega) | exact w5_Mo_expect _ _ _ | exact w5_Mo_raise _ | exact w5_R _ | exact w5_GI _ _ | exact w5_GL _ _ | exact w5_PI (by omega) | exact w5_PL | exact w5_AI _ _ _ _ | intro _)
theorem w5_Mo_compare_j261 (l6 : Int32) (l7 : Int64) (l9 : Int32) (l10 : Int64) (k0 : Int32) : W5k (M_Mo_compare_j261 l6 l7 l9 l10 k0) := by
  unfold M_Mo_compare_j261
  repeat' with_reducible (first | apply w5_B | apply w5_C | exact w5_Mo_either _ _ _ _ _ | exact w5_Mo_raise _ | exact w5_R _ | intro _)
theorem w5_Mo_compare_j235 (l4 : Int32) (l5 : Int32) (l6 : Int32) (l7 : Int64) (l9 : Int32) (l10 : Int64) : W5k (M_Mo_compare_j235 l4 l5 l6 l7 l9 l10) := by
  unfold M_Mo_compare_j235
  repeat' with_reducible (first | apply w5_B | apply w5_C | exact w5_Mo_a _ | exact w5_Mo_expect _ _ _ | exact w5_Mo_compare_j261 _ _ _ _ _ | intro _)
theorem w5_Mo_compare_j298 (l1 : Int32) (l2 : Int32) (k0 : Int32) (k1 : Int32) : W5k (M_Mo_compare_j298 l1 l2 k0 k1) := by
  unfold M_Mo_compare_j298
  repeat' with_reducible (first | apply w5_B | apply w5_C | exact w5_R _ | exact w5_AI _ _ _ _ | exact w5_SI (by omega) | intro _)
theorem w5_Mo_compare_j282 (l1 : Int32) (l2 : Int32) (l4 : Int32) (l12 : Int32) : W5k (M_Mo_compare_j282 l1 l2 l4 l12) := by
  unfold M_Mo_compare_j282
  repeat' with_reducible (first | apply w5_B | apply w5_C | exact w5_Mo_a _ | exact w5_Mo_compare_j298 _ _ _ _ | intro _)
theorem w5_Mo_compare_j230 (l1 : Int32) (l2 : Int32) (l4 : Int32) (k0 : Int32) : W5k (M_Mo_compare_j230 l1 l2 l4 k0) := by
  unfold M_Mo_compare_j230
  repeat' with_reducible (first | exact w5_Mo_compare_j282 _ _ _ _ | intro _)
theorem w5_Mo_compare_j176 (l1 : Int32) (l2 : Int32) (l4 : Int32) (l5 : Int32) (l6 : Int32) (l7 : Int64) (l9 : Int32) (l10 : Int64) : W5k (M_Mo_compare_j176 l1 l2 l4 l5 l6 l7 l9 l10) := by
  unfold M_Mo_compare_j176
  repeat' with_reducible (first | apply w5_B | apply w5_C | exact w5_Mo_order _ _ | exact w5_Mo_compare_j230 _ _ _ _ | exact w5_Mo_compare_j235 _ _ _ _ _ _ | intro _)
theorem w5_Mo_compare_j171 (l1 : Int32) (l2 : Int32) (l4 : Int32) (k0 : Int32) : W5k (M_Mo_compare_j171 l1 l2 l4 k0) := by
  unfold M_Mo_compare_j171
  repeat' with_reducible (first | exact w5_Mo_compare_j282 _ _ _ _ | intro _)
theorem w5_Mo_compare_j75 (l1 : Int32) (l2 : Int32) (l4 : Int32) (l6 : Int32) (l7 : Int64) (l9 : Int32) (l10 : Int64) (k0 : Int32) : W5k (M_Mo_compare_j75 l1 l2 l4 l6 l7 l9 l10 k0) := by
  unfold M_Mo_compare_j75
  repeat' with_reducible (first | apply w5_B | apply w5_C | exact w5_Mo_a _ | exact w5_Mo_expect _ _ _ | exact w5_Mo_either _ _ _ _ _ | exact w5_Mo_compare_j282 _ _ _ _ | exact w5_R _ | intro _)
theorem w5_Mo_compare_j74 (l1 : Int32) (l2 : Int32) (l4 : Int32) (l6 : Int32) (l7 : Int64) (l9 : Int32) (l10 : Int64) : W5k (M_Mo_compare_j74 l1 l2 l4 l6 l7 l9 l10) := by
  unfold M_Mo_compare_j74
  repeat' with_reducible (first | exact w5_Mo_compare_j75 _ _ _ _ _ _ _ _ | intro _)
theorem w5_Mo_compare (l1 : Int32) (l2 : Int32) (l3 : Int32) (l4 : Int32) (l5 : Int32) : W5k (M_Mo_compare l1 l2 l3 l4 l5) := by
  unfold M_Mo_compare
  repeat' with_reducible (first | apply w5_B | apply w5_C | exact w5_Mo_b _ | exact w5_Mo_rk_ _ _ _ _ | exact w5_Mo_c _ | exact w5_Mo_compare_j75 _ _ _ _ _ _ _ _ | exact w5_Mo_compare_j74 _ _ _ _ _ _ _ | exact w5_Mo_compare_j171 _ _ _ _ | exact w5_Mo_compare_j176 _ _ _ _ _ _ _ _ | exact w5_GI _ _ | exact w5_GL _ _ | intro _)
