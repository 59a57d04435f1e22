/-! Made by wip/l2n/ugen.py: what was printed stays within its row. -/
theorem uk_Mo_threadGoes_L2 (x) : Uk (M_Mo_threadGoes_L2 x) := by
  unfold M_Mo_threadGoes_L2
  repeat' with_reducible (first | apply uk_B | apply uk_C | exact uk_Mo_closeVariable _ | exact uk_R _ | exact uk_GI _ _ | exact uk_AI _ _ _ _ | intro _)
theorem uk_Mo_threadGoes (l1 : Int32) : Uk (M_Mo_threadGoes l1) := by
  unfold M_Mo_threadGoes
  repeat' with_reducible (first | apply uk_B | exact uk_Mo_threadGoes_L2 _ | exact uk_R _ | exact uk_GI _ _ | exact uk_PI (by omega) | apply uk_W | intro _)
theorem uk_Mo_unchain_L48 (x) : Uk (M_Mo_unchain_L48 x) := by
  unfold M_Mo_unchain_L48
  repeat' with_reducible (first | apply uk_B | apply uk_C | exact uk_R _ | exact uk_AI _ _ _ _ | apply uk_L | intro _)
theorem uk_Mo_unchain (l1 : Int32) : Uk (M_Mo_unchain l1) := by
  unfold M_Mo_unchain
  repeat' with_reducible (first | apply uk_B | apply uk_C | exact uk_Mo_hash _ _ _ _ | exact uk_Mo_unchain_L48 _ | exact uk_R _ | exact uk_AI _ _ _ _ | exact uk_SI | apply uk_L | apply uk_W | intro _)
theorem uk_Mo_entry_j91 (l1 : Int32) (l2 : Int32) (l3 : Int64) (l5 : Int32) : Uk (M_Mo_entry_j91 l1 l2 l3 l5) := by
  unfold M_Mo_entry_j91
  repeat' with_reducible (first | apply uk_B | exact uk_R _ | exact uk_GI _ _ | exact uk_AI _ _ _ _ | exact uk_K _ | apply uk_L | intro _)
theorem uk_Mo_entry_L39 (x) : Uk (M_Mo_entry_L39 x) := by
  unfold M_Mo_entry_L39
  repeat' with_reducible (first | apply uk_B | apply uk_C | exact uk_Mo_entry_j91 _ _ _ _ | exact uk_R _ | exact uk_GI _ _ | exact uk_AI _ _ _ _ | exact uk_AL _ _ _ _ | exact uk_K _ | intro _)
theorem uk_Mo_entry (l1 : Int32) (l2 : Int32) (l3 : Int64) : Uk (M_Mo_entry l1 l2 l3) := by
  unfold M_Mo_entry
  repeat' with_reducible (first | apply uk_B | apply uk_C | exact uk_Mo_slot _ _ _ | exact uk_Mo_entry_L39 _ | exact uk_R _ | exact uk_GI _ _ | exact uk_AI _ _ _ _ | exact uk_K _ | exact uk_Pr _ _ | apply uk_L | apply uk_W | apply uk_E | intro _)
theorem uk_Mo_move_j117 (l1 : Int32) (l4 : Int32) (l5 : Int32) (l6 : Int32) : Uk (M_Mo_move_j117 l1 l4 l5 l6) := by
  unfold M_Mo_move_j117
  repeat' with_reducible (first | exact uk_R _ | intro _)
theorem uk_Mo_move_L52 (x) : Uk (M_Mo_move_L52 x) := by
  unfold M_Mo_move_L52
  repeat' with_reducible (first | apply uk_B | apply uk_C | exact uk_Mo_move_j117 _ _ _ _ | exact uk_Mo_append _ _ _ _ _ | exact uk_R _ | exact uk_GI _ _ | exact uk_AI _ _ _ _ | exact uk_AL _ _ _ _ | exact uk_K _ | intro _)
theorem uk_Mo_move (l1 : Int32) (l2 : Int32) (l3 : Int32) : Uk (M_Mo_move l1 l2 l3) := by
  unfold M_Mo_move
  repeat' with_reducible (first | apply uk_B | exact uk_Arr_fill_____ _ _ _ _ _ | exact uk_Mo_move_L52 _ | exact uk_R _ | exact uk_GI _ _ | exact uk_AI _ _ _ _ | exact uk_SI | exact uk_K _ | apply uk_W | intro _)
theorem uk_Mo_topOf_L5 (x) : Uk (M_Mo_topOf_L5 x) := by
  unfold M_Mo_topOf_L5
  repeat' with_reducible (first | apply uk_B | apply uk_C | exact uk_R _ | exact uk_AI _ _ _ _ | intro _)
theorem uk_Mo_topOf (l1 : Int32) : Uk (M_Mo_topOf l1) := by
  unfold M_Mo_topOf
  repeat' with_reducible (first | apply uk_B | exact uk_Th_top _ | exact uk_Mo_topOf_L5 _ | exact uk_R _ | exact uk_AI _ _ _ _ | apply uk_W | apply uk_E | intro _)
theorem uk_Mo_raw_j54 (k0 : Int64) : Uk (M_Mo_raw_j54 k0) := by
  unfold M_Mo_raw_j54
  repeat' with_reducible (first | apply uk_B | apply uk_C | exact uk_R _ | exact uk_GI _ _ | exact uk_PL | intro _)
theorem uk_Mo_raw_j34 (l5 : Int32) (k0 : Int32) : Uk (M_Mo_raw_j34 l5 k0) := by
  unfold M_Mo_raw_j34
  repeat' with_reducible (first | apply uk_B | apply uk_C | exact uk_Mo_raw_j54 _ | exact uk_GI _ _ | exact uk_PI (by omega) | exact uk_AL _ _ _ _ | exact uk_K _ | intro _)
theorem uk_Mo_raw_j15 (k0 : Int32) : Uk (M_Mo_raw_j15 k0) := by
  unfold M_Mo_raw_j15
  repeat' with_reducible (first | apply uk_B | apply uk_C | exact uk_Mo_raw_j34 _ _ | exact uk_GI _ _ | exact uk_AI _ _ _ _ | exact uk_K _ | intro _)
theorem uk_Mo_raw (l1 : Int32) (l2 : Int32) (l3 : Int64) : Uk (M_Mo_raw l1 l2 l3) := by
  unfold M_Mo_raw
  repeat' with_reducible (first | apply uk_B | apply uk_C | exact uk_Mo_raw_j15 _ | exact uk_Mo_entry _ _ _ | intro _)
theorem uk_Mo_setMeta_j27  : Uk (M_Mo_setMeta_j27) := by
  unfold M_Mo_setMeta_j27
  repeat' with_reducible (first | apply uk_B | exact uk_Mo_raise _ | exact uk_R _ | intro _)
theorem uk_Mo_setMeta_j104 (l1 : Int32) (k0 : Int32) (k1 : Int32) : Uk (M_Mo_setMeta_j104 l1 k0 k1) := by
  unfold M_Mo_setMeta_j104
  repeat' with_reducible (first | apply uk_B | exact uk_Mo_give _ _ | exact uk_R _ | exact uk_SI | intro _)
theorem uk_Mo_setMeta_j80 (l1 : Int32) : Uk (M_Mo_setMeta_j80 l1) := by
  unfold M_Mo_setMeta_j80
  repeat' with_reducible (first | apply uk_B | apply uk_C | exact uk_Mo_is _ _ | exact uk_Mo_setMeta_j104 _ _ _ | exact uk_Mo_av _ | intro _)
theorem uk_Mo_setMeta_j34  : Uk (M_Mo_setMeta_j34) := by
  unfold M_Mo_setMeta_j34
  repeat' with_reducible (first | apply uk_B | apply uk_C | exact uk_Mo_av _ | exact uk_Mo_setMeta_j80 _ | exact uk_Mo_raw _ _ _ | exact uk_Mo_raise _ | exact uk_R _ | exact uk_AI _ _ _ _ | intro _)
theorem uk_Mo_setMeta  : Uk (M_Mo_setMeta) := by
  unfold M_Mo_setMeta
  repeat' with_reducible (first | apply uk_B | apply uk_C | exact uk_Mo_is _ _ | exact uk_Mo_setMeta_j27 | exact uk_Mo_setMeta_j34 | intro _)
theorem uk_Mo_getMeta_j23  : Uk (M_Mo_getMeta_j23) := by
  unfold M_Mo_getMeta_j23
  repeat' with_reducible (first | apply uk_B | exact uk_Mo_give _ _ | exact uk_R _ | intro _)
theorem uk_Mo_getMeta  : Uk (M_Mo_getMeta) := by
  unfold M_Mo_getMeta
  repeat' with_reducible (first | apply uk_B | apply uk_C | exact uk_Mo_is _ _ | exact uk_Mo_getMeta_j23 | exact uk_Mo_av _ | exact uk_Mo_raw _ _ _ | exact uk_Mo_give _ _ | exact uk_R _ | exact uk_GI _ _ | exact uk_GL _ _ | exact uk_AI _ _ _ _ | intro _)
theorem uk_Mo_border_L2 (x) : Uk (M_Mo_border_L2 x) := by
  unfold M_Mo_border_L2
  repeat' with_reducible (first | apply uk_B | apply uk_C | exact uk_Mo_raw _ _ _ | exact uk_R _ | apply uk_L | intro _)
theorem uk_Mo_border (l1 : Int32) : Uk (M_Mo_border l1) := by
  unfold M_Mo_border
  repeat' with_reducible (first | apply uk_B | exact uk_Mo_border_L2 _ | exact uk_R _ | apply uk_W | intro _)
theorem uk_Mo_next_L85 (x) : Uk (M_Mo_next_L85 x) := by
  unfold M_Mo_next_L85
  repeat' with_reducible (first | apply uk_B | apply uk_C | exact uk_R _ | exact uk_GI _ _ | exact uk_AI _ _ _ _ | exact uk_K _ | intro _)
theorem uk_Mo_next_j105 (l2 : Int32) (l3 : Int32) : Uk (M_Mo_next_j105 l2 l3) := by
  unfold M_Mo_next_j105
  repeat' with_reducible (first | apply uk_B | apply uk_C | exact uk_Mo_give _ _ | exact uk_Va_add _ _ _ _ | exact uk_R _ | exact uk_GI _ _ | exact uk_AI _ _ _ _ | exact uk_AL _ _ _ _ | exact uk_K _ | intro _)
theorem uk_Mo_next_j71 (l1 : Int32) (l2 : Int32) : Uk (M_Mo_next_j71 l1 l2) := by
  unfold M_Mo_next_j71
  repeat' with_reducible (first | apply uk_B | exact uk_Mo_next_L85 _ | exact uk_Mo_next_j105 _ _ | exact uk_AI _ _ _ _ | apply uk_L | apply uk_W | intro _)
theorem uk_Mo_next  : Uk (M_Mo_next) := by
  unfold M_Mo_next
  repeat' with_reducible (first | apply uk_B | apply uk_C | exact uk_Mo_is _ _ | exact uk_Mo_raise _ | exact uk_Mo_av _ | exact uk_Mo_ak _ | exact uk_Mo_entry _ _ _ | exact uk_Mo_next_j71 _ _ | exact uk_R _ | exact uk_AI _ _ _ _ | apply uk_L | intro _)
theorem uk_Mo_select_j57  : Uk (M_Mo_select_j57) := by
  unfold M_Mo_select_j57
  repeat' with_reducible (first | apply uk_B | exact uk_Mo_raise _ | exact uk_R _ | intro _)
theorem uk_Mo_select_L75 (x) : Uk (M_Mo_select_L75 x) := by
  unfold M_Mo_select_L75
  repeat' with_reducible (first | apply uk_B | apply uk_C | exact uk_Va_add_ _ _ _ _ _ | exact uk_R _ | exact uk_GI _ _ | apply uk_L | intro _)
theorem uk_Mo_select_j38  : Uk (M_Mo_select_j38) := by
  unfold M_Mo_select_j38
  repeat' with_reducible (first | apply uk_B | apply uk_C | exact uk_Mo_is _ _ | exact uk_Mo_select_j57 | exact uk_Mo_av _ | exact uk_Mo_giveNone | exact uk_Mo_select_L75 _ | exact uk_R _ | apply uk_W | intro _)
theorem uk_Mo_select  : Uk (M_Mo_select) := by
  unfold M_Mo_select
  repeat' with_reducible (first | apply uk_B | apply uk_C | exact uk_Mo_is _ _ | exact uk_Mo_select_j38 | exact uk_Mo_av _ | exact uk_Mo_isMark _ | exact uk_Mo_give _ _ | exact uk_R _ | exact uk_GI _ _ | intro _)
theorem uk_Mo_resume  : Uk (M_Mo_resume) := by
  unfold M_Mo_resume
  repeat' with_reducible (first | apply uk_B | apply uk_C | exact uk_Mo_is _ _ | exact uk_Mo_raise _ | exact uk_Mo_av _ | exact uk_Mo_goesOn _ _ _ _ _ | exact uk_R _ | exact uk_PI (by omega) | exact uk_AI _ _ _ _ | exact uk_K _ | intro _)
theorem uk_Mo_giveWay_L41 (x) : Uk (M_Mo_giveWay_L41 x) := by
  unfold M_Mo_giveWay_L41
  repeat' with_reducible (first | apply uk_B | apply uk_C | exact uk_Va_add_ _ _ _ _ _ | exact uk_R _ | exact uk_GI _ _ | intro _)
theorem uk_Mo_giveWay  : Uk (M_Mo_giveWay) := by
  unfold M_Mo_giveWay
  repeat' with_reducible (first | apply uk_B | apply uk_C | exact uk_Mo_raise _ | exact uk_Mo_giveWay_L41 _ | exact uk_Mo_back _ | exact uk_R _ | exact uk_GI _ _ | exact uk_PI (by omega) | exact uk_K _ | apply uk_W | intro _)
theorem uk_Mo_leave_L2 (x) : Uk (M_Mo_leave_L2 x) := by
  unfold M_Mo_leave_L2
  repeat' with_reducible (first | apply uk_B | apply uk_C | exact uk_R _ | exact uk_GI _ _ | exact uk_AI _ _ _ _ | intro _)
theorem uk_Mo_leave (l1 : Int32) (l2 : Int32) : Uk (M_Mo_leave l1 l2) := by
  unfold M_Mo_leave
  repeat' with_reducible (first | apply uk_B | exact uk_Mo_leave_L2 _ | exact uk_Mo_close _ _ | exact uk_R _ | exact uk_AI _ _ _ _ | apply uk_W | apply uk_E | intro _)
theorem uk_Mo_halt_L26 (x) : Uk (M_Mo_halt_L26 x) := by
  unfold M_Mo_halt_L26
  repeat' with_reducible (first | apply uk_B | apply uk_C | exact uk_Mo_leave _ _ | exact uk_R _ | exact uk_GI _ _ | exact uk_PI (by omega) | exact uk_K _ | intro _)
theorem uk_Mo_halt  : Uk (M_Mo_halt) := by
  unfold M_Mo_halt
  repeat' with_reducible (first | apply uk_B | exact uk_Mo_halt_L26 _ | exact uk_Va_add _ _ _ _ | exact uk_R _ | exact uk_GI _ _ | exact uk_GL _ _ | exact uk_PI (by omega) | exact uk_K _ | apply uk_W | intro _)
theorem uk_Mo_reckon (l0 : Int32) (l1 : Int64) (l3 : Int64) : Uk (M_Mo_reckon l0 l1 l3) := by
  unfold M_Mo_reckon
  repeat' with_reducible (first | apply uk_B | apply uk_C | exact uk_Mth_floorMod _ _ | exact uk_Mth_floorDiv _ _ | exact uk_Mo_shifted _ _ | exact uk_R _ | intro _)
theorem uk_Mo_gather_j92 (l1 : Int32) (l2 : Int32) (l4 : Int32) (l5 : Int32) (l6 : Int32) (k0 : Int32) (k1 : Int32) (k2 : Int32) : Uk (M_Mo_gather_j92 l1 l2 l4 l5 l6 k0 k1 k2) := by
  unfold M_Mo_gather_j92
  repeat' with_reducible (first | apply uk_B | exact uk_Mo_addAt _ _ _ _ _ _ | exact uk_R _ | intro _)
theorem uk_Mo_gather_L68 (x) : Uk (M_Mo_gather_L68 x) := by
  unfold M_Mo_gather_L68
  repeat' with_reducible (first | apply uk_C | exact uk_Mo_gather_j92 _ _ _ _ _ _ _ _ | exact uk_R _ | intro _)
theorem uk_Mo_gather_j25 (l1 : Int32) (l2 : Int32) (l3 : Int32) (l4 : Int32) (k0 : Int32) : Uk (M_Mo_gather_j25 l1 l2 l3 l4 k0) := by
  unfold M_Mo_gather_j25
  repeat' with_reducible (first | apply uk_B | apply uk_C | exact uk_Mo_gather_L68 _ | exact uk_Mo_raise _ | exact uk_R _ | exact uk_PI (by omega) | exact uk_SI | apply uk_L | apply uk_W | intro _)
theorem uk_Mo_gather (l1 : Int32) (l2 : Int32) (l3 : Int32) (l4 : Int32) : Uk (M_Mo_gather l1 l2 l3 l4) := by
  unfold M_Mo_gather
  repeat' with_reducible (first | apply uk_B | apply uk_C | exact uk_Mo_gather_j25 _ _ _ _ _ | exact uk_AI _ _ _ _ | intro _)
theorem uk_Mo_kind (l1 : Int32) : Uk (M_Mo_kind l1) := by
  unfold M_Mo_kind
  repeat' with_reducible (first | apply uk_B | apply uk_C | exact uk_Mo_none _ | exact uk_R _ | exact uk_AI _ _ _ _ | intro _)
theorem uk_Mo_formed_j231 (l1 : Int32) (l2 : Int32) (l3 : Int32) (l4 : Int32) : Uk (M_Mo_formed_j231 l1 l2 l3 l4) := by
  unfold M_Mo_formed_j231
  repeat' with_reducible (first | apply uk_B | exact uk_Mo_named _ _ _ _ | exact uk_R _ | exact uk_K _ | intro _)
theorem uk_Mo_formed_j195 (l1 : Int32) (l2 : Int32) (l3 : Int32) (l4 : Int32) (l6 : Int32) : Uk (M_Mo_formed_j195 l1 l2 l3 l4 l6) := by
  unfold M_Mo_formed_j195
  repeat' with_reducible (first | apply uk_B | apply uk_C | exact uk_Mo_formed_j231 _ _ _ _ | exact uk_Mo_op _ | exact uk_Mo_goes _ | exact uk_R _ | intro _)
theorem uk_Mo_formed_j161 (l1 : Int32) (l2 : Int32) (l3 : Int32) (l4 : Int32) (l6 : Int32) : Uk (M_Mo_formed_j161 l1 l2 l3 l4 l6) := by
  unfold M_Mo_formed_j161
  repeat' with_reducible (first | apply uk_B | apply uk_C | exact uk_Mo_uses _ | exact uk_Mo_formed_j195 _ _ _ _ _ | exact uk_Mo_makes _ | exact uk_R _ | exact uk_AI _ _ _ _ | intro _)
theorem uk_Mo_formed_j140 (l1 : Int32) (l2 : Int32) (l3 : Int32) (l4 : Int32) (l6 : Int32) (k0 : Int32) : Uk (M_Mo_formed_j140 l1 l2 l3 l4 l6 k0) := by
  unfold M_Mo_formed_j140
  repeat' with_reducible (first | apply uk_B | apply uk_C | exact uk_Mo_uses _ | exact uk_Mo_a _ | exact uk_Mo_formed_j161 _ _ _ _ _ | exact uk_R _ | intro _)
theorem uk_Mo_formed_j106 (l1 : Int32) (l2 : Int32) (l3 : Int32) (l4 : Int32) (k0 : Int32) : Uk (M_Mo_formed_j106 l1 l2 l3 l4 k0) := by
  unfold M_Mo_formed_j106
  repeat' with_reducible (first | apply uk_B | apply uk_C | exact uk_Mo_makes _ | exact uk_Mo_formed_j161 _ _ _ _ _ | exact uk_Mo_op _ | exact uk_Mo_a _ | exact uk_Mo_formed_j140 _ _ _ _ _ _ | intro _)
theorem uk_Mo_formed_j82 (l1 : Int32) (l2 : Int32) (l3 : Int32) (l4 : Int32) (l5 : Int32) : Uk (M_Mo_formed_j82 l1 l2 l3 l4 l5) := by
  unfold M_Mo_formed_j82
  repeat' with_reducible (first | apply uk_B | apply uk_C | exact uk_Mo_formed_j106 _ _ _ _ _ | exact uk_AI _ _ _ _ | intro _)
theorem uk_Mo_formed_j52 (l1 : Int32) (l2 : Int32) (l3 : Int32) (l4 : Int32) (k0 : Int32) : Uk (M_Mo_formed_j52 l1 l2 l3 l4 k0) := by
  unfold M_Mo_formed_j52
  repeat' with_reducible (first | apply uk_C | exact uk_Mo_formed_j82 _ _ _ _ _ | exact uk_R _ | intro _)
theorem uk_Mo_formed (l1 : Int32) (l2 : Int32) : Uk (M_Mo_formed l1 l2) := by
  unfold M_Mo_formed
  repeat' with_reducible (first | apply uk_B | apply uk_C | exact uk_Mo_op _ | exact uk_Mo_formed_j52 _ _ _ _ _ | exact uk_PI (by omega) | exact uk_AI _ _ _ _ | intro _)
theorem uk_Mo_follow_L53 (x) : Uk (M_Mo_follow_L53 x) := by
  unfold M_Mo_follow_L53
  repeat' with_reducible (first | apply uk_B | apply uk_C | exact uk_Mo_mark _ _ | exact uk_R _ | exact uk_GI _ _ | exact uk_AI _ _ _ _ | exact uk_AL _ _ _ _ | exact uk_K _ | intro _)
theorem uk_Mo_follow_L135 (x) : Uk (M_Mo_follow_L135 x) := by
  unfold M_Mo_follow_L135
  repeat' with_reducible (first | apply uk_B | apply uk_C | exact uk_Mo_place _ | exact uk_R _ | exact uk_GI _ _ | exact uk_AI _ _ _ _ | exact uk_K _ | intro _)
theorem uk_Mo_follow (l1 : Int32) : Uk (M_Mo_follow l1) := by
  unfold M_Mo_follow
  repeat' with_reducible (first | apply uk_B | apply uk_C | exact uk_Mo_place _ | exact uk_Mo_follow_L53 _ | exact uk_Mo_follow_L135 _ | exact uk_Th_reach _ | exact uk_Mo_load _ | exact uk_Mo_mark _ _ | exact uk_R _ | exact uk_GI _ _ | exact uk_GL _ _ | exact uk_AI _ _ _ _ | exact uk_K _ | apply uk_W | intro _)
theorem uk_Mo_sweep_j73 (l1 : Int32) (l2 : Int64) (l4 : Int32) : Uk (M_Mo_sweep_j73 l1 l2 l4) := by
  unfold M_Mo_sweep_j73
  repeat' with_reducible (first | exact uk_R _ | intro _)
theorem uk_Mo_sweep_L13 (x) : Uk (M_Mo_sweep_L13 x) := by
  unfold M_Mo_sweep_L13
  repeat' with_reducible (first | apply uk_B | apply uk_C | exact uk_Mo_sweep_j73 _ _ _ | exact uk_Mo_threadGoes _ | exact uk_R _ | exact uk_GI _ _ | exact uk_AI _ _ _ _ | exact uk_K _ | intro _)
theorem uk_Mo_sweep_j240 (l1 : Int32) (l2 : Int64) (l4 : Int32) : Uk (M_Mo_sweep_j240 l1 l2 l4) := by
  unfold M_Mo_sweep_j240
  repeat' with_reducible (first | exact uk_R _ | intro _)
theorem uk_Mo_sweep_j204 (l1 : Int32) (l2 : Int64) (l4 : Int32) : Uk (M_Mo_sweep_j204 l1 l2 l4) := by
  unfold M_Mo_sweep_j204
  repeat' with_reducible (first | apply uk_B | exact uk_Mo_sweep_j240 _ _ _ | exact uk_GI _ _ | exact uk_PI (by omega) | exact uk_SI | intro _)
theorem uk_Mo_sweep_L82 (x) : Uk (M_Mo_sweep_L82 x) := by
  unfold M_Mo_sweep_L82
  repeat' with_reducible (first | apply uk_B | apply uk_C | exact uk_Mo_sweep_j240 _ _ _ | exact uk_Mo_unchain _ | exact uk_Mo_sweep_j204 _ _ _ | exact uk_Mo_forget _ _ | exact uk_R _ | exact uk_GI _ _ | exact uk_PI (by omega) | exact uk_AI _ _ _ _ | exact uk_K _ | intro _)
theorem uk_Mo_sweep  : Uk (M_Mo_sweep) := by
  unfold M_Mo_sweep
  repeat' with_reducible (first | apply uk_B | exact uk_Mo_sweep_L13 _ | exact uk_Mo_sweep_L82 _ | exact uk_R _ | exact uk_GI _ _ | exact uk_GL _ _ | exact uk_PI (by omega) | exact uk_PL | apply uk_W | intro _)
theorem uk_Mo_enter_j79  : Uk (M_Mo_enter_j79) := by
  unfold M_Mo_enter_j79
  repeat' with_reducible (first | apply uk_B | exact uk_Mo_raise _ | exact uk_R _ | exact uk_PI (by omega) | intro _)
theorem uk_Mo_enter_L139 (x) : Uk (M_Mo_enter_L139 x) := by
  unfold M_Mo_enter_L139
  repeat' with_reducible (first | apply uk_B | apply uk_C | exact uk_Va_set_ _ _ _ _ _ _ | exact uk_R _ | exact uk_AI _ _ _ _ | exact uk_K _ | intro _)
theorem uk_Mo_enter_j255 (l2 : Int32) (l3 : Int32) (l4 : Int32) (l5 : Int32) (l7 : Int32) : Uk (M_Mo_enter_j255 l2 l3 l4 l5 l7) := by
  unfold M_Mo_enter_j255
  repeat' with_reducible (first | exact uk_R _ | intro _)
theorem uk_Mo_enter_j238 (l2 : Int32) (l3 : Int32) (l4 : Int32) (l5 : Int32) (l7 : Int32) : Uk (M_Mo_enter_j238 l2 l3 l4 l5 l7) := by
  unfold M_Mo_enter_j238
  repeat' with_reducible (first | apply uk_B | exact uk_Va_set _ _ _ _ _ | exact uk_Mo_enter_j255 _ _ _ _ _ | exact uk_K _ | intro _)
theorem uk_Mo_enter_L180 (x) : Uk (M_Mo_enter_L180 x) := by
  unfold M_Mo_enter_L180
  repeat' with_reducible (first | apply uk_B | apply uk_C | exact uk_Mo_enter_j238 _ _ _ _ _ | exact uk_Va_set_ _ _ _ _ _ _ | exact uk_Mo_enter_j255 _ _ _ _ _ | exact uk_R _ | exact uk_GI _ _ | exact uk_AI _ _ _ _ | exact uk_K _ | intro _)
theorem uk_Mo_enter_j44 (l1 : Int32) (l2 : Int32) (l3 : Int32) (l4 : Int32) : Uk (M_Mo_enter_j44 l1 l2 l3 l4) := by
  unfold M_Mo_enter_j44
  repeat' with_reducible (first | apply uk_B | apply uk_C | exact uk_Mo_topOf _ | exact uk_Mo_enter_j79 | exact uk_Mo_push _ _ | exact uk_Th_top _ | exact uk_Mo_enter_L139 _ | exact uk_Mo_enter_L180 _ | exact uk_R _ | exact uk_GI _ _ | exact uk_PI (by omega) | exact uk_AI _ _ _ _ | exact uk_SI | exact uk_K _ | apply uk_W | intro _)
theorem uk_Mo_enter (l1 : Int32) : Uk (M_Mo_enter l1) := by
  unfold M_Mo_enter
  repeat' with_reducible (first | apply uk_B | apply uk_C | exact uk_Mth_max _ _ | exact uk_Mo_enter_j44 _ _ _ _ | exact uk_GI _ _ | exact uk_AI _ _ _ _ | intro _)
theorem uk_Mo_meta (l1 : Int32) (l2 : Int64) (l4 : Int32) : Uk (M_Mo_meta l1 l2 l4) := by
  unfold M_Mo_meta
  repeat' with_reducible (first | apply uk_B | apply uk_C | exact uk_Mo_raw _ _ _ | exact uk_R _ | exact uk_PI (by omega) | exact uk_AI _ _ _ _ | exact uk_K _ | intro _)
theorem uk_Mo_either_j24 (l2 : Int32) (l3 : Int64) (l5 : Int32) (l6 : Int64) : Uk (M_Mo_either_j24 l2 l3 l5 l6) := by
  unfold M_Mo_either_j24
  repeat' with_reducible (first | apply uk_B | exact uk_Mo_arguments _ _ _ _ | exact uk_R _ | exact uk_GI _ _ | exact uk_GL _ _ | exact uk_PI (by omega) | exact uk_PL | intro _)
theorem uk_Mo_either (l1 : Int32) (l2 : Int32) (l3 : Int64) (l5 : Int32) (l6 : Int64) : Uk (M_Mo_either l1 l2 l3 l5 l6) := by
  unfold M_Mo_either
  repeat' with_reducible (first | apply uk_B | apply uk_C | exact uk_Mo_meta _ _ _ | exact uk_Mo_either_j24 _ _ _ _ | exact uk_R _ | intro _)
theorem uk_Mo_error_L31 (x) : Uk (M_Mo_error_L31 x) := by
  unfold M_Mo_error_L31
  repeat' with_reducible (first | apply uk_B | apply uk_C | exact uk_R _ | exact uk_AI _ _ _ _ | exact uk_K _ | intro _)
theorem uk_Mo_error_j194 (k0 : Int32) : Uk (M_Mo_error_j194 k0) := by
  unfold M_Mo_error_j194
  repeat' with_reducible (first | apply uk_B | apply uk_C | exact uk_Va_add _ _ _ _ | exact uk_R _ | exact uk_GI _ _ | exact uk_GL _ _ | exact uk_PI (by omega) | exact uk_K _ | intro _)
theorem uk_Mo_error_j51 (l1 : Int32) (l2 : Int32) : Uk (M_Mo_error_j51 l1 l2) := by
  unfold M_Mo_error_j51
  repeat' with_reducible (first | apply uk_B | apply uk_C | exact uk_Mo_leave _ _ | exact uk_Va_add _ _ _ _ | exact uk_Mo_back _ | exact uk_Th_top _ | exact uk_Mo_error_j194 _ | exact uk_R _ | exact uk_GI _ _ | exact uk_GL _ _ | exact uk_PI (by omega) | exact uk_AI _ _ _ _ | exact uk_K _ | intro _)
theorem uk_Mo_error  : Uk (M_Mo_error) := by
  unfold M_Mo_error
  repeat' with_reducible (first | apply uk_B | exact uk_Th_top _ | exact uk_Mo_error_L31 _ | exact uk_Mo_error_j51 _ _ | exact uk_GI _ _ | exact uk_PI (by omega) | exact uk_K _ | apply uk_W | intro _)
theorem uk_Mo_index_L9 (x) : Uk (M_Mo_index_L9 x) := by
  unfold M_Mo_index_L9
  repeat' with_reducible (first | apply uk_B | apply uk_C | exact uk_Mo_raw _ _ _ | exact uk_Mo_meta _ _ _ | exact uk_R _ | exact uk_GI _ _ | exact uk_GL _ _ | intro _)
theorem uk_Mo_index_j64 (l7 : Int32) (l13 : Int32) (l14 : Int64) : Uk (M_Mo_index_j64 l7 l13 l14) := by
  unfold M_Mo_index_j64
  repeat' with_reducible (first | apply uk_B | exact uk_Th_top _ | exact uk_Va_set _ _ _ _ _ | exact uk_R _ | exact uk_GI _ _ | exact uk_AI _ _ _ _ | exact uk_K _ | intro _)
theorem uk_Mo_index (l1 : Int32) (l2 : Int64) (l4 : Int32) (l5 : Int64) (l7 : Int32) : Uk (M_Mo_index l1 l2 l4 l5 l7) := by
  unfold M_Mo_index
  repeat' with_reducible (first | apply uk_B | exact uk_Mo_index_L9 _ | exact uk_Mo_raise _ | exact uk_Mo_index_j64 _ _ _ | exact uk_Mo_arguments _ _ _ _ | exact uk_Mo_expect _ _ _ | exact uk_Mo_callGot | exact uk_R _ | apply uk_W | apply uk_E | intro _)
theorem uk_Mo_self (l1 : Int32) (l2 : Int32) (l3 : Int32) (l4 : Int32) (l5r : Nat) (l5 : Int32) (l6 : Int32) : Uk (M_Mo_self l1 l2 l3 l4 l5r l5 l6) := by
  unfold M_Mo_self
  repeat' with_reducible (first | apply uk_B | exact uk_Mo_b _ | exact uk_Va_set _ _ _ _ _ | exact uk_Mo_c _ | exact uk_Mo_rk_ _ _ _ _ | exact uk_Mo_a _ | exact uk_Mo_index _ _ _ _ _ | exact uk_R _ | exact uk_GI _ _ | exact uk_GL _ _ | exact uk_AI _ _ _ _ | exact uk_AL _ _ _ _ | intro _)
theorem uk_Mo_arithmetic_j118 (l4 : Int32) (l5 : Int32) (l8 : Int32) (l9 : Int64) (l11 : Int32) (l12 : Int64) : Uk (M_Mo_arithmetic_j118 l4 l5 l8 l9 l11 l12) := by
  unfold M_Mo_arithmetic_j118
  repeat' with_reducible (first | apply uk_B | apply uk_C | exact uk_Mo_a _ | exact uk_Mo_expect _ _ _ | exact uk_Mo_eventOf _ | exact uk_Mo_either _ _ _ _ _ | exact uk_Mo_raise _ | exact uk_R _ | intro _)
theorem uk_Mo_arithmetic_j188 (l5 : Int32) (l6r : Nat) (l6 : Int32) (l7 : Int32) (l9 : Int64) (l12 : Int64) : Uk (M_Mo_arithmetic_j188 l5 l6r l6 l7 l9 l12) := by
  unfold M_Mo_arithmetic_j188
  repeat' with_reducible (first | apply uk_B | exact uk_Mo_reckon _ _ _ | exact uk_Va_set _ _ _ _ _ | exact uk_R _ | intro _)
theorem uk_Mo_arithmetic_j172 (l5 : Int32) (l6r : Nat) (l6 : Int32) (l7 : Int32) (l9 : Int64) (l12 : Int64) : Uk (M_Mo_arithmetic_j172 l5 l6r l6 l7 l9 l12) := by
  unfold M_Mo_arithmetic_j172
  repeat' with_reducible (first | apply uk_B | apply uk_C | exact uk_Mo_raise _ | exact uk_Mo_arithmetic_j188 _ _ _ _ _ _ | exact uk_R _ | intro _)
theorem uk_Mo_arithmetic_j106 (l4 : Int32) (l5 : Int32) (l6r : Nat) (l6 : Int32) (l7 : Int32) (l8 : Int32) (l9 : Int64) (l11 : Int32) (l12 : Int64) : Uk (M_Mo_arithmetic_j106 l4 l5 l6r l6 l7 l8 l9 l11 l12) := by
  unfold M_Mo_arithmetic_j106
  repeat' with_reducible (first | apply uk_C | exact uk_Mo_arithmetic_j172 _ _ _ _ _ _ | exact uk_Mo_arithmetic_j188 _ _ _ _ _ _ | exact uk_Mo_arithmetic_j118 _ _ _ _ _ _ | intro _)
theorem uk_Mo_arithmetic (l1 : Int32) (l2 : Int32) (l3 : Int32) (l4 : Int32) (l5 : Int32) (l6r : Nat) (l6 : Int32) (l7 : Int32) : Uk (M_Mo_arithmetic l1 l2 l3 l4 l5 l6r l6 l7) := by
  unfold M_Mo_arithmetic
  repeat' with_reducible (first | apply uk_B | apply uk_C | exact uk_Mo_b _ | exact uk_Mo_rk_ _ _ _ _ | exact uk_Mo_c _ | exact uk_Mo_arithmetic_j106 _ _ _ _ _ _ _ _ _ | exact uk_GI _ _ | exact uk_GL _ _ | exact uk_AI _ _ _ _ | exact uk_AL _ _ _ _ | intro _)
theorem uk_Mo_length (l1 : Int32) (l2 : Int32) (l3 : Int64) (l5r : Nat) (l5 : Int32) (l6 : Int32) : Uk (M_Mo_length l1 l2 l3 l5r l5 l6) := by
  unfold M_Mo_length
  repeat' with_reducible (first | apply uk_B | apply uk_C | exact uk_Va_set _ _ _ _ _ | exact uk_Mo_meta _ _ _ | exact uk_Mo_border _ | exact uk_Va_add _ _ _ _ | exact uk_Mo_expect _ _ _ | exact uk_Mo_raise _ | exact uk_R _ | exact uk_GI _ _ | exact uk_GL _ _ | exact uk_PI (by omega) | exact uk_PL | exact uk_AI _ _ _ _ | intro _)
theorem uk_Mo_compare_j261 (l6 : Int32) (l7 : Int64) (l9 : Int32) (l10 : Int64) (k0 : Int32) : Uk (M_Mo_compare_j261 l6 l7 l9 l10 k0) := by
  unfold M_Mo_compare_j261
  repeat' with_reducible (first | apply uk_B | apply uk_C | exact uk_Mo_either _ _ _ _ _ | exact uk_Mo_raise _ | exact uk_R _ | intro _)
theorem uk_Mo_compare_j235 (l4 : Int32) (l5 : Int32) (l6 : Int32) (l7 : Int64) (l9 : Int32) (l10 : Int64) : Uk (M_Mo_compare_j235 l4 l5 l6 l7 l9 l10) := by
  unfold M_Mo_compare_j235
  repeat' with_reducible (first | apply uk_B | apply uk_C | exact uk_Mo_a _ | exact uk_Mo_expect _ _ _ | exact uk_Mo_compare_j261 _ _ _ _ _ | intro _)
theorem uk_Mo_compare_j298 (l1 : Int32) (l2 : Int32) (k0 : Int32) (k1 : Int32) : Uk (M_Mo_compare_j298 l1 l2 k0 k1) := by
  unfold M_Mo_compare_j298
  repeat' with_reducible (first | apply uk_B | apply uk_C | exact uk_R _ | exact uk_AI _ _ _ _ | exact uk_SI | intro _)
