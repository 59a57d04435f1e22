/-! Made by wip/l2n/ygen.py: the reference's programs leave the class's state alone. -/
theorem yk_Mo_markRow (l1r : Nat) (l1 : Int32) (l2 : Int32) (l3 : Int32) : Yk (M_Mo_markRow l1r l1 l2 l3) := by
  unfold M_Mo_markRow
  repeat' with_reducible (first | apply yk_B | exact yk_Mo_markRow_L3 _ | exact yk_R _ | apply yk_W | intro _)
theorem yk_Th_reach_j126 (l0 : Int32) (l2 : Int32) : Yk (M_Th_reach_j126 l0 l2) := by
  unfold M_Th_reach_j126
  repeat' with_reducible (first | exact yk_R _ | intro _)
theorem yk_Th_reach_j45 (l0 : Int32) (l2 : Int32) : Yk (M_Th_reach_j45 l0 l2) := by
  unfold M_Th_reach_j45
  repeat' with_reducible (first | apply yk_B | apply yk_C | exact yk_Mo_markRow _ _ _ _ | exact yk_Th_reach_j126 _ _ | exact yk_GI _ _ | exact yk_AI _ _ _ _ | intro _)
theorem yk_Th_reach_L18 (x) : Yk (M_Th_reach_L18 x) := by
  unfold M_Th_reach_L18
  repeat' with_reducible (first | apply yk_B | apply yk_C | exact yk_Th_reach_j45 _ _ | exact yk_Mo_place _ | exact yk_R _ | exact yk_GI _ _ | exact yk_AI _ _ _ _ | intro _)
theorem yk_Th_reach_L134 (x) : Yk (M_Th_reach_L134 x) := by
  unfold M_Th_reach_L134
  repeat' with_reducible (first | apply yk_B | apply yk_C | exact yk_Mo_place _ | exact yk_R _ | exact yk_GI _ _ | exact yk_AI _ _ _ _ | intro _)
theorem yk_Th_reach (l0 : Int32) : Yk (M_Th_reach l0) := by
  unfold M_Th_reach
  repeat' with_reducible (first | apply yk_B | exact yk_Mo_markRow _ _ _ _ | exact yk_Th_reach_L18 _ | exact yk_Th_reach_L134 _ | exact yk_R _ | exact yk_GI _ _ | apply yk_W | intro _)
theorem yk_Mo_threadGoes_L2 (x) : Yk (M_Mo_threadGoes_L2 x) := by
  unfold M_Mo_threadGoes_L2
  repeat' with_reducible (first | apply yk_B | apply yk_C | exact yk_Mo_closeVariable _ | exact yk_R _ | exact yk_GI _ _ | exact yk_AI _ _ _ _ | intro _)
theorem yk_Mo_threadGoes (l1 : Int32) : Yk (M_Mo_threadGoes l1) := by
  unfold M_Mo_threadGoes
  repeat' with_reducible (first | apply yk_B | exact yk_Mo_threadGoes_L2 _ | exact yk_R _ | exact yk_GI _ _ | exact yk_PI (by omega) | apply yk_W | intro _)
theorem yk_Mo_unchain_L48 (x) : Yk (M_Mo_unchain_L48 x) := by
  unfold M_Mo_unchain_L48
  repeat' with_reducible (first | apply yk_B | apply yk_C | exact yk_R _ | exact yk_AI _ _ _ _ | apply yk_L | intro _)
theorem yk_Mo_unchain (l1 : Int32) : Yk (M_Mo_unchain l1) := by
  unfold M_Mo_unchain
  repeat' with_reducible (first | apply yk_B | apply yk_C | exact yk_Mo_hash _ _ _ _ | exact yk_Mo_unchain_L48 _ | exact yk_R _ | exact yk_AI _ _ _ _ | exact yk_SI (by omega) | apply yk_L | apply yk_W | intro _)
theorem yk_Mo_entry_j91 (l1 : Int32) (l2 : Int32) (l3 : Int64) (l5 : Int32) : Yk (M_Mo_entry_j91 l1 l2 l3 l5) := by
  unfold M_Mo_entry_j91
  repeat' with_reducible (first | apply yk_B | exact yk_R _ | exact yk_GI _ _ | exact yk_AI _ _ _ _ | exact yk_K _ | apply yk_L | intro _)
theorem yk_Mo_entry_L39 (x) : Yk (M_Mo_entry_L39 x) := by
  unfold M_Mo_entry_L39
  repeat' with_reducible (first | apply yk_B | apply yk_C | exact yk_Mo_entry_j91 _ _ _ _ | exact yk_R _ | exact yk_GI _ _ | exact yk_AI _ _ _ _ | exact yk_AL _ _ _ _ | exact yk_K _ | intro _)
theorem yk_Mo_entry (l1 : Int32) (l2 : Int32) (l3 : Int64) : Yk (M_Mo_entry l1 l2 l3) := by
  unfold M_Mo_entry
  repeat' with_reducible (first | apply yk_B | apply yk_C | exact yk_Mo_slot _ _ _ | exact yk_Mo_entry_L39 _ | exact yk_R _ | exact yk_GI _ _ | exact yk_AI _ _ _ _ | exact yk_K _ | exact yk_Pr _ _ | apply yk_L | apply yk_W | apply yk_E | intro _)
theorem yk_Mo_move_j117 (l1 : Int32) (l4 : Int32) (l5 : Int32) (l6 : Int32) : Yk (M_Mo_move_j117 l1 l4 l5 l6) := by
  unfold M_Mo_move_j117
  repeat' with_reducible (first | exact yk_R _ | intro _)
theorem yk_Mo_move_L52 (x) : Yk (M_Mo_move_L52 x) := by
  unfold M_Mo_move_L52
  repeat' with_reducible (first | apply yk_B | apply yk_C | exact yk_Mo_move_j117 _ _ _ _ | exact yk_Mo_append _ _ _ _ _ | exact yk_R _ | exact yk_GI _ _ | exact yk_AI _ _ _ _ | exact yk_AL _ _ _ _ | exact yk_K _ | intro _)
theorem yk_Mo_move (l1 : Int32) (l2 : Int32) (l3 : Int32) : Yk (M_Mo_move l1 l2 l3) := by
  unfold M_Mo_move
  repeat' with_reducible (first | apply yk_B | exact yk_Arr_fill_____ _ _ _ _ _ (by omega) | exact yk_Mo_move_L52 _ | exact yk_R _ | exact yk_GI _ _ | exact yk_AI _ _ _ _ | exact yk_SI (by omega) | exact yk_K _ | apply yk_W | intro _)
theorem yk_Mo_topOf_L5 (x) : Yk (M_Mo_topOf_L5 x) := by
  unfold M_Mo_topOf_L5
  repeat' with_reducible (first | apply yk_B | apply yk_C | exact yk_R _ | exact yk_AI _ _ _ _ | intro _)
theorem yk_Mo_topOf (l1 : Int32) : Yk (M_Mo_topOf l1) := by
  unfold M_Mo_topOf
  repeat' with_reducible (first | apply yk_B | exact yk_Th_top _ | exact yk_Mo_topOf_L5 _ | exact yk_R _ | exact yk_AI _ _ _ _ | apply yk_W | apply yk_E | intro _)
theorem yk_Mo_raw_j54 (k0 : Int64) : Yk (M_Mo_raw_j54 k0) := by
  unfold M_Mo_raw_j54
  repeat' with_reducible (first | apply yk_B | apply yk_C | exact yk_R _ | exact yk_GI _ _ | exact yk_PL (by omega) | intro _)
theorem yk_Mo_raw_j34 (l5 : Int32) (k0 : Int32) : Yk (M_Mo_raw_j34 l5 k0) := by
  unfold M_Mo_raw_j34
  repeat' with_reducible (first | apply yk_B | apply yk_C | exact yk_Mo_raw_j54 _ | exact yk_GI _ _ | exact yk_PI (by omega) | exact yk_AL _ _ _ _ | exact yk_K _ | intro _)
theorem yk_Mo_raw_j15 (k0 : Int32) : Yk (M_Mo_raw_j15 k0) := by
  unfold M_Mo_raw_j15
  repeat' with_reducible (first | apply yk_B | apply yk_C | exact yk_Mo_raw_j34 _ _ | exact yk_GI _ _ | exact yk_AI _ _ _ _ | exact yk_K _ | intro _)
theorem yk_Mo_raw (l1 : Int32) (l2 : Int32) (l3 : Int64) : Yk (M_Mo_raw l1 l2 l3) := by
  unfold M_Mo_raw
  repeat' with_reducible (first | apply yk_B | apply yk_C | exact yk_Mo_raw_j15 _ | exact yk_Mo_entry _ _ _ | intro _)
theorem yk_Mo_setMeta_j27  : Yk (M_Mo_setMeta_j27) := by
  unfold M_Mo_setMeta_j27
  repeat' with_reducible (first | apply yk_B | exact yk_Mo_raise _ | exact yk_R _ | intro _)
theorem yk_Mo_setMeta_j104 (l1 : Int32) (k0 : Int32) (k1 : Int32) : Yk (M_Mo_setMeta_j104 l1 k0 k1) := by
  unfold M_Mo_setMeta_j104
  repeat' with_reducible (first | apply yk_B | exact yk_Mo_give _ _ | exact yk_R _ | exact yk_SI (by omega) | intro _)
theorem yk_Mo_setMeta_j80 (l1 : Int32) : Yk (M_Mo_setMeta_j80 l1) := by
  unfold M_Mo_setMeta_j80
  repeat' with_reducible (first | apply yk_B | apply yk_C | exact yk_Mo_is _ _ | exact yk_Mo_setMeta_j104 _ _ _ | exact yk_Mo_av _ | intro _)
theorem yk_Mo_setMeta_j34  : Yk (M_Mo_setMeta_j34) := by
  unfold M_Mo_setMeta_j34
  repeat' with_reducible (first | apply yk_B | apply yk_C | exact yk_Mo_av _ | exact yk_Mo_setMeta_j80 _ | exact yk_Mo_raw _ _ _ | exact yk_Mo_raise _ | exact yk_R _ | exact yk_AI _ _ _ _ | intro _)
theorem yk_Mo_setMeta  : Yk (M_Mo_setMeta) := by
  unfold M_Mo_setMeta
  repeat' with_reducible (first | apply yk_B | apply yk_C | exact yk_Mo_is _ _ | exact yk_Mo_setMeta_j27 | exact yk_Mo_setMeta_j34 | intro _)
theorem yk_Mo_getMeta_j23  : Yk (M_Mo_getMeta_j23) := by
  unfold M_Mo_getMeta_j23
  repeat' with_reducible (first | apply yk_B | exact yk_Mo_give _ _ | exact yk_R _ | intro _)
theorem yk_Mo_getMeta  : Yk (M_Mo_getMeta) := by
  unfold M_Mo_getMeta
  repeat' with_reducible (first | apply yk_B | apply yk_C | exact yk_Mo_is _ _ | exact yk_Mo_getMeta_j23 | exact yk_Mo_av _ | exact yk_Mo_raw _ _ _ | exact yk_Mo_give _ _ | exact yk_R _ | exact yk_GI _ _ | exact yk_GL _ _ | exact yk_AI _ _ _ _ | intro _)
theorem yk_Mo_border_L2 (x) : Yk (M_Mo_border_L2 x) := by
  unfold M_Mo_border_L2
  repeat' with_reducible (first | apply yk_B | apply yk_C | exact yk_Mo_raw _ _ _ | exact yk_R _ | apply yk_L | intro _)
theorem yk_Mo_border (l1 : Int32) : Yk (M_Mo_border l1) := by
  unfold M_Mo_border
  repeat' with_reducible (first | apply yk_B | exact yk_Mo_border_L2 _ | exact yk_R _ | apply yk_W | intro _)
theorem yk_Mo_next_L85 (x) : Yk (M_Mo_next_L85 x) := by
  unfold M_Mo_next_L85
  repeat' with_reducible (first | apply yk_B | apply yk_C | exact yk_R _ | exact yk_GI _ _ | exact yk_AI _ _ _ _ | exact yk_K _ | intro _)
theorem yk_Mo_next_j105 (l2 : Int32) (l3 : Int32) : Yk (M_Mo_next_j105 l2 l3) := by
  unfold M_Mo_next_j105
  repeat' with_reducible (first | apply yk_B | apply yk_C | exact yk_Mo_give _ _ | exact yk_Va_add _ _ _ _ (by omega) | exact yk_R _ | exact yk_GI _ _ | exact yk_AI _ _ _ _ | exact yk_AL _ _ _ _ | exact yk_K _ | intro _)
theorem yk_Mo_next_j71 (l1 : Int32) (l2 : Int32) : Yk (M_Mo_next_j71 l1 l2) := by
  unfold M_Mo_next_j71
  repeat' with_reducible (first | apply yk_B | exact yk_Mo_next_L85 _ | exact yk_Mo_next_j105 _ _ | exact yk_AI _ _ _ _ | apply yk_L | apply yk_W | intro _)
theorem yk_Mo_next  : Yk (M_Mo_next) := by
  unfold M_Mo_next
  repeat' with_reducible (first | apply yk_B | apply yk_C | exact yk_Mo_is _ _ | exact yk_Mo_raise _ | exact yk_Mo_av _ | exact yk_Mo_ak _ | exact yk_Mo_entry _ _ _ | exact yk_Mo_next_j71 _ _ | exact yk_R _ | exact yk_AI _ _ _ _ | apply yk_L | intro _)
theorem yk_Mo_select_j57  : Yk (M_Mo_select_j57) := by
  unfold M_Mo_select_j57
  repeat' with_reducible (first | apply yk_B | exact yk_Mo_raise _ | exact yk_R _ | intro _)
theorem yk_Mo_select_L75 (x) : Yk (M_Mo_select_L75 x) := by
  unfold M_Mo_select_L75
  repeat' with_reducible (first | apply yk_B | apply yk_C | exact yk_Va_add_ _ _ _ _ _ (by omega) | exact yk_R _ | exact yk_GI _ _ | apply yk_L | intro _)
theorem yk_Mo_select_j38  : Yk (M_Mo_select_j38) := by
  unfold M_Mo_select_j38
  repeat' with_reducible (first | apply yk_B | apply yk_C | exact yk_Mo_is _ _ | exact yk_Mo_select_j57 | exact yk_Mo_av _ | exact yk_Mo_giveNone | exact yk_Mo_select_L75 _ | exact yk_R _ | apply yk_W | intro _)
theorem yk_Mo_select  : Yk (M_Mo_select) := by
  unfold M_Mo_select
  repeat' with_reducible (first | apply yk_B | apply yk_C | exact yk_Mo_is _ _ | exact yk_Mo_select_j38 | exact yk_Mo_av _ | exact yk_Mo_isMark _ | exact yk_Mo_give _ _ | exact yk_R _ | exact yk_GI _ _ | intro _)
theorem yk_Mo_resume  : Yk (M_Mo_resume) := by
  unfold M_Mo_resume
  repeat' with_reducible (first | apply yk_B | apply yk_C | exact yk_Mo_is _ _ | exact yk_Mo_raise _ | exact yk_Mo_av _ | exact yk_Mo_goesOn _ _ _ _ _ | exact yk_R _ | exact yk_PI (by omega) | exact yk_AI _ _ _ _ | exact yk_K _ | intro _)
theorem yk_Mo_giveWay_L41 (x) : Yk (M_Mo_giveWay_L41 x) := by
  unfold M_Mo_giveWay_L41
  repeat' with_reducible (first | apply yk_B | apply yk_C | exact yk_Va_add_ _ _ _ _ _ (by omega) | exact yk_R _ | exact yk_GI _ _ | intro _)
theorem yk_Mo_giveWay  : Yk (M_Mo_giveWay) := by
  unfold M_Mo_giveWay
  repeat' with_reducible (first | apply yk_B | apply yk_C | exact yk_Mo_raise _ | exact yk_Mo_giveWay_L41 _ | exact yk_Mo_back _ | exact yk_R _ | exact yk_GI _ _ | exact yk_PI (by omega) | exact yk_K _ | apply yk_W | intro _)
theorem yk_Mo_leave_L2 (x) : Yk (M_Mo_leave_L2 x) := by
  unfold M_Mo_leave_L2
  repeat' with_reducible (first | apply yk_B | apply yk_C | exact yk_R _ | exact yk_GI _ _ | exact yk_AI _ _ _ _ | intro _)
theorem yk_Mo_leave (l1 : Int32) (l2 : Int32) : Yk (M_Mo_leave l1 l2) := by
  unfold M_Mo_leave
  repeat' with_reducible (first | apply yk_B | exact yk_Mo_leave_L2 _ | exact yk_Mo_close _ _ | exact yk_R _ | exact yk_AI _ _ _ _ | apply yk_W | apply yk_E | intro _)
theorem yk_Mo_halt_L26 (x) : Yk (M_Mo_halt_L26 x) := by
  unfold M_Mo_halt_L26
  repeat' with_reducible (first | apply yk_B | apply yk_C | exact yk_Mo_leave _ _ | exact yk_R _ | exact yk_GI _ _ | exact yk_PI (by omega) | exact yk_K _ | intro _)
theorem yk_Mo_halt  : Yk (M_Mo_halt) := by
  unfold M_Mo_halt
  repeat' with_reducible (first | apply yk_B | exact yk_Mo_halt_L26 _ | exact yk_Va_add _ _ _ _ (by omega) | exact yk_R _ | exact yk_GI _ _ | exact yk_GL _ _ | exact yk_PI (by omega) | exact yk_K _ | apply yk_W | intro _)
theorem yk_Mo_reckon (l0 : Int32) (l1 : Int64) (l3 : Int64) : Yk (M_Mo_reckon l0 l1 l3) := by
  unfold M_Mo_reckon
  repeat' with_reducible (first | apply yk_B | apply yk_C | exact yk_Mth_floorMod _ _ | exact yk_Mth_floorDiv _ _ | exact yk_Mo_shifted _ _ | exact yk_R _ | intro _)
theorem yk_Mo_gather_j92 (l1 : Int32) (l2 : Int32) (l4 : Int32) (l5 : Int32) (l6 : Int32) (k0 : Int32) (k1 : Int32) (k2 : Int32) : Yk (M_Mo_gather_j92 l1 l2 l4 l5 l6 k0 k1 k2) := by
  unfold M_Mo_gather_j92
  repeat' with_reducible (first | apply yk_B | exact yk_Mo_addAt _ _ _ _ _ _ (by omega) | exact yk_R _ | intro _)
theorem yk_Mo_gather_L68 (x) : Yk (M_Mo_gather_L68 x) := by
  unfold M_Mo_gather_L68
  repeat' with_reducible (first | apply yk_C | exact yk_Mo_gather_j92 _ _ _ _ _ _ _ _ | exact yk_R _ | intro _)
theorem yk_Mo_gather_j25 (l1 : Int32) (l2 : Int32) (l3 : Int32) (l4 : Int32) (k0 : Int32) : Yk (M_Mo_gather_j25 l1 l2 l3 l4 k0) := by
  unfold M_Mo_gather_j25
  repeat' with_reducible (first | apply yk_B | apply yk_C | exact yk_Mo_gather_L68 _ | exact yk_Mo_raise _ | exact yk_R _ | exact yk_PI (by omega) | exact yk_SI (by omega) | apply yk_L | apply yk_W | intro _)
theorem yk_Mo_gather (l1 : Int32) (l2 : Int32) (l3 : Int32) (l4 : Int32) : Yk (M_Mo_gather l1 l2 l3 l4) := by
  unfold M_Mo_gather
  repeat' with_reducible (first | apply yk_B | apply yk_C | exact yk_Mo_gather_j25 _ _ _ _ _ | exact yk_AI _ _ _ _ | intro _)
theorem yk_Mo_kind (l1 : Int32) : Yk (M_Mo_kind l1) := by
  unfold M_Mo_kind
  repeat' with_reducible (first | apply yk_B | apply yk_C | exact yk_Mo_none _ | exact yk_R _ | exact yk_AI _ _ _ _ | intro _)
theorem yk_Mo_formed_j231 (l1 : Int32) (l2 : Int32) (l3 : Int32) (l4 : Int32) : Yk (M_Mo_formed_j231 l1 l2 l3 l4) := by
  unfold M_Mo_formed_j231
  repeat' with_reducible (first | apply yk_B | exact yk_Mo_named _ _ _ _ | exact yk_R _ | exact yk_K _ | intro _)
theorem yk_Mo_formed_j195 (l1 : Int32) (l2 : Int32) (l3 : Int32) (l4 : Int32) (l6 : Int32) : Yk (M_Mo_formed_j195 l1 l2 l3 l4 l6) := by
  unfold M_Mo_formed_j195
  repeat' with_reducible (first | apply yk_B | apply yk_C | exact yk_Mo_formed_j231 _ _ _ _ | exact yk_Mo_op _ | exact yk_Mo_goes _ | exact yk_R _ | intro _)
theorem yk_Mo_formed_j161 (l1 : Int32) (l2 : Int32) (l3 : Int32) (l4 : Int32) (l6 : Int32) : Yk (M_Mo_formed_j161 l1 l2 l3 l4 l6) := by
  unfold M_Mo_formed_j161
  repeat' with_reducible (first | apply yk_B | apply yk_C | exact yk_Mo_uses _ | exact yk_Mo_formed_j195 _ _ _ _ _ | exact yk_Mo_makes _ | exact yk_R _ | exact yk_AI _ _ _ _ | intro _)
theorem yk_Mo_formed_j140 (l1 : Int32) (l2 : Int32) (l3 : Int32) (l4 : Int32) (l6 : Int32) (k0 : Int32) : Yk (M_Mo_formed_j140 l1 l2 l3 l4 l6 k0) := by
  unfold M_Mo_formed_j140
  repeat' with_reducible (first | apply yk_B | apply yk_C | exact yk_Mo_uses _ | exact yk_Mo_a _ | exact yk_Mo_formed_j161 _ _ _ _ _ | exact yk_R _ | intro _)
theorem yk_Mo_formed_j106 (l1 : Int32) (l2 : Int32) (l3 : Int32) (l4 : Int32) (k0 : Int32) : Yk (M_Mo_formed_j106 l1 l2 l3 l4 k0) := by
  unfold M_Mo_formed_j106
  repeat' with_reducible (first | apply yk_B | apply yk_C | exact yk_Mo_makes _ | exact yk_Mo_formed_j161 _ _ _ _ _ | exact yk_Mo_op _ | exact yk_Mo_a _ | exact yk_Mo_formed_j140 _ _ _ _ _ _ | intro _)
theorem yk_Mo_formed_j82 (l1 : Int32) (l2 : Int32) (l3 : Int32) (l4 : Int32) (l5 : Int32) : Yk (M_Mo_formed_j82 l1 l2 l3 l4 l5) := by
  unfold M_Mo_formed_j82
  repeat' with_reducible (first | apply yk_B | apply yk_C | exact yk_Mo_formed_j106 _ _ _ _ _ | exact yk_AI _ _ _ _ | intro _)
theorem yk_Mo_formed_j52 (l1 : Int32) (l2 : Int32) (l3 : Int32) (l4 : Int32) (k0 : Int32) : Yk (M_Mo_formed_j52 l1 l2 l3 l4 k0) := by
  unfold M_Mo_formed_j52
  repeat' with_reducible (first | apply yk_C | exact yk_Mo_formed_j82 _ _ _ _ _ | exact yk_R _ | intro _)
theorem yk_Mo_formed (l1 : Int32) (l2 : Int32) : Yk (M_Mo_formed l1 l2) := by
  unfold M_Mo_formed
  repeat' with_reducible (first | apply yk_B | apply yk_C | exact yk_Mo_op _ | exact yk_Mo_formed_j52 _ _ _ _ _ | exact yk_PI (by omega) | exact yk_AI _ _ _ _ | intro _)
theorem yk_Mo_follow_L53 (x) : Yk (M_Mo_follow_L53 x) := by
  unfold M_Mo_follow_L53
  repeat' with_reducible (first | apply yk_B | apply yk_C | exact yk_Mo_mark _ _ | exact yk_R _ | exact yk_GI _ _ | exact yk_AI _ _ _ _ | exact yk_AL _ _ _ _ | exact yk_K _ | intro _)
theorem yk_Mo_follow_L135 (x) : Yk (M_Mo_follow_L135 x) := by
  unfold M_Mo_follow_L135
  repeat' with_reducible (first | apply yk_B | apply yk_C | exact yk_Mo_place _ | exact yk_R _ | exact yk_GI _ _ | exact yk_AI _ _ _ _ | exact yk_K _ | intro _)
theorem yk_Mo_follow (l1 : Int32) : Yk (M_Mo_follow l1) := by
  unfold M_Mo_follow
  repeat' with_reducible (first | apply yk_B | apply yk_C | exact yk_Mo_place _ | exact yk_Mo_follow_L53 _ | exact yk_Mo_follow_L135 _ | exact yk_Th_reach _ | exact yk_Mo_load _ | exact yk_Mo_mark _ _ | exact yk_R _ | exact yk_GI _ _ | exact yk_GL _ _ | exact yk_AI _ _ _ _ | exact yk_K _ | apply yk_W | intro _)
theorem yk_Mo_sweep_j73 (l1 : Int32) (l2 : Int64) (l4 : Int32) : Yk (M_Mo_sweep_j73 l1 l2 l4) := by
  unfold M_Mo_sweep_j73
  repeat' with_reducible (first | exact yk_R _ | intro _)
theorem yk_Mo_sweep_L13 (x) : Yk (M_Mo_sweep_L13 x) := by
  unfold M_Mo_sweep_L13
  repeat' with_reducible (first | apply yk_B | apply yk_C | exact yk_Mo_sweep_j73 _ _ _ | exact yk_Mo_threadGoes _ | exact yk_R _ | exact yk_GI _ _ | exact yk_AI _ _ _ _ | exact yk_K _ | intro _)
theorem yk_Mo_sweep_j240 (l1 : Int32) (l2 : Int64) (l4 : Int32) : Yk (M_Mo_sweep_j240 l1 l2 l4) := by
  unfold M_Mo_sweep_j240
  repeat' with_reducible (first | exact yk_R _ | intro _)
theorem yk_Mo_sweep_j204 (l1 : Int32) (l2 : Int64) (l4 : Int32) : Yk (M_Mo_sweep_j204 l1 l2 l4) := by
  unfold M_Mo_sweep_j204
  repeat' with_reducible (first | apply yk_B | exact yk_Mo_sweep_j240 _ _ _ | exact yk_GI _ _ | exact yk_PI (by omega) | exact yk_SI (by omega) | intro _)
theorem yk_Mo_sweep_L82 (x) : Yk (M_Mo_sweep_L82 x) := by
  unfold M_Mo_sweep_L82
  repeat' with_reducible (first | apply yk_B | apply yk_C | exact yk_Mo_sweep_j240 _ _ _ | exact yk_Mo_unchain _ | exact yk_Mo_sweep_j204 _ _ _ | exact yk_Mo_forget _ _ | exact yk_R _ | exact yk_GI _ _ | exact yk_PI (by omega) | exact yk_AI _ _ _ _ | exact yk_K _ | intro _)
theorem yk_Mo_sweep  : Yk (M_Mo_sweep) := by
  unfold M_Mo_sweep
  repeat' with_reducible (first | apply yk_B | exact yk_Mo_sweep_L13 _ | exact yk_Mo_sweep_L82 _ | exact yk_R _ | exact yk_GI _ _ | exact yk_GL _ _ | exact yk_PI (by omega) | exact yk_PL (by omega) | apply yk_W | intro _)
theorem yk_Mo_enter_j79  : Yk (M_Mo_enter_j79) := by
  unfold M_Mo_enter_j79
  repeat' with_reducible (first | apply yk_B | exact yk_Mo_raise _ | exact yk_R _ | exact yk_PI (by omega) | intro _)
theorem yk_Mo_enter_L139 (x) : Yk (M_Mo_enter_L139 x) := by
  unfold M_Mo_enter_L139
  repeat' with_reducible (first | apply yk_B | apply yk_C | exact yk_Va_set_ _ _ _ _ _ _ (by omega) | exact yk_R _ | exact yk_AI _ _ _ _ | exact yk_K _ | intro _)
theorem yk_Mo_enter_j255 (l2 : Int32) (l3 : Int32) (l4 : Int32) (l5 : Int32) (l7 : Int32) : Yk (M_Mo_enter_j255 l2 l3 l4 l5 l7) := by
  unfold M_Mo_enter_j255
  repeat' with_reducible (first | exact yk_R _ | intro _)
theorem yk_Mo_enter_j238 (l2 : Int32) (l3 : Int32) (l4 : Int32) (l5 : Int32) (l7 : Int32) : Yk (M_Mo_enter_j238 l2 l3 l4 l5 l7) := by
  unfold M_Mo_enter_j238
  repeat' with_reducible (first | apply yk_B | exact yk_Va_set _ _ _ _ _ (by omega) | exact yk_Mo_enter_j255 _ _ _ _ _ | exact yk_K _ | intro _)
theorem yk_Mo_enter_L180 (x) : Yk (M_Mo_enter_L180 x) := by
  unfold M_Mo_enter_L180
  repeat' with_reducible (first | apply yk_B | apply yk_C | exact yk_Mo_enter_j238 _ _ _ _ _ | exact yk_Va_set_ _ _ _ _ _ _ (by omega) | exact yk_Mo_enter_j255 _ _ _ _ _ | exact yk_R _ | exact yk_GI _ _ | exact yk_AI _ _ _ _ | exact yk_K _ | intro _)
theorem yk_Mo_enter_j44 (l1 : Int32) (l2 : Int32) (l3 : Int32) (l4 : Int32) : Yk (M_Mo_enter_j44 l1 l2 l3 l4) := by
  unfold M_Mo_enter_j44
  repeat' with_reducible (first | apply yk_B | apply yk_C | exact yk_Mo_topOf _ | exact yk_Mo_enter_j79 | exact yk_Mo_push _ _ | exact yk_Th_top _ | exact yk_Mo_enter_L139 _ | exact yk_Mo_enter_L180 _ | exact yk_R _ | exact yk_GI _ _ | exact yk_PI (by omega) | exact yk_AI _ _ _ _ | exact yk_SI (by omega) | exact yk_K _ | apply yk_W | intro _)
theorem yk_Mo_enter (l1 : Int32) : Yk (M_Mo_enter l1) := by
  unfold M_Mo_enter
  repeat' with_reducible (first | apply yk_B | apply yk_C | exact yk_Mth_max _ _ | exact yk_Mo_enter_j44 _ _ _ _ | exact yk_GI _ _ | exact yk_AI _ _ _ _ | intro _)
theorem yk_Mo_meta (l1 : Int32) (l2 : Int64) (l4 : Int32) : Yk (M_Mo_meta l1 l2 l4) := by
  unfold M_Mo_meta
  repeat' with_reducible (first | apply yk_B | apply yk_C | exact yk_Mo_raw _ _ _ | exact yk_R _ | exact yk_PI (by omega) | exact yk_AI _ _ _ _ | exact yk_K _ | intro _)
theorem yk_Mo_either_j24 (l2 : Int32) (l3 : Int64) (l5 : Int32) (l6 : Int64) : Yk (M_Mo_either_j24 l2 l3 l5 l6) := by
  unfold M_Mo_either_j24
  repeat' with_reducible (first | apply yk_B | exact yk_Mo_arguments _ _ _ _ | exact yk_R _ | exact yk_GI _ _ | exact yk_GL _ _ | exact yk_PI (by omega) | exact yk_PL (by omega) | intro _)
theorem yk_Mo_either (l1 : Int32) (l2 : Int32) (l3 : Int64) (l5 : Int32) (l6 : Int64) : Yk (M_Mo_either l1 l2 l3 l5 l6) := by
  unfold M_Mo_either
  repeat' with_reducible (first | apply yk_B | apply yk_C | exact yk_Mo_meta _ _ _ | exact yk_Mo_either_j24 _ _ _ _ | exact yk_R _ | intro _)
theorem yk_Mo_error_L31 (x) : Yk (M_Mo_error_L31 x) := by
  unfold M_Mo_error_L31
  repeat' with_reducible (first | apply yk_B | apply yk_C | exact yk_R _ | exact yk_AI _ _ _ _ | exact yk_K _ | intro _)
theorem yk_Mo_error_j194 (k0 : Int32) : Yk (M_Mo_error_j194 k0) := by
  unfold M_Mo_error_j194
  repeat' with_reducible (first | apply yk_B | apply yk_C | exact yk_Va_add _ _ _ _ (by omega) | exact yk_R _ | exact yk_GI _ _ | exact yk_GL _ _ | exact yk_PI (by omega) | exact yk_K _ | intro _)
theorem yk_Mo_error_j51 (l1 : Int32) (l2 : Int32) : Yk (M_Mo_error_j51 l1 l2) := by
  unfold M_Mo_error_j51
  repeat' with_reducible (first | apply yk_B | apply yk_C | exact yk_Mo_leave _ _ | exact yk_Va_add _ _ _ _ (by omega) | exact yk_Mo_back _ | exact yk_Th_top _ | exact yk_Mo_error_j194 _ | exact yk_R _ | exact yk_GI _ _ | exact yk_GL _ _ | exact yk_PI (by omega) | exact yk_AI _ _ _ _ | exact yk_K _ | intro _)
theorem yk_Mo_error  : Yk (M_Mo_error) := by
  unfold M_Mo_error
  repeat' with_reducible (first | apply yk_B | exact yk_Th_top _ | exact yk_Mo_error_L31 _ | exact yk_Mo_error_j51 _ _ | exact yk_GI _ _ | exact yk_PI (by omega) | exact yk_K _ | apply yk_W | intro _)
theorem yk_Mo_index_L9 (x) : Yk (M_Mo_index_L9 x) := by
  unfold M_Mo_index_L9
  repeat' with_reducible (first | apply yk_B | apply yk_C | exact yk_Mo_raw _ _ _ | exact yk_Mo_meta _ _ _ | exact yk_R _ | exact yk_GI _ _ | exact yk_GL _ _ | intro _)
theorem yk_Mo_index_j64 (l7 : Int32) (l13 : Int32) (l14 : Int64) : Yk (M_Mo_index_j64 l7 l13 l14) := by
  unfold M_Mo_index_j64
  repeat' with_reducible (first | apply yk_B | exact yk_Th_top _ | exact yk_Va_set _ _ _ _ _ (by omega) | exact yk_R _ | exact yk_GI _ _ | exact yk_AI _ _ _ _ | exact yk_K _ | intro _)
theorem yk_Mo_index (l1 : Int32) (l2 : Int64) (l4 : Int32) (l5 : Int64) (l7 : Int32) : Yk (M_Mo_index l1 l2 l4 l5 l7) := by
  unfold M_Mo_index
  repeat' with_reducible (first | apply yk_B | exact yk_Mo_index_L9 _ | exact yk_Mo_raise _ | exact yk_Mo_index_j64 _ _ _ | exact yk_Mo_arguments _ _ _ _ | exact yk_Mo_expect _ _ _ | exact yk_Mo_callGot | exact yk_R _ | apply yk_W | apply yk_E | intro _)
theorem yk_Mo_self (l1 : Int32) (l2 : Int32) (l3 : Int32) (l4 : Int32) (l5r : Nat) (l5 : Int32) (l6 : Int32) (h4 : l5r < 98) : Yk (M_Mo_self l1 l2 l3 l4 l5r l5 l6) := by
  unfold M_Mo_self
  repeat' with_reducible (first | apply yk_B | exact yk_Mo_b _ | exact yk_Va_set _ _ _ _ _ (by omega) | exact yk_Mo_c _ | exact yk_Mo_rk_ _ _ _ _ | exact yk_Mo_a _ | exact yk_Mo_index _ _ _ _ _ | exact yk_R _ | exact yk_GI _ _ | exact yk_GL _ _ | exact yk_AI _ _ _ _ | exact yk_AL _ _ _ _ | intro _)
theorem yk_Mo_arithmetic_j118 (l4 : Int32) (l5 : Int32) (l8 : Int32) (l9 : Int64) (l11 : Int32) (l12 : Int64) : Yk (M_Mo_arithmetic_j118 l4 l5 l8 l9 l11 l12) := by
  unfold M_Mo_arithmetic_j118
  repeat' with_reducible (first | apply yk_B | apply yk_C | exact yk_Mo_a _ | exact yk_Mo_expect _ _ _ | exact yk_Mo_eventOf _ | exact yk_Mo_either _ _ _ _ _ | exact yk_Mo_raise _ | exact yk_R _ | intro _)
theorem yk_Mo_arithmetic_j188 (l5 : Int32) (l6r : Nat) (l6 : Int32) (l7 : Int32) (l9 : Int64) (l12 : Int64) (h1 : l6r < 98) : Yk (M_Mo_arithmetic_j188 l5 l6r l6 l7 l9 l12) := by
  unfold M_Mo_arithmetic_j188
  repeat' with_reducible (first | apply yk_B | exact yk_Mo_reckon _ _ _ | exact yk_Va_set _ _ _ _ _ (by omega) | exact yk_R _ | intro _)
theorem yk_Mo_arithmetic_j172 (l5 : Int32) (l6r : Nat) (l6 : Int32) (l7 : Int32) (l9 : Int64) (l12 : Int64) (h1 : l6r < 98) : Yk (M_Mo_arithmetic_j172 l5 l6r l6 l7 l9 l12) := by
  unfold M_Mo_arithmetic_j172
  repeat' with_reducible (first | apply yk_B | apply yk_C | exact yk_Mo_raise _ | exact yk_Mo_arithmetic_j188 _ _ _ _ _ _ (by omega) | exact yk_R _ | intro _)
