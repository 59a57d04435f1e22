/-! Made by wip/l2n/zgen.py: what the class's programs leave alone. -/
theorem zk_He_clean  : Zk 111 true (M_He_clean) := by
  unfold M_He_clean
  repeat' with_reducible (first | apply zk_B | exact zk_He_clean_L12 _ | exact zk_He_reach _ _ | exact zk_He_clean_L72 _ | exact zk_He_clean_j112 _ | exact zk_GI _ _ | exact zk_AI _ _ _ _ | exact zk_SI (by omega) | exact zk_Pr _ _ | apply zk_W | exact zk_PI (by omega) | intro _)
theorem zk_Ta_makeRoom_j108 (l1 : Int32) (l2 : Int32) (l4 : Int32) : Zk 111 true (M_Ta_makeRoom_j108 l1 l2 l4) := by
  unfold M_Ta_makeRoom_j108
  repeat' with_reducible (first | apply zk_B | apply zk_C | exact zk_Ta_moveTo _ _ | exact zk_R _ | exact zk_GI _ _ | exact zk_AI _ _ _ _ | exact zk_SI (by omega) | intro _)
theorem zk_Ta_makeRoom_j62 (l1 : Int32) (l2 : Int32) (k0 : Int32) : Zk 111 true (M_Ta_makeRoom_j62 l1 l2 k0) := by
  unfold M_Ta_makeRoom_j62
  repeat' with_reducible (first | apply zk_B | apply zk_C | exact zk_Ta_makeRoom_j108 _ _ _ | exact zk_He_clean | exact zk_R _ | exact zk_GI _ _ | exact zk_AI _ _ _ _ | intro _)
theorem zk_Ta_makeRoom_j37 (l1 : Int32) (l2 : Int32) : Zk 111 true (M_Ta_makeRoom_j37 l1 l2) := by
  unfold M_Ta_makeRoom_j37
  repeat' with_reducible (first | apply zk_B | apply zk_C | exact zk_Ta_makeRoom_j62 _ _ _ | exact zk_GI _ _ | intro _)
theorem zk_Ta_makeRoom (l1 : Int32) : Zk 111 true (M_Ta_makeRoom l1) := by
  unfold M_Ta_makeRoom
  repeat' with_reducible (first | apply zk_B | apply zk_C | exact zk_Ta_dropDead _ | exact zk_Ta_makeRoom_j37 _ _ | exact zk_R _ | exact zk_GI _ _ | exact zk_Pz _ _ _ | intro _)
theorem zk_Ma_enterClosure_j54 (l1 : Int32) (l2 : Int32) (l3 : Int32) (k0 : Int32) : Zk 111 true (M_Ma_enterClosure_j54 l1 l2 l3 k0) := by
  unfold M_Ma_enterClosure_j54
  repeat' with_reducible (first | apply zk_B | apply zk_C | exact zk_Co_push _ _ _ _ | exact zk_Ma_fail _ | exact zk_Co_top _ | exact zk_Mth_min _ _ | exact zk_Arr_fill_ _ _ _ _ _ (by omega) | exact zk_Arr_fill__ _ _ _ _ _ (by omega) | exact zk_Ro_clear _ _ (by omega) | exact zk_R _ | exact zk_GI _ _ | exact zk_Pr _ _ | exact zk_CI (by omega) | exact zk_CL (by omega) | exact zk_PI (by omega) | intro _)
theorem zk_Ma_enterClosure (l1 : Int32) : Zk 111 true (M_Ma_enterClosure l1) := by
  unfold M_Ma_enterClosure
  repeat' with_reducible (first | apply zk_B | apply zk_C | exact zk_Mth_max _ _ | exact zk_Ma_enterClosure_j54 _ _ _ _ | exact zk_GI _ _ | exact zk_Pr _ _ | exact zk_Pz _ _ _ | intro _)
theorem zk_St_move_j179 (k0 : Int32) (k1 : Int32) (k2 : Int32) : Zk 111 true (M_St_move_j179 k0 k1 k2) := by
  unfold M_St_move_j179
  repeat' with_reducible (first | apply zk_B | exact zk_R _ | exact zk_PI (by omega) | intro _)
theorem zk_St_move_j155 (k0 : Int32) (k1 : Int32) : Zk 111 true (M_St_move_j155 k0 k1) := by
  unfold M_St_move_j155
  repeat' with_reducible (first | apply zk_B | apply zk_C | exact zk_St_set _ _ _ | exact zk_St_move_j179 _ _ _ | exact zk_GI _ _ | exact zk_Pr _ _ | intro _)
theorem zk_St_move_L191 (x) : Zk 111 true (M_St_move_L191 x) := by
  unfold M_St_move_L191
  repeat' with_reducible (first | apply zk_B | apply zk_C | exact zk_St_set _ _ _ | exact zk_R _ | exact zk_GI _ _ | intro _)
theorem zk_St_move  : Zk 111 true (M_St_move) := by
  unfold M_St_move
  repeat' with_reducible (first | apply zk_B | apply zk_C | exact zk_St_kindOf _ | exact zk_St_valueOf _ | exact zk_St_set _ _ _ | exact zk_St_move_j155 _ _ | exact zk_St_move_L191 _ | exact zk_St_upvalue _ | exact zk_He_variableKind _ | exact zk_He_variableValue _ | exact zk_St_read _ _ _ _ | exact zk_He_setVariable _ _ _ | exact zk_R _ | exact zk_GI _ _ | exact zk_AI _ _ _ _ | exact zk_AL _ _ _ _ | exact zk_Pr _ _ | apply zk_W | intro _)
theorem zk_St_reckon_j50 (k0 : Int32) : Zk 111 true (M_St_reckon_j50 k0) := by
  unfold M_St_reckon_j50
  repeat' with_reducible (first | apply zk_B | apply zk_C | exact zk_St_kindOf _ | exact zk_St_valueOf _ | exact zk_St_callsEither _ _ _ _ _ | exact zk_Ma_fail _ | exact zk_R _ | exact zk_GI _ _ | intro _)
theorem zk_St_reckon_j24  : Zk 111 true (M_St_reckon_j24) := by
  unfold M_St_reckon_j24
  repeat' with_reducible (first | apply zk_B | apply zk_C | exact zk_St_reckon_j50 _ | exact zk_GI _ _ | intro _)
theorem zk_St_reckon_j153 (l1 : Int64) (l3 : Int64) : Zk 111 true (M_St_reckon_j153 l1 l3) := by
  unfold M_St_reckon_j153
  repeat' with_reducible (first | apply zk_B | exact zk_St_reckoned _ _ | exact zk_St_set _ _ _ | exact zk_R _ | exact zk_GI _ _ | intro _)
theorem zk_St_reckon_j142  : Zk 111 true (M_St_reckon_j142) := by
  unfold M_St_reckon_j142
  repeat' with_reducible (first | apply zk_B | exact zk_Ma_fail _ | exact zk_R _ | intro _)
theorem zk_St_reckon  : Zk 111 true (M_St_reckon) := by
  unfold M_St_reckon
  repeat' with_reducible (first | apply zk_B | apply zk_C | exact zk_St_kindOf _ | exact zk_St_valueOf _ | exact zk_St_reckon_j142 | exact zk_St_reckon_j153 _ _ | exact zk_St_reckon_j24 | exact zk_GI _ _ | intro _)
theorem zk_St_measure  : Zk 111 true (M_St_measure) := by
  unfold M_St_measure
  repeat' with_reducible (first | apply zk_B | apply zk_C | exact zk_St_kindOf _ | exact zk_St_valueOf _ | exact zk_Ta_findEvent _ _ _ | exact zk_St_set _ _ _ | exact zk_Ma_callEntry _ _ _ _ _ | exact zk_Ta_border _ | exact zk_Ma_fail _ | exact zk_R _ | exact zk_GI _ _ | exact zk_K _ | exact zk_Pz _ _ _ | exact zk_Ln _ _ | exact zk_PI (by omega) | intro _)
theorem zk_St_branch_j73  : Zk 111 true (M_St_branch_j73) := by
  unfold M_St_branch_j73
  repeat' with_reducible (first | apply zk_B | exact zk_St_jump | exact zk_R _ | intro _)
theorem zk_St_branch_j123 (k0 : Int32) (k1 : Int32) (k2 : Int32) : Zk 111 true (M_St_branch_j123 k0 k1 k2) := by
  unfold M_St_branch_j123
  repeat' with_reducible (first | apply zk_B | exact zk_R _ | exact zk_PI (by omega) | intro _)
theorem zk_St_branch_j115 (k0 : Int32) (k1 : Int32) (k2 : Int32) (k3 : Int32) : Zk 111 true (M_St_branch_j115 k0 k1 k2 k3) := by
  unfold M_St_branch_j115
  repeat' with_reducible (first | apply zk_C | exact zk_St_branch_j123 _ _ _ | intro _)
theorem zk_St_branch_j151 (k0 : Int32) (k1 : Int32) : Zk 111 true (M_St_branch_j151 k0 k1) := by
  unfold M_St_branch_j151
  repeat' with_reducible (first | apply zk_B | apply zk_C | exact zk_St_kindOf _ | exact zk_St_valueOf _ | exact zk_St_set _ _ _ | exact zk_R _ | exact zk_GI _ _ | exact zk_Pr _ _ | exact zk_PI (by omega) | intro _)
theorem zk_St_branch  : Zk 111 true (M_St_branch) := by
  unfold M_St_branch
  repeat' with_reducible (first | apply zk_B | apply zk_C | exact zk_St_branch_j73 | exact zk_He_closeFrom _ _ | exact zk_St_equal | exact zk_St_isTrue _ | exact zk_St_branch_j115 _ _ _ _ | exact zk_St_branch_j151 _ _ | exact zk_St_order | exact zk_R _ | exact zk_GI _ _ | exact zk_Pr _ _ | intro _)
theorem zk_St_callOrReturn_j82 (k0 : Int32) (k1 : Int32) : Zk 111 true (M_St_callOrReturn_j82 k0 k1) := by
  unfold M_St_callOrReturn_j82
  repeat' with_reducible (first | apply zk_B | apply zk_C | exact zk_St_gather _ _ _ _ (by omega) | exact zk_St_kindOf _ | exact zk_St_valueOf _ | exact zk_Ma_leave | exact zk_R _ | exact zk_GI _ _ | exact zk_PL (by omega) | exact zk_PI (by omega) | intro _)
theorem zk_St_callOrReturn  : Zk 111 true (M_St_callOrReturn) := by
  unfold M_St_callOrReturn
  repeat' with_reducible (first | apply zk_B | apply zk_C | exact zk_St_gather _ _ _ _ (by omega) | exact zk_Ma_leave | exact zk_St_callOrReturn_j82 _ _ | exact zk_R _ | exact zk_GI _ _ | exact zk_PI (by omega) | intro _)
theorem zk_St_loop_j75 (l3 : Int64) : Zk 111 true (M_St_loop_j75 l3) := by
  unfold M_St_loop_j75
  repeat' with_reducible (first | apply zk_B | exact zk_St_jump | exact zk_St_set _ _ _ | exact zk_R _ | exact zk_GI _ _ | intro _)
theorem zk_St_loop  : Zk 111 true (M_St_loop) := by
  unfold M_St_loop
  repeat' with_reducible (first | apply zk_B | apply zk_C | exact zk_St_hasLoopNumbers | exact zk_St_valueOf _ | exact zk_St_set _ _ _ | exact zk_St_loop_j75 _ | exact zk_R _ | exact zk_GI _ _ | apply zk_L | intro _)
theorem zk_Ma_callWrapper (l1 : Int32) : Zk 111 true (M_Ma_callWrapper l1) := by
  unfold M_Ma_callWrapper
  repeat' with_reducible (first | apply zk_B | apply zk_C | exact zk_Ma_coroutineOf _ | exact zk_Co_push _ _ _ _ | exact zk_Ma_fail _ | exact zk_Ma_goOnWith _ | exact zk_R _ | exact zk_GI _ _ | exact zk_Pr _ _ | exact zk_Pz _ _ _ | intro _)
theorem zk_Bu_setMetatable_j112 (l1 : Int32) (k0 : Int32) (k1 : Int32) : Zk 111 true (M_Bu_setMetatable_j112 l1 k0 k1) := by
  unfold M_Bu_setMetatable_j112
  repeat' with_reducible (first | apply zk_B | exact zk_Ro_add _ _ _ _ (by omega) | exact zk_R _ | exact zk_PI (by omega) | intro _)
theorem zk_Bu_setMetatable_j52 (l1 : Int32) : Zk 111 true (M_Bu_setMetatable_j52 l1) := by
  unfold M_Bu_setMetatable_j52
  repeat' with_reducible (first | apply zk_B | apply zk_C | exact zk_Ta_findEvent _ _ _ | exact zk_Ro_kindAt _ _ _ | exact zk_Bu_setMetatable_j112 _ _ _ | exact zk_Ro_valueAt _ _ _ | exact zk_Ma_fail _ | exact zk_R _ | exact zk_Pz _ _ _ | intro _)
theorem zk_Bu_setMetatable  : Zk 111 true (M_Bu_setMetatable) := by
  unfold M_Bu_setMetatable
  repeat' with_reducible (first | apply zk_B | apply zk_C | exact zk_Bu_hasTable | exact zk_Ro_valueAt _ _ _ | exact zk_Ro_kindAt _ _ _ | exact zk_Bu_setMetatable_j52 _ | exact zk_Ma_fail _ | exact zk_R _ | intro _)
theorem zk_Bu_resume  : Zk 111 true (M_Bu_resume) := by
  unfold M_Bu_resume
  repeat' with_reducible (first | apply zk_B | apply zk_C | exact zk_Bu_hasCoroutine | exact zk_Ro_valueAt _ _ _ | exact zk_Ma_coroutineOf _ | exact zk_Co_push _ _ _ _ | exact zk_Ma_fail _ | exact zk_Ro_dropFirst _ _ _ (by omega) | exact zk_Ma_goOnWith _ | exact zk_Ro_add _ _ _ _ (by omega) | exact zk_R _ | exact zk_GI _ _ | exact zk_Pr _ _ | intro _)
theorem zk_Ma_handOver (l1 : Int32) : Zk 111 true (M_Ma_handOver l1) := by
  unfold M_Ma_handOver
  repeat' with_reducible (first | apply zk_B | apply zk_C | exact zk_Ma_backToResumer _ | exact zk_Ma_giveWithTrue | exact zk_R _ | exact zk_PI (by omega) | intro _)
theorem zk_Bu_cleanUp  : Zk 111 true (M_Bu_cleanUp) := by
  unfold M_Bu_cleanUp
  repeat' with_reducible (first | apply zk_B | exact zk_Ro_clear _ _ (by omega) | exact zk_He_clean | exact zk_Ro_add _ _ _ _ (by omega) | exact zk_R _ | exact zk_AI _ _ _ _ | intro _)
theorem zk_Ma_endWithResults  : Zk 111 true (M_Ma_endWithResults) := by
  unfold M_Ma_endWithResults
  repeat' with_reducible (first | apply zk_B | apply zk_C | exact zk_Ma_handOver _ | exact zk_Ro_takeAll _ _ _ _ (by omega) (by omega) | exact zk_R _ | exact zk_GI _ _ | exact zk_Pr _ _ | exact zk_PI (by omega) | intro _)
theorem zk_Ma_unwind_L36 (x) : Zk 111 true (M_Ma_unwind_L36 x) := by
  unfold M_Ma_unwind_L36
  repeat' with_reducible (first | apply zk_B | apply zk_C | exact zk_R _ | exact zk_GI _ _ | exact zk_K _ | intro _)
theorem zk_Ma_unwind_j61 (l1 : Int32) (l2 : Int32) : Zk 111 true (M_Ma_unwind_j61 l1 l2) := by
  unfold M_Ma_unwind_j61
  repeat' with_reducible (first | apply zk_B | apply zk_C | exact zk_Ma_empty _ | exact zk_Ma_backToResumer _ | exact zk_Ma_giveError | exact zk_Ma_endWithError | exact zk_He_closeFrom _ _ | exact zk_Co_pop _ | exact zk_R _ | exact zk_GI _ _ | exact zk_K _ | exact zk_PI (by omega) | intro _)
theorem zk_Ma_unwind  : Zk 111 true (M_Ma_unwind) := by
  unfold M_Ma_unwind
  repeat' with_reducible (first | apply zk_B | apply zk_C | exact zk_Ro_clear _ _ (by omega) | exact zk_Ma_unwind_L36 _ | exact zk_Ma_unwind_j61 _ _ | exact zk_Ma_endAll | exact zk_R _ | exact zk_GI _ _ | exact zk_Pr _ _ | apply zk_W | intro _)
theorem zk_LM_collect  : Zk 111 true (M_LM_collect) := by
  unfold M_LM_collect
  repeat' with_reducible (first | apply zk_B | apply zk_C | exact zk_He_clean | exact zk_R _ | exact zk_GI _ _ | exact zk_AI _ _ _ _ | exact zk_F | intro _)
theorem zk_Ch_readAll_j124 (l2 : Int32) (l3 : Int32) (ln : Nat × Nat) : Zk 100 true (M_Ch_readAll_j124 l2 l3 ln) := by
  unfold M_Ch_readAll_j124
  repeat' with_reducible (first | apply zk_B | exact zk_R _ | exact zk_GI _ _ | exact zk_SI (by omega) | exact zk_Pz _ _ _ | intro _)
theorem zk_Ch_readAll_j100 (l2 : Int32) (l3 : Int32) (ln : Nat × Nat) (k0 : Int32) (k1 : Int32) : Zk 100 true (M_Ch_readAll_j100 l2 l3 ln k0 k1) := by
  unfold M_Ch_readAll_j100
  repeat' with_reducible (first | apply zk_B | apply zk_C | exact zk_Ch_readPrototype _ _ _ | exact zk_Ch_readAll_j124 _ _ _ | exact zk_R _ | exact zk_AI _ _ _ _ | exact zk_SI (by omega) | intro _)
theorem zk_Ch_readAll_j59 (l2 : Int32) (l3 : Int32) (ln : Nat × Nat) : Zk 100 true (M_Ch_readAll_j59 l2 l3 ln) := by
  unfold M_Ch_readAll_j59
  repeat' with_reducible (first | apply zk_B | apply zk_C | exact zk_Ch_readAll_j100 _ _ _ _ _ | exact zk_R _ | exact zk_AI _ _ _ _ | intro _)
theorem zk_Ch_readAll_L9 (x) : Zk 100 true (M_Ch_readAll_L9 x) := by
  unfold M_Ch_readAll_L9
  repeat' with_reducible (first | apply zk_B | apply zk_C | exact (zk_Ch_withoutFullOnes _).wz | exact zk_Ch_readAll_j59 _ _ _ | exact zk_R _ | intro _)
theorem zk_Ch_readAll_j53 (ln : Nat × Nat) : Zk 111 true (M_Ch_readAll_j53 ln) := by
  unfold M_Ch_readAll_j53
  repeat' with_reducible (first | exact zk_R _ | intro _)
theorem zk_Ch_readAll_j72 (ln : Nat × Nat) : Zk 100 true (M_Ch_readAll_j72 ln) := by
  unfold M_Ch_readAll_j72
  repeat' with_reducible (first | apply zk_B | exact zk_Ch_refuse _ _ | exact zk_R _ | exact zk_GI _ _ | exact zk_K _ | intro _)
theorem zk_Ch_readAll (n0 : Nat × Nat) (l1 : Int32) : Zk 100 true (M_Ch_readAll n0 l1) := by
  unfold M_Ch_readAll
  repeat' with_reducible (first | apply zk_B | apply zk_C | exact zk_Ch_begin _ | exact zk_Ch_readAll_L9 _ | exact (zk_Ch_readAll_j53 _).wz | exact zk_Ch_refuse _ _ | exact zk_Ch_readAll_j72 _ | exact zk_R _ | exact zk_GI _ _ | apply zk_W | apply zk_E | intro _)
theorem zk_Ch_isWellFormed_j53  : Zk 111 true (M_Ch_isWellFormed_j53) := by
  unfold M_Ch_isWellFormed_j53
  repeat' with_reducible (first | exact zk_R _ | intro _)
theorem zk_Ch_isWellFormed (l1 : Int32) (l2 : Int32) : Zk 111 true (M_Ch_isWellFormed l1 l2) := by
  unfold M_Ch_isWellFormed
  repeat' with_reducible (first | apply zk_B | apply zk_C | exact zk_Ch_isWellFormed_j53 | exact zk_Ch_namesWhatIsThere _ _ | exact zk_Ch_goesWhereItMay _ _ _ | exact zk_Ch_keepsOpenRows _ _ _ | exact zk_R _ | exact zk_GI _ _ | exact zk_AI _ _ _ _ | intro _)
theorem zk_He_make_j40 (ln : Nat × Nat) : Zk 111 true (M_He_make_j40 ln) := by
  unfold M_He_make_j40
  repeat' with_reducible (first | exact zk_R _ | intro _)
theorem zk_He_make_j62 (l1 : Int32) (l2 : Int32) (l3 : Int32) (ln : Nat × Nat) : Zk 111 true (M_He_make_j62 l1 l2 l3 ln) := by
  unfold M_He_make_j62
  repeat' with_reducible (first | apply zk_B | apply zk_C | exact zk_He_isFull _ | exact zk_He_takeSlot _ | exact zk_R _ | exact zk_AI _ _ _ _ | exact zk_SI (by omega) | exact zk_Pz _ _ _ | exact zk_PI (by omega) | intro _)
theorem zk_He_make (n0 : Nat × Nat) (l1 : Int32) (l2 : Int32) (l3 : Int32) : Zk 111 true (M_He_make n0 l1 l2 l3) := by
  unfold M_He_make
  repeat' with_reducible (first | apply zk_B | apply zk_C | exact zk_He_make_j40 _ | exact zk_He_isFull _ | exact zk_He_make_j62 _ _ _ _ | exact zk_He_clean | exact zk_GI _ _ | exact zk_AI _ _ _ _ | intro _)
theorem zk_He_makeClosedVariable (n0 : Nat × Nat) (l1 : Int32) (l2 : Int64) : Zk 111 true (M_He_makeClosedVariable n0 l1 l2) := by
  unfold M_He_makeClosedVariable
  repeat' with_reducible (first | apply zk_B | apply zk_C | exact zk_He_make _ _ _ _ | exact zk_R _ | exact zk_PL (by omega) | exact zk_Pz _ _ _ | exact zk_PI (by omega) | intro _)
theorem zk_Ta_write_j118 (l2 : Int32) (l3 : Int64) (l5 : Int32) (l6 : Int64) (l8 : Int32) (k0 : Int32) : Zk 111 true (M_Ta_write_j118 l2 l3 l5 l6 l8 k0) := by
  unfold M_Ta_write_j118
  repeat' with_reducible (first | apply zk_B | apply zk_C | exact zk_Ta_append _ _ _ _ _ | exact zk_R _ | intro _)
theorem zk_Ta_write (l1 : Int32) (l2 : Int32) (l3 : Int64) (l5 : Int32) (l6 : Int64) : Zk 111 true (M_Ta_write l1 l2 l3 l5 l6) := by
  unfold M_Ta_write
  repeat' with_reducible (first | apply zk_B | apply zk_C | exact zk_Ta_find _ _ _ | exact zk_Ta_makeRoom _ | exact zk_Ta_write_j118 _ _ _ _ _ _ | exact zk_R _ | exact zk_GI _ _ | exact zk_SI (by omega) | exact zk_SL (by omega) | exact zk_Pz _ _ _ | exact zk_PI (by omega) | intro _)
theorem zk_He_makeClosure_j45 (l2 : Int32) (l3 : Int32) (l4 : Int32) (ln : Nat × Nat) : Zk 111 true (M_He_makeClosure_j45 l2 l3 l4 ln) := by
  unfold M_He_makeClosure_j45
  repeat' with_reducible (first | apply zk_B | exact zk_R _ | exact zk_K _ | exact zk_Nw _ _ | exact zk_S (zr_nwR (by omega)) | intro _)
theorem zk_He_makeClosure (n0 : Nat × Nat) (l1 : Int32) (l2 : Int32) : Zk 111 true (M_He_makeClosure n0 l1 l2) := by
  unfold M_He_makeClosure
  repeat' with_reducible (first | apply zk_B | apply zk_C | exact zk_He_make _ _ _ _ | exact zk_He_makeClosure_j45 _ _ _ _ | exact zk_R _ | exact zk_GI _ _ | exact zk_K _ | exact zk_Pz _ _ _ | exact zk_Ln _ _ | exact zk_PI (by omega) | intro _)
theorem zk_He_makeCoroutine_L18 (x) : Zk 111 true (M_He_makeCoroutine_L18 x) := by
  unfold M_He_makeCoroutine_L18
  repeat' with_reducible (first | apply zk_B | apply zk_C | exact zk_R _ | exact zk_GI _ _ | exact zk_Pz _ _ _ | exact zk_Nz _ _ _ | intro _)
theorem zk_He_makeCoroutine_j80 (l1 : Int64) (l3 : Int32) (l4 : Int32) (ln : Nat × Nat) : Zk 111 true (M_He_makeCoroutine_j80 l1 l3 l4 ln) := by
  unfold M_He_makeCoroutine_j80
  repeat' with_reducible (first | apply zk_B | exact zk_Co_restart _ _ _ | exact zk_R _ | exact zk_AI _ _ _ _ | exact zk_SI (by omega) | exact zk_Pz _ _ _ | exact zk_PI (by omega) | intro _)
theorem zk_He_makeCoroutine_j54 (l1 : Int64) (l3 : Int32) (l4 : Int32) (ln : Nat × Nat) : Zk 111 true (M_He_makeCoroutine_j54 l1 l3 l4 ln) := by
  unfold M_He_makeCoroutine_j54
  repeat' with_reducible (first | apply zk_B | apply zk_C | exact zk_Co_init _ _ _ | exact zk_He_makeCoroutine_j80 _ _ _ _ | exact zk_K _ | exact zk_Ks _ | exact zk_Nz _ _ _ | exact zk_Nw _ _ | exact zk_S (zr_nwO (by omega)) | exact zk_S (zr_coS (by omega)) | intro _)
theorem zk_He_makeCoroutine (n0 : Nat × Nat) (l1 : Int64) : Zk 111 true (M_He_makeCoroutine n0 l1) := by
  unfold M_He_makeCoroutine
  repeat' with_reducible (first | apply zk_B | apply zk_C | exact zk_He_make _ _ _ _ | exact zk_He_makeCoroutine_L18 _ | exact zk_He_makeCoroutine_j54 _ _ _ _ | exact zk_R _ | apply zk_W | intro _)
theorem zk_St_write_j93 (l4 : Int32) (l5 : Int64) (l7 : Int32) (k0 : Int32) : Zk 111 true (M_St_write_j93 l4 l5 l7 k0) := by
  unfold M_St_write_j93
  repeat' with_reducible (first | apply zk_B | apply zk_C | exact zk_R _ | exact zk_AI _ _ _ _ | exact zk_AL _ _ _ _ | intro _)
theorem zk_St_write_j81 (l4 : Int32) (l5 : Int64) (l7 : Int32) : Zk 111 true (M_St_write_j81 l4 l5 l7) := by
  unfold M_St_write_j81
  repeat' with_reducible (first | apply zk_B | exact zk_Ta_findEvent _ _ _ | exact zk_St_write_j93 _ _ _ _ | intro _)
theorem zk_St_write_L9 (x) : Zk 111 true (M_St_write_L9 x) := by
  unfold M_St_write_L9
  repeat' with_reducible (first | apply zk_B | apply zk_C | exact zk_St_kindOf _ | exact zk_St_valueOf _ | exact zk_Ta_find _ _ _ | exact zk_St_write_j81 _ _ _ | exact zk_St_write_j93 _ _ _ _ | exact zk_R _ | exact zk_GI _ _ | exact zk_AI _ _ _ _ | intro _)
theorem zk_St_write (l1 : Int32) (l2 : Int64) : Zk 111 true (M_St_write l1 l2) := by
  unfold M_St_write
  repeat' with_reducible (first | apply zk_B | apply zk_C | exact zk_St_write_L9 _ | exact zk_Ma_fail _ | exact zk_St_kindOf _ | exact zk_St_valueOf _ | exact zk_Ta_write _ _ _ _ _ | exact zk_Ma_callEntry _ _ _ _ _ | exact zk_Ro_add _ _ _ _ (by omega) | exact zk_R _ | exact zk_GI _ _ | apply zk_W | apply zk_E | intro _)
theorem zk_St_setList_L83 (x) : Zk 111 true (M_St_setList_L83 x) := by
  unfold M_St_setList_L83
  repeat' with_reducible (first | apply zk_B | apply zk_C | exact zk_St_kindOf _ | exact zk_St_valueOf _ | exact zk_Ta_write _ _ _ _ _ | exact zk_R _ | exact zk_GI _ _ | intro _)
theorem zk_St_setList_L147 (x) : Zk 111 true (M_St_setList_L147 x) := by
  unfold M_St_setList_L147
  repeat' with_reducible (first | apply zk_B | apply zk_C | exact zk_Ta_write _ _ _ _ _ | exact zk_R _ | exact zk_GI _ _ | exact zk_AI _ _ _ _ | exact zk_AL _ _ _ _ | intro _)
theorem zk_St_setList_j210 (l3 : Int32) : Zk 111 true (M_St_setList_j210 l3) := by
  unfold M_St_setList_j210
  repeat' with_reducible (first | apply zk_B | apply zk_C | exact zk_Ro_clear _ _ (by omega) | exact zk_Ma_fail _ | exact zk_R _ | intro _)
theorem zk_St_setList_j144 (l1 : Int32) (l2 : Int32) (l3 : Int32) (l4 : Int32) : Zk 111 true (M_St_setList_j144 l1 l2 l3 l4) := by
  unfold M_St_setList_j144
  repeat' with_reducible (first | apply zk_B | exact zk_St_setList_L147 _ | exact zk_St_setList_j210 _ | apply zk_W | intro _)
theorem zk_St_setList_j68 (l1 : Int32) (l2 : Int32) (k0 : Int32) : Zk 111 true (M_St_setList_j68 l1 l2 k0) := by
  unfold M_St_setList_j68
  repeat' with_reducible (first | apply zk_B | exact zk_St_valueOf _ | exact zk_St_setList_L83 _ | exact zk_St_setList_j144 _ _ _ _ | exact zk_GI _ _ | apply zk_W | intro _)
theorem zk_St_setList_j50 (l1 : Int32) (k0 : Int32) : Zk 111 true (M_St_setList_j50 l1 k0) := by
  unfold M_St_setList_j50
  repeat' with_reducible (first | apply zk_B | apply zk_C | exact zk_St_kindOf _ | exact zk_St_setList_j68 _ _ _ | exact zk_GI _ _ | intro _)
theorem zk_St_setList_j28 (k0 : Int32) : Zk 111 true (M_St_setList_j28 k0) := by
  unfold M_St_setList_j28
  repeat' with_reducible (first | apply zk_B | apply zk_C | exact zk_St_setList_j50 _ _ | exact zk_GI _ _ | intro _)
theorem zk_St_setList  : Zk 111 true (M_St_setList) := by
  unfold M_St_setList
  repeat' with_reducible (first | apply zk_B | apply zk_C | exact zk_St_setList_j28 _ | exact zk_GI _ _ | intro _)
theorem zk_He_openVariable_L11 (x) : Zk 111 true (M_He_openVariable_L11 x) := by
  unfold M_He_openVariable_L11
  repeat' with_reducible (first | apply zk_B | apply zk_C | exact zk_R _ | exact zk_GI _ _ | exact zk_Pz _ _ _ | intro _)
theorem zk_He_openVariable_j81 (l1 : Int32) (l2 : Int32) (l3 : Int32) (l4 : Int32) (ln : Nat × Nat) : Zk 111 true (M_He_openVariable_j81 l1 l2 l3 l4 ln) := by
  unfold M_He_openVariable_j81
  repeat' with_reducible (first | apply zk_B | apply zk_C | exact zk_He_make _ _ _ _ | exact zk_R _ | exact zk_GI _ _ | exact zk_Pz _ _ _ | exact zk_PI (by omega) | intro _)
theorem zk_He_openVariable_j59 (l1 : Int32) (l2 : Int32) (l3 : Int32) (l4 : Int32) (ln : Nat × Nat) : Zk 111 true (M_He_openVariable_j59 l1 l2 l3 l4 ln) := by
  unfold M_He_openVariable_j59
  repeat' with_reducible (first | apply zk_B | apply zk_C | exact zk_He_openVariable_j81 _ _ _ _ _ | exact zk_R _ | exact zk_GI _ _ | exact zk_Pz _ _ _ | intro _)
theorem zk_He_openVariable (n0 : Nat × Nat) (l1 : Int32) (l2 : Int32) : Zk 111 true (M_He_openVariable n0 l1 l2) := by
  unfold M_He_openVariable
  repeat' with_reducible (first | apply zk_B | exact zk_He_openVariable_L11 _ | exact zk_He_openVariable_j59 _ _ _ _ _ | exact zk_GI _ _ | apply zk_W | intro _)
theorem zk_St_reckonOne_j53 (k0 : Int32) (k1 : Int32) : Zk 111 true (M_St_reckonOne_j53 k0 k1) := by
  unfold M_St_reckonOne_j53
  repeat' with_reducible (first | apply zk_B | exact zk_St_set _ _ _ | exact zk_R _ | intro _)
theorem zk_St_reckonOne_j173 (k0 : Int64) (k1 : Int32) (k2 : Int32) : Zk 111 true (M_St_reckonOne_j173 k0 k1 k2) := by
  unfold M_St_reckonOne_j173
  repeat' with_reducible (first | apply zk_B | exact zk_St_set _ _ _ | exact zk_R _ | intro _)
theorem zk_St_reckonOne  : Zk 111 true (M_St_reckonOne) := by
  unfold M_St_reckonOne
  repeat' with_reducible (first | apply zk_B | apply zk_C | exact zk_St_isTrue _ | exact zk_St_reckonOne_j53 _ _ | exact zk_St_measure | exact zk_St_kindOf _ | exact zk_St_valueOf _ | exact zk_St_reckonOne_j173 _ _ _ | exact zk_St_callsEither _ _ _ _ _ | exact zk_Ma_fail _ | exact zk_R _ | exact zk_GI _ _ | exact zk_PL (by omega) | exact zk_Pr _ _ | exact zk_PI (by omega) | intro _)
theorem zk_St_loopOrTake  : Zk 111 true (M_St_loopOrTake) := by
  unfold M_St_loopOrTake
  repeat' with_reducible (first | apply zk_B | apply zk_C | exact zk_St_loop | exact zk_St_hasLoopNumbers | exact zk_St_valueOf _ | exact zk_St_set _ _ _ | exact zk_St_jump | exact zk_St_kindOf _ | exact zk_St_takeFurther | exact zk_R _ | exact zk_GI _ _ | intro _)
theorem zk_Ma_enter_L2 (x) : Zk 111 true (M_Ma_enter_L2 x) := by
  unfold M_Ma_enter_L2
  repeat' with_reducible (first | apply zk_B | apply zk_C | exact zk_Ta_findEvent _ _ _ | exact zk_Ro_addFirst _ _ _ _ (by omega) | exact zk_R _ | exact zk_GI _ _ | exact zk_GL _ _ | exact zk_PL (by omega) | exact zk_AI _ _ _ _ | exact zk_AL _ _ _ _ | exact zk_PI (by omega) | intro _)
theorem zk_Ma_enter_j103  : Zk 111 true (M_Ma_enter_j103) := by
  unfold M_Ma_enter_j103
  repeat' with_reducible (first | apply zk_B | apply zk_C | exact zk_Ma_callWrapper _ | exact zk_Ma_enterClosure _ | exact zk_Ma_fail _ | exact zk_R _ | exact zk_GI _ _ | exact zk_GL _ _ | exact zk_Pz _ _ _ | exact zk_PI (by omega) | intro _)
theorem zk_Ma_enter  : Zk 111 true (M_Ma_enter) := by
  unfold M_Ma_enter
  repeat' with_reducible (first | apply zk_B | exact zk_Ma_enter_L2 _ | exact zk_Ma_fail _ | exact zk_Ma_enter_j103 | exact zk_R _ | apply zk_W | apply zk_E | intro _)
theorem zk_Bu_writeRaw  : Zk 111 true (M_Bu_writeRaw) := by
  unfold M_Bu_writeRaw
  repeat' with_reducible (first | apply zk_B | apply zk_C | exact zk_Bu_hasTable | exact zk_Ro_valueAt _ _ _ | exact zk_Ro_kindAt _ _ _ | exact zk_Ta_write _ _ _ _ _ | exact zk_Ro_add _ _ _ _ (by omega) | exact zk_Ma_fail _ | exact zk_R _ | intro _)
theorem zk_Bu_create (n0 : Nat × Nat) : Zk 111 true (M_Bu_create n0) := by
  unfold M_Bu_create
  repeat' with_reducible (first | apply zk_B | apply zk_C | exact zk_Bu_hasFunction | exact zk_Ro_valueAt _ _ _ | exact zk_He_makeCoroutine _ _ | exact zk_Bu_addMade _ _ | exact zk_R _ | intro _)
theorem zk_Bu_giveWay  : Zk 111 true (M_Bu_giveWay) := by
  unfold M_Bu_giveWay
  repeat' with_reducible (first | apply zk_B | apply zk_C | exact zk_Ro_takeAll _ _ _ _ (by omega) (by omega) | exact zk_Ma_handOver _ | exact zk_Ma_fail _ | exact zk_R _ | exact zk_GI _ _ | exact zk_Pr _ _ | intro _)
theorem zk_Bu_wrap_j78 (l2 : Int32) (ln : Nat × Nat) : Zk 111 true (M_Bu_wrap_j78 l2 ln) := by
  unfold M_Bu_wrap_j78
  repeat' with_reducible (first | apply zk_B | exact zk_Bu_addMade _ _ | exact zk_R _ | intro _)
theorem zk_Bu_wrap (n0 : Nat × Nat) : Zk 111 true (M_Bu_wrap n0) := by
  unfold M_Bu_wrap
  repeat' with_reducible (first | apply zk_B | apply zk_C | exact zk_Bu_hasFunction | exact zk_Ro_valueAt _ _ _ | exact zk_He_makeCoroutine _ _ | exact zk_Ro_addFirst _ _ _ _ (by omega) | exact zk_He_make _ _ _ _ | exact zk_Bu_wrap_j78 _ _ | exact zk_Ma_fail _ | exact zk_R _ | exact zk_Pz _ _ _ | exact zk_PI (by omega) | intro _)
theorem zk_Ma_give_  : Zk 111 true (M_Ma_give_) := by
  unfold M_Ma_give_
  repeat' with_reducible (first | apply zk_B | apply zk_C | exact zk_Ma_endWithResults | exact zk_Co_top _ | exact zk_Co_pop _ | exact zk_Ma_giveWithTrue | exact zk_Ro_kindAt _ _ _ | exact zk_Ro_valueAt _ _ _ | exact zk_Ma_give _ _ | exact zk_Ma_fail _ | exact zk_R _ | exact zk_GI _ _ | exact zk_Pr _ _ | exact zk_PI (by omega) | intro _)
theorem zk_Ch_checkAll_L23 (x) : Zk 111 true (M_Ch_checkAll_L23 x) := by
  unfold M_Ch_checkAll_L23
  repeat' with_reducible (first | apply zk_B | apply zk_C | exact zk_Ch_isWellFormed _ _ | exact zk_R _ | exact zk_GI _ _ | intro _)
theorem zk_Ch_checkAll_L6 (x) : Zk 111 true (M_Ch_checkAll_L6 x) := by
  unfold M_Ch_checkAll_L6
  repeat' with_reducible (first | apply zk_B | apply zk_C | exact zk_Ch_checkAll_L23 _ | exact zk_R _ | exact zk_GI _ _ | exact zk_Pz _ _ _ | apply zk_W | apply zk_E | intro _)
