/-! Made by wip/l2n/zgen2.py: programs that leave the frames alone. -/
theorem ko_Mth_max (l0 : Int32) (l1 : Int32) : Kok true true (M_Mth_max l0 l1) := by
  unfold M_Mth_max
  repeat' with_reducible (first | apply ko_C | exact ko_R _ | intro _)
theorem ko_Mth_min (l0 : Int32) (l1 : Int32) : Kok true true (M_Mth_min l0 l1) := by
  unfold M_Mth_min
  repeat' with_reducible (first | apply ko_C | exact ko_R _ | intro _)
theorem ko_Mth_floorMod (l0 : Int64) (l2 : Int64) : Kok true true (M_Mth_floorMod l0 l2) := by
  unfold M_Mth_floorMod
  repeat' with_reducible (first | apply ko_B | apply ko_C | exact ko_R _ | exact ko_K _ | apply ko_L | intro _)
theorem ko_Mth_floorDiv (l0 : Int64) (l2 : Int64) : Kok true true (M_Mth_floorDiv l0 l2) := by
  unfold M_Mth_floorDiv
  repeat' with_reducible (first | apply ko_B | apply ko_C | exact ko_R _ | exact ko_K _ | apply ko_L | intro _)
theorem ko_Mth_abs (l0 : Int64) : Kok true true (M_Mth_abs l0) := by
  unfold M_Mth_abs
  repeat' with_reducible (first | apply ko_C | exact ko_R _ | intro _)
theorem ko_Mth_min_ (l0 : Int64) (l2 : Int64) : Kok true true (M_Mth_min_ l0 l2) := by
  unfold M_Mth_min_
  repeat' with_reducible (first | apply ko_C | exact ko_R _ | intro _)
theorem ko_Mth_max_ (l0 : Int64) (l2 : Int64) : Kok true true (M_Mth_max_ l0 l2) := by
  unfold M_Mth_max_
  repeat' with_reducible (first | apply ko_C | exact ko_R _ | intro _)
theorem ko_LM_count (l1 : Int32) : Kok true true (M_LM_count l1) := by
  unfold M_LM_count
  repeat' with_reducible (first | apply ko_B | apply ko_C | exact ko_R _ | exact ko_GI _ _ | exact ko_AI _ _ _ _ | exact ko_Pr _ _ | intro _)
theorem ko_LM_putOnTape_L3 (x) : Kok true true (M_LM_putOnTape_L3 x) := by
  unfold M_LM_putOnTape_L3
  repeat' with_reducible (first | apply ko_B | apply ko_C | exact ko_R _ | exact ko_GI _ _ | exact ko_SI (by omega) | exact ko_PI (by omega) | intro _)
theorem ko_LM_putOnTape (l1 : Int32) : Kok true true (M_LM_putOnTape l1) := by
  unfold M_LM_putOnTape
  repeat' with_reducible (first | apply ko_B | exact ko_LM_putOnTape_L3 _ | exact ko_R _ | apply ko_W | intro _)
theorem ko_LM_end (l1 : Int32) : Kok true true (M_LM_end l1) := by
  unfold M_LM_end
  repeat' with_reducible (first | apply ko_B | apply ko_C | exact ko_R _ | exact ko_GI _ _ | exact ko_F | exact ko_PI (by omega) | intro _)
theorem ko_Ch_begin (l1 : Int32) : Kok true true (M_Ch_begin l1) := by
  unfold M_Ch_begin
  repeat' with_reducible (first | apply ko_B | exact ko_R _ | exact ko_PI (by omega) | intro _)
theorem ko_Ch_withoutFullOnes_L2 (x) : Kok true true (M_Ch_withoutFullOnes_L2 x) := by
  unfold M_Ch_withoutFullOnes_L2
  repeat' with_reducible (first | apply ko_B | apply ko_C | exact ko_R _ | exact ko_AI _ _ _ _ | intro _)
theorem ko_Ch_withoutFullOnes (l1 : Int32) : Kok true true (M_Ch_withoutFullOnes l1) := by
  unfold M_Ch_withoutFullOnes
  repeat' with_reducible (first | apply ko_B | exact ko_Ch_withoutFullOnes_L2 _ | exact ko_R _ | apply ko_W | intro _)
theorem ko_Ch_refuse (l1 : Int32) (l2 : Int32) : Kok true true (M_Ch_refuse l1 l2) := by
  unfold M_Ch_refuse
  repeat' with_reducible (first | apply ko_B | exact ko_R _ | exact ko_PI (by omega) | intro _)
theorem ko_Ch_readNumber_L29 (x) : Kok true true (M_Ch_readNumber_L29 x) := by
  unfold M_Ch_readNumber_L29
  repeat' with_reducible (first | apply ko_B | apply ko_C | exact ko_R _ | exact ko_GI _ _ | exact ko_AI _ _ _ _ | apply ko_L | intro _)
theorem ko_Ch_readNumber (l1 : Int32) : Kok true true (M_Ch_readNumber l1) := by
  unfold M_Ch_readNumber
  repeat' with_reducible (first | apply ko_B | apply ko_C | exact ko_Ch_readNumber_L29 _ | exact ko_Ch_refuse _ _ | exact ko_R _ | exact ko_GI _ _ | apply ko_W | exact ko_PI (by omega) | intro _)
theorem ko_Ch_mostOf (l0 : Int32) (l1 : Int32) : Kok true true (M_Ch_mostOf l0 l1) := by
  unfold M_Ch_mostOf
  repeat' with_reducible (first | apply ko_B | apply ko_C | exact ko_R _ | exact ko_GI _ _ | intro _)
theorem ko_Ch_readConstant_j124 (l1 : Int32) (l2 : Int64) : Kok true true (M_Ch_readConstant_j124 l1 l2) := by
  unfold M_Ch_readConstant_j124
  repeat' with_reducible (first | apply ko_B | exact ko_R _ | exact ko_GI _ _ | exact ko_SI (by omega) | exact ko_SL | exact ko_PI (by omega) | intro _)
theorem ko_Ch_readConstant (l1 : Int32) : Kok true true (M_Ch_readConstant l1) := by
  unfold M_Ch_readConstant
  repeat' with_reducible (first | apply ko_B | apply ko_C | exact ko_Ch_readNumber _ | exact ko_Ch_readConstant_j124 _ _ | exact ko_Ch_refuse _ _ | exact ko_R _ | exact ko_GI _ _ | exact ko_K _ | apply ko_L | exact ko_PI (by omega) | intro _)
theorem ko_Ch_isThere_j92  : Kok true true (M_Ch_isThere_j92) := by
  unfold M_Ch_isThere_j92
  repeat' with_reducible (first | exact ko_R _ | intro _)
theorem ko_Ch_isThere_j86 (l0 : Int32) : Kok true true (M_Ch_isThere_j86 l0) := by
  unfold M_Ch_isThere_j86
  repeat' with_reducible (first | apply ko_C | exact ko_Ch_isThere_j92 | exact ko_R _ | intro _)
theorem ko_Ch_isThere_j75 (l0 : Int32) (l1 : Int32) : Kok true true (M_Ch_isThere_j75 l0 l1) := by
  unfold M_Ch_isThere_j75
  repeat' with_reducible (first | apply ko_C | exact ko_Ch_isThere_j92 | exact ko_Ch_isThere_j86 _ | intro _)
theorem ko_Ch_isThere_j61 (l0 : Int32) (l1 : Int32) (l2 : Int32) : Kok true true (M_Ch_isThere_j61 l0 l1 l2) := by
  unfold M_Ch_isThere_j61
  repeat' with_reducible (first | apply ko_B | apply ko_C | exact ko_Ch_isThere_j92 | exact ko_Ch_isThere_j75 _ _ | exact ko_GI _ _ | intro _)
theorem ko_Ch_isThere (l0 : Int32) (l1 : Int32) (l2 : Int32) : Kok true true (M_Ch_isThere l0 l1 l2) := by
  unfold M_Ch_isThere
  repeat' with_reducible (first | apply ko_B | apply ko_C | exact ko_Ch_isThere_j92 | exact ko_Ch_isThere_j61 _ _ _ | exact ko_R _ | exact ko_GI _ _ | intro _)
theorem ko_Ch_lastOfRow (l0 : Int32) (l1 : Int32) (l2 : Int32) (l3 : Int32) : Kok true true (M_Ch_lastOfRow l0 l1 l2 l3) := by
  unfold M_Ch_lastOfRow
  repeat' with_reducible (first | apply ko_B | apply ko_C | exact ko_Mth_max _ _ | exact ko_R _ | intro _)
theorem ko_Ch_usesOpenRow_j40  : Kok true true (M_Ch_usesOpenRow_j40) := by
  unfold M_Ch_usesOpenRow_j40
  repeat' with_reducible (first | exact ko_R _ | intro _)
theorem ko_Ch_usesOpenRow_j36  : Kok true true (M_Ch_usesOpenRow_j36) := by
  unfold M_Ch_usesOpenRow_j36
  repeat' with_reducible (first | exact ko_R _ | intro _)
theorem ko_Ch_usesOpenRow (l0 : Int32) : Kok true true (M_Ch_usesOpenRow l0) := by
  unfold M_Ch_usesOpenRow
  repeat' with_reducible (first | apply ko_C | exact ko_Ch_usesOpenRow_j36 | exact ko_Ch_usesOpenRow_j40 | apply ko_L | intro _)
theorem ko_Ch_opensRow_j39  : Kok true true (M_Ch_opensRow_j39) := by
  unfold M_Ch_opensRow_j39
  repeat' with_reducible (first | exact ko_R _ | intro _)
theorem ko_Ch_opensRow_j35  : Kok true true (M_Ch_opensRow_j35) := by
  unfold M_Ch_opensRow_j35
  repeat' with_reducible (first | exact ko_R _ | intro _)
theorem ko_Ch_opensRow_j22 (l0 : Int32) (l1 : Int32) : Kok true true (M_Ch_opensRow_j22 l0 l1) := by
  unfold M_Ch_opensRow_j22
  repeat' with_reducible (first | apply ko_C | exact ko_Ch_opensRow_j35 | exact ko_Ch_opensRow_j39 | intro _)
theorem ko_Ch_opensRow (l0 : Int32) : Kok true true (M_Ch_opensRow l0) := by
  unfold M_Ch_opensRow
  repeat' with_reducible (first | apply ko_C | exact ko_Ch_opensRow_j35 | exact ko_Ch_opensRow_j22 _ _ | apply ko_L | intro _)
theorem ko_He_restart_j56 (l1 : Int32) : Kok true true (M_He_restart_j56 l1) := by
  unfold M_He_restart_j56
  repeat' with_reducible (first | exact ko_R _ | intro _)
theorem ko_He_restart_L31 (x) : Kok true true (M_He_restart_L31 x) := by
  unfold M_He_restart_L31
  repeat' with_reducible (first | apply ko_B | apply ko_C | exact ko_He_restart_j56 _ | exact ko_R _ | exact ko_Pz _ _ _ | exact ko_Nz _ _ _ | exact ko_PI0 | exact ko_PI (by omega) | intro _)
theorem ko_He_restart  : Kok true true (M_He_restart) := by
  unfold M_He_restart
  repeat' with_reducible (first | apply ko_B | exact ko_Arr_fill_____ _ _ _ _ _ (by omega) | exact ko_Arr_fill _ _ _ (by omega) | exact ko_He_restart_L31 _ | exact ko_R _ | apply ko_W | exact ko_PI (by omega) | intro _)
theorem ko_Arr_checkLength (l0 : Int32) (l1 : Int32) : Kok true true (M_Arr_checkLength l0 l1) := by
  unfold M_Arr_checkLength
  repeat' with_reducible (first | apply ko_C | exact ko_R _ | exact ko_F | intro _)
theorem ko_Ta_restart  : Kok true true (M_Ta_restart) := by
  unfold M_Ta_restart
  repeat' with_reducible (first | apply ko_B | exact ko_R _ | exact ko_PI (by omega) | intro _)
theorem ko_Ro_clear (l0r : Nat) (l0 : Int32) (h0 : 111 ≤ l0r ∧ l0r ≤ 143) : Kok true true (M_Ro_clear l0r l0) := by
  unfold M_Ro_clear
  repeat' with_reducible (first | apply ko_B | exact ko_R _ | exact ko_PI (by omega) | intro _)
theorem ko_He_isFull_j31  : Kok true true (M_He_isFull_j31) := by
  unfold M_He_isFull_j31
  repeat' with_reducible (first | exact ko_R _ | intro _)
theorem ko_He_isFull_j35  : Kok true true (M_He_isFull_j35) := by
  unfold M_He_isFull_j35
  repeat' with_reducible (first | exact ko_R _ | intro _)
theorem ko_He_isFull (l1 : Int32) : Kok true true (M_He_isFull l1) := by
  unfold M_He_isFull
  repeat' with_reducible (first | apply ko_B | apply ko_C | exact ko_He_isFull_j31 | exact ko_He_isFull_j35 | exact ko_GI _ _ | exact ko_AI _ _ _ _ | intro _)
theorem ko_He_reach (l1 : Int32) (l2 : Int64) : Kok true true (M_He_reach l1 l2) := by
  unfold M_He_reach
  repeat' with_reducible (first | apply ko_B | apply ko_C | exact ko_R _ | exact ko_GI _ _ | exact ko_SI (by omega) | exact ko_Pz _ _ _ | exact ko_PI (by omega) | intro _)
theorem ko_He_reachRow_L3 (x) : Kok true true (M_He_reachRow_L3 x) := by
  unfold M_He_reachRow_L3
  repeat' with_reducible (first | apply ko_B | apply ko_C | exact ko_He_reach _ _ | exact ko_R _ | exact ko_AI _ _ _ _ | exact ko_AL _ _ _ _ | exact ko_Ln _ _ | intro _)
theorem ko_He_reachRow (l1r : Nat) (l1 : Int32) (l2r : Nat) (l2 : Int32) (l3 : Int32) (l4 : Int32) : Kok true true (M_He_reachRow l1r l1 l2r l2 l3 l4) := by
  unfold M_He_reachRow
  repeat' with_reducible (first | apply ko_B | exact ko_He_reachRow_L3 _ | exact ko_R _ | apply ko_W | intro _)
theorem ko_He_reachFromCoroutine_L12 (x) : Kok true true (M_He_reachFromCoroutine_L12 x) := by
  unfold M_He_reachFromCoroutine_L12
  repeat' with_reducible (first | apply ko_B | apply ko_C | exact ko_He_reach _ _ | exact ko_R _ | exact ko_GI _ _ | exact ko_AI _ _ _ _ | exact ko_AL _ _ _ _ | intro _)
theorem ko_He_reachFromCoroutine_L44 (x) : Kok true true (M_He_reachFromCoroutine_L44 x) := by
  unfold M_He_reachFromCoroutine_L44
  repeat' with_reducible (first | apply ko_B | apply ko_C | exact ko_He_reach _ _ | exact ko_R _ | exact ko_GI _ _ | exact ko_GL _ _ | exact ko_K _ | intro _)
theorem ko_He_reachFromCoroutine_L103 (x) : Kok true true (M_He_reachFromCoroutine_L103 x) := by
  unfold M_He_reachFromCoroutine_L103
  repeat' with_reducible (first | apply ko_B | apply ko_C | exact ko_He_reach _ _ | exact ko_R _ | exact ko_GI _ _ | exact ko_Pz _ _ _ | intro _)
theorem ko_He_reachFromCoroutine (l1 : Int32) : Kok true true (M_He_reachFromCoroutine l1) := by
  unfold M_He_reachFromCoroutine
  repeat' with_reducible (first | apply ko_B | exact ko_He_reach _ _ | exact ko_He_reachFromCoroutine_L12 _ | exact ko_He_reachFromCoroutine_L44 _ | exact ko_He_reachFromCoroutine_L103 _ | exact ko_R _ | exact ko_GI _ _ | exact ko_GL _ _ | apply ko_W | intro _)
theorem ko_He_reachFrom_L55 (x) : Kok true true (M_He_reachFrom_L55 x) := by
  unfold M_He_reachFrom_L55
  repeat' with_reducible (first | apply ko_B | apply ko_C | exact ko_He_reach _ _ | exact ko_R _ | exact ko_GI _ _ | exact ko_AI _ _ _ _ | exact ko_AL _ _ _ _ | intro _)
theorem ko_He_reachFrom_L142 (x) : Kok true true (M_He_reachFrom_L142 x) := by
  unfold M_He_reachFrom_L142
  repeat' with_reducible (first | apply ko_B | apply ko_C | exact ko_He_reach _ _ | exact ko_R _ | exact ko_GI _ _ | exact ko_AI _ _ _ _ | exact ko_K _ | exact ko_Ln _ _ | intro _)
theorem ko_He_reachFrom (l1 : Int32) : Kok true true (M_He_reachFrom l1) := by
  unfold M_He_reachFrom
  repeat' with_reducible (first | apply ko_B | apply ko_C | exact ko_He_reach _ _ | exact ko_He_reachFrom_L55 _ | exact ko_He_reachFrom_L142 _ | exact ko_R _ | exact ko_GI _ _ | exact ko_GL _ _ | exact ko_AI _ _ _ _ | exact ko_AL _ _ _ _ | exact ko_Pz _ _ _ | apply ko_W | intro _)
theorem ko_He_dropFromBucket_L54 (x) : Kok true true (M_He_dropFromBucket_L54 x) := by
  unfold M_He_dropFromBucket_L54
  repeat' with_reducible (first | apply ko_B | apply ko_C | exact ko_R _ | exact ko_GI _ _ | exact ko_Pz _ _ _ | intro _)
theorem ko_He_dropFromBucket_j94 (l1 : Int32) (l4 : Int32) : Kok true true (M_He_dropFromBucket_j94 l1 l4) := by
  unfold M_He_dropFromBucket_j94
  repeat' with_reducible (first | apply ko_B | exact ko_R _ | exact ko_GI _ _ | exact ko_Pz _ _ _ | exact ko_PI (by omega) | intro _)
theorem ko_He_dropFromBucket (l1 : Int32) : Kok true true (M_He_dropFromBucket l1) := by
  unfold M_He_dropFromBucket
  repeat' with_reducible (first | apply ko_B | apply ko_C | exact ko_He_dropFromBucket_L54 _ | exact ko_He_dropFromBucket_j94 _ _ | exact ko_R _ | exact ko_GI _ _ | exact ko_AI _ _ _ _ | exact ko_SI (by omega) | exact ko_Pz _ _ _ | apply ko_L | apply ko_W | intro _)
theorem ko_Ta_release (l1 : Int32) : Kok true true (M_Ta_release l1) := by
  unfold M_Ta_release
  repeat' with_reducible (first | apply ko_B | apply ko_C | exact ko_R _ | exact ko_GI _ _ | exact ko_AI _ _ _ _ | exact ko_SI (by omega) | intro _)
theorem ko_He_closeFrom_L8 (x) : Kok true true (M_He_closeFrom_L8 x) := by
  unfold M_He_closeFrom_L8
  repeat' with_reducible (first | apply ko_B | apply ko_C | exact ko_R _ | exact ko_GI _ _ | exact ko_PL | exact ko_AI _ _ _ _ | exact ko_AL _ _ _ _ | exact ko_Pz _ _ _ | exact ko_PI (by omega) | intro _)
theorem ko_He_closeFrom_j89 (l1 : Int32) (l3 : Int32) : Kok true true (M_He_closeFrom_j89 l1 l3) := by
  unfold M_He_closeFrom_j89
  repeat' with_reducible (first | apply ko_B | exact ko_R _ | exact ko_PI (by omega) | intro _)
theorem ko_He_closeFrom (l1 : Int32) (l2 : Int32) : Kok true true (M_He_closeFrom l1 l2) := by
  unfold M_He_closeFrom
  repeat' with_reducible (first | apply ko_B | exact ko_He_closeFrom_L8 _ | exact ko_He_closeFrom_j89 _ _ | exact ko_GI _ _ | apply ko_W | intro _)
theorem ko_He_takeSlot (n0 : Nat × Nat) : Kok true true (M_He_takeSlot n0) := by
  unfold M_He_takeSlot
  repeat' with_reducible (first | apply ko_B | apply ko_C | exact ko_R _ | exact ko_GI _ _ | exact ko_AI _ _ _ _ | exact ko_K _ | exact ko_Ks _ | exact ko_Nz _ _ _ | exact ko_Nw _ _ | exact ko_S (or_nwO (by omega)) | exact ko_PI (by omega) | intro _)
theorem ko_He_isSame_L11 (x) : Kok true true (M_He_isSame_L11 x) := by
  unfold M_He_isSame_L11
  repeat' with_reducible (first | apply ko_B | apply ko_C | exact ko_R _ | exact ko_AI _ _ _ _ | exact ko_Ln _ _ | intro _)
theorem ko_He_isSame (l0 : Int32) (l1r : Nat) (l1 : Int32) (l2 : Int32) (l3 : Int32) : Kok true true (M_He_isSame l0 l1r l1 l2 l3) := by
  unfold M_He_isSame
  repeat' with_reducible (first | apply ko_B | apply ko_C | exact ko_He_isSame_L11 _ | exact ko_R _ | exact ko_Ln _ _ | apply ko_W | apply ko_E | intro _)
theorem ko_Ta_spread (l0 : Int32) (l1 : Int64) (l3 : Int32) : Kok true true (M_Ta_spread l0 l1 l3) := by
  unfold M_Ta_spread
  repeat' with_reducible (first | exact ko_R _ | intro _)
theorem ko_Ta_append (l1 : Int32) (l2 : Int32) (l3 : Int64) (l5 : Int32) (l6 : Int64) : Kok true true (M_Ta_append l1 l2 l3 l5 l6) := by
  unfold M_Ta_append
  repeat' with_reducible (first | apply ko_B | exact ko_Ta_spread _ _ _ | exact ko_R _ | exact ko_GI _ _ | exact ko_AI _ _ _ _ | exact ko_SI (by omega) | exact ko_SL | apply ko_L | exact ko_PI (by omega) | intro _)
theorem ko_Ta_closeUp_j176 (l1 : Int32) (l2 : Int32) (l3 : Int32) (l5 : Int32) : Kok true true (M_Ta_closeUp_j176 l1 l2 l3 l5) := by
  unfold M_Ta_closeUp_j176
  repeat' with_reducible (first | exact ko_R _ | apply ko_L | intro _)
theorem ko_Ta_closeUp_j52 (l1 : Int32) (l2 : Int32) (l3 : Int32) (l4 : Int32) (k0 : Int32) : Kok true true (M_Ta_closeUp_j52 l1 l2 l3 l4 k0) := by
  unfold M_Ta_closeUp_j52
  repeat' with_reducible (first | apply ko_B | apply ko_C | exact ko_Ta_closeUp_j176 _ _ _ _ | exact ko_SI (by omega) | exact ko_Pz _ _ _ | exact ko_CI (by omega) | exact ko_CL | apply ko_L | exact ko_PI (by omega) | intro _)
theorem ko_Ta_closeUp_L6 (x) : Kok true true (M_Ta_closeUp_L6 x) := by
  unfold M_Ta_closeUp_L6
  repeat' with_reducible (first | apply ko_B | apply ko_C | exact ko_Ta_closeUp_j52 _ _ _ _ _ | exact ko_R _ | exact ko_GI _ _ | exact ko_AI _ _ _ _ | exact ko_Pz _ _ _ | intro _)
theorem ko_Ta_closeUp_j187 (l1 : Int32) : Kok true true (M_Ta_closeUp_j187 l1) := by
  unfold M_Ta_closeUp_j187
  repeat' with_reducible (first | apply ko_B | exact ko_R _ | exact ko_PI (by omega) | intro _)
theorem ko_Ta_closeUp  : Kok true true (M_Ta_closeUp) := by
  unfold M_Ta_closeUp
  repeat' with_reducible (first | apply ko_B | exact ko_Ta_closeUp_L6 _ | exact ko_Ta_closeUp_j187 _ | apply ko_W | intro _)
theorem ko_Ma_begin (l1 : Int32) : Kok true true (M_Ma_begin l1) := by
  unfold M_Ma_begin
  repeat' with_reducible (first | apply ko_B | exact ko_R _ | exact ko_PL | exact ko_PI2 | exact ko_PI (by omega) | intro _)
theorem ko_Ma_raise (l1 : Int32) (l2 : Int64) : Kok true false (M_Ma_raise l1 l2) := by
  unfold M_Ma_raise
  repeat' with_reducible (first | apply ko_B | exact ko_R _ | exact ko_PL | exact ko_PI5 | exact ko_PI (by omega) | intro _)
theorem ko_Co_top (l0 : Int32) : Kok true true (M_Co_top l0) := by
  unfold M_Co_top
  repeat' with_reducible (first | apply ko_B | exact ko_R _ | exact ko_GI _ _ | exact ko_K _ | intro _)
theorem ko_LM_fault_j17 (l1 : Int32) : Kok true true (M_LM_fault_j17 l1) := by
  unfold M_LM_fault_j17
  repeat' with_reducible (first | apply ko_B | apply ko_C | exact ko_R _ | exact ko_GI _ _ | intro _)
theorem ko_LM_fault (l1 : Int32) : Kok true true (M_LM_fault l1) := by
  unfold M_LM_fault
  repeat' with_reducible (first | apply ko_C | exact ko_LM_fault_j17 _ | exact ko_F | intro _)
theorem ko_LM_limit (l1 : Int32) : Kok true true (M_LM_limit l1) := by
  unfold M_LM_limit
  repeat' with_reducible (first | apply ko_B | apply ko_C | exact ko_R _ | exact ko_GI _ _ | exact ko_F | exact ko_PI (by omega) | intro _)
theorem ko_St_decode  : Kok true true (M_St_decode) := by
  unfold M_St_decode
  repeat' with_reducible (first | apply ko_B | exact ko_Co_top _ | exact ko_R _ | exact ko_GI _ _ | exact ko_AI _ _ _ _ | exact ko_Pr _ _ | exact ko_PI (by omega) | intro _)
theorem ko_St_upvalue (l1 : Int32) : Kok true true (M_St_upvalue l1) := by
  unfold M_St_upvalue
  repeat' with_reducible (first | apply ko_B | exact ko_R _ | exact ko_GI _ _ | exact ko_AI _ _ _ _ | exact ko_K _ | exact ko_Pr _ _ | exact ko_Pz _ _ _ | exact ko_Ln _ _ | intro _)
theorem ko_He_variableKind (l1 : Int32) : Kok true true (M_He_variableKind l1) := by
  unfold M_He_variableKind
  repeat' with_reducible (first | apply ko_B | apply ko_C | exact ko_R _ | exact ko_GI _ _ | exact ko_AI _ _ _ _ | exact ko_Pz _ _ _ | intro _)
theorem ko_He_variableValue (l1 : Int32) : Kok true true (M_He_variableValue l1) := by
  unfold M_He_variableValue
  repeat' with_reducible (first | apply ko_B | apply ko_C | exact ko_R _ | exact ko_GI _ _ | exact ko_GL _ _ | exact ko_AL _ _ _ _ | exact ko_Pz _ _ _ | intro _)
theorem ko_St_kindOf (l1 : Int32) : Kok true true (M_St_kindOf l1) := by
  unfold M_St_kindOf
  repeat' with_reducible (first | apply ko_B | apply ko_C | exact ko_R _ | exact ko_GI _ _ | exact ko_AI _ _ _ _ | exact ko_Pr _ _ | intro _)
theorem ko_St_valueOf (l1 : Int32) : Kok true true (M_St_valueOf l1) := by
  unfold M_St_valueOf
  repeat' with_reducible (first | apply ko_B | apply ko_C | exact ko_R _ | exact ko_GI _ _ | exact ko_AL _ _ _ _ | exact ko_Pr _ _ | intro _)
theorem ko_Ro_add (l0r : Nat) (l0 : Int32) (l1 : Int32) (l2 : Int64) (h0 : 111 ≤ l0r ∧ l0r ≤ 143) : Kok true true (M_Ro_add l0r l0 l1 l2) := by
  unfold M_Ro_add
  repeat' with_reducible (first | apply ko_B | apply ko_C | exact ko_R _ | exact ko_GI _ _ | exact ko_SI (by omega) | exact ko_SL | exact ko_PI (by omega) | intro _)
theorem ko_St_set (l1 : Int32) (l2 : Int32) (l3 : Int64) : Kok true true (M_St_set l1 l2 l3) := by
  unfold M_St_set
  repeat' with_reducible (first | apply ko_B | exact ko_R _ | exact ko_GI _ _ | exact ko_SI (by omega) | exact ko_SL | exact ko_Pr _ _ | intro _)
theorem ko_He_setVariable (l1 : Int32) (l2 : Int32) (l3 : Int64) : Kok true true (M_He_setVariable l1 l2 l3) := by
  unfold M_He_setVariable
  repeat' with_reducible (first | apply ko_B | apply ko_C | exact ko_R _ | exact ko_GI _ _ | exact ko_PL | exact ko_SI (by omega) | exact ko_SL | exact ko_Pz _ _ _ | exact ko_PI (by omega) | intro _)
theorem ko_St_shifted (l0 : Int64) (l2 : Int64) : Kok true true (M_St_shifted l0 l2) := by
  unfold M_St_shifted
  repeat' with_reducible (first | apply ko_C | exact ko_R _ | intro _)
theorem ko_St_isTrue (l1 : Int32) : Kok true true (M_St_isTrue l1) := by
  unfold M_St_isTrue
  repeat' with_reducible (first | apply ko_B | apply ko_C | exact ko_St_kindOf _ | exact ko_R _ | intro _)
theorem ko_St_compared_L10 (x) : Kok true true (M_St_compared_L10 x) := by
  unfold M_St_compared_L10
  repeat' with_reducible (first | apply ko_B | apply ko_C | exact ko_R _ | exact ko_AI _ _ _ _ | exact ko_Ln _ _ | intro _)
theorem ko_St_compared (l0 : Int32) (l1 : Int32) : Kok true true (M_St_compared l0 l1) := by
  unfold M_St_compared
  repeat' with_reducible (first | apply ko_B | exact ko_Mth_min _ _ | exact ko_St_compared_L10 _ | exact ko_R _ | exact ko_AI _ _ _ _ | exact ko_Ln _ _ | apply ko_W | apply ko_E | intro _)
theorem ko_St_takeFurther_j167 (l1 : Int32) (l2 : Int32) (k0 : Int64) (k1 : Int32) (k2 : Int32) : Kok true true (M_St_takeFurther_j167 l1 l2 k0 k1 k2) := by
  unfold M_St_takeFurther_j167
  repeat' with_reducible (first | apply ko_B | exact ko_St_set _ _ _ | exact ko_R _ | intro _)
theorem ko_St_takeFurther_j148 (l1 : Int32) (l2 : Int32) (l3 : Int32) (k0 : Int32) (k1 : Int32) : Kok true true (M_St_takeFurther_j148 l1 l2 l3 k0 k1) := by
  unfold M_St_takeFurther_j148
  repeat' with_reducible (first | apply ko_B | apply ko_C | exact ko_St_takeFurther_j167 _ _ _ _ _ | exact ko_GI _ _ | exact ko_AL _ _ _ _ | exact ko_Pr _ _ | intro _)
