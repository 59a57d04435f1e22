/-! Made by wip/l2n/zgen.py: what the class's programs leave alone. -/
theorem zk_Mth_max (l0 : Int32) (l1 : Int32) : Zk 111 true (M_Mth_max l0 l1) := by
  unfold M_Mth_max
  repeat' with_reducible (first | apply zk_C | exact zk_R _ | intro _)
theorem zk_Mth_min (l0 : Int32) (l1 : Int32) : Zk 111 true (M_Mth_min l0 l1) := by
  unfold M_Mth_min
  repeat' with_reducible (first | apply zk_C | exact zk_R _ | intro _)
theorem zk_Mth_floorMod (l0 : Int64) (l2 : Int64) : Zk 111 true (M_Mth_floorMod l0 l2) := by
  unfold M_Mth_floorMod
  repeat' with_reducible (first | apply zk_B | apply zk_C | exact zk_R _ | exact zk_K _ | apply zk_L | intro _)
theorem zk_Mth_floorDiv (l0 : Int64) (l2 : Int64) : Zk 111 true (M_Mth_floorDiv l0 l2) := by
  unfold M_Mth_floorDiv
  repeat' with_reducible (first | apply zk_B | apply zk_C | exact zk_R _ | exact zk_K _ | apply zk_L | intro _)
theorem zk_Mth_abs (l0 : Int64) : Zk 111 true (M_Mth_abs l0) := by
  unfold M_Mth_abs
  repeat' with_reducible (first | apply zk_C | exact zk_R _ | intro _)
theorem zk_Mth_min_ (l0 : Int64) (l2 : Int64) : Zk 111 true (M_Mth_min_ l0 l2) := by
  unfold M_Mth_min_
  repeat' with_reducible (first | apply zk_C | exact zk_R _ | intro _)
theorem zk_Mth_max_ (l0 : Int64) (l2 : Int64) : Zk 111 true (M_Mth_max_ l0 l2) := by
  unfold M_Mth_max_
  repeat' with_reducible (first | apply zk_C | exact zk_R _ | intro _)
theorem zk_LM_count (l1 : Int32) : Zk 111 true (M_LM_count l1) := by
  unfold M_LM_count
  repeat' with_reducible (first | apply zk_B | apply zk_C | exact zk_R _ | exact zk_GI _ _ | exact zk_AI _ _ _ _ | exact zk_Pr _ _ | intro _)
theorem zk_LM_putOnTape_L3 (x) : Zk 100 true (M_LM_putOnTape_L3 x) := by
  unfold M_LM_putOnTape_L3
  repeat' with_reducible (first | apply zk_B | apply zk_C | exact zk_R _ | exact zk_GI _ _ | exact zk_SI (by omega) | exact zk_PI (by omega) | intro _)
theorem zk_LM_putOnTape (l1 : Int32) : Zk 100 true (M_LM_putOnTape l1) := by
  unfold M_LM_putOnTape
  repeat' with_reducible (first | apply zk_B | exact zk_LM_putOnTape_L3 _ | exact zk_R _ | apply zk_W | intro _)
theorem zk_LM_end (l1 : Int32) : Zk 100 true (M_LM_end l1) := by
  unfold M_LM_end
  repeat' with_reducible (first | apply zk_B | apply zk_C | exact zk_R _ | exact zk_GI _ _ | exact zk_F | exact zk_PI (by omega) | intro _)
theorem zk_Ch_begin (l1 : Int32) : Zk 100 true (M_Ch_begin l1) := by
  unfold M_Ch_begin
  repeat' with_reducible (first | apply zk_B | exact zk_R _ | exact zk_PI (by omega) | intro _)
theorem zk_Ch_withoutFullOnes_L2 (x) : Zk 111 true (M_Ch_withoutFullOnes_L2 x) := by
  unfold M_Ch_withoutFullOnes_L2
  repeat' with_reducible (first | apply zk_B | apply zk_C | exact zk_R _ | exact zk_AI _ _ _ _ | intro _)
theorem zk_Ch_withoutFullOnes (l1 : Int32) : Zk 111 true (M_Ch_withoutFullOnes l1) := by
  unfold M_Ch_withoutFullOnes
  repeat' with_reducible (first | apply zk_B | exact zk_Ch_withoutFullOnes_L2 _ | exact zk_R _ | apply zk_W | intro _)
theorem zk_Ch_refuse (l1 : Int32) (l2 : Int32) : Zk 100 true (M_Ch_refuse l1 l2) := by
  unfold M_Ch_refuse
  repeat' with_reducible (first | apply zk_B | exact zk_R _ | exact zk_PI (by omega) | intro _)
theorem zk_Ch_readNumber_L29 (x) : Zk 111 true (M_Ch_readNumber_L29 x) := by
  unfold M_Ch_readNumber_L29
  repeat' with_reducible (first | apply zk_B | apply zk_C | exact zk_R _ | exact zk_GI _ _ | exact zk_AI _ _ _ _ | apply zk_L | intro _)
theorem zk_Ch_readNumber (l1 : Int32) : Zk 100 true (M_Ch_readNumber l1) := by
  unfold M_Ch_readNumber
  repeat' with_reducible (first | apply zk_B | apply zk_C | exact (zk_Ch_readNumber_L29 _).wz | exact zk_Ch_refuse _ _ | exact zk_R _ | exact zk_GI _ _ | apply zk_W | exact zk_PI (by omega) | intro _)
theorem zk_Ch_mostOf (l0 : Int32) (l1 : Int32) : Zk 111 true (M_Ch_mostOf l0 l1) := by
  unfold M_Ch_mostOf
  repeat' with_reducible (first | apply zk_B | apply zk_C | exact zk_R _ | exact zk_GI _ _ | intro _)
theorem zk_Ch_readConstant_j124 (l1 : Int32) (l2 : Int64) : Zk 100 true (M_Ch_readConstant_j124 l1 l2) := by
  unfold M_Ch_readConstant_j124
  repeat' with_reducible (first | apply zk_B | exact zk_R _ | exact zk_GI _ _ | exact zk_SI (by omega) | exact zk_SL (by omega) | exact zk_PI (by omega) | intro _)
theorem zk_Ch_readConstant (l1 : Int32) : Zk 100 true (M_Ch_readConstant l1) := by
  unfold M_Ch_readConstant
  repeat' with_reducible (first | apply zk_B | apply zk_C | exact zk_Ch_readNumber _ | exact zk_Ch_readConstant_j124 _ _ | exact zk_Ch_refuse _ _ | exact zk_R _ | exact zk_GI _ _ | exact zk_K _ | apply zk_L | exact zk_PI (by omega) | intro _)
theorem zk_Ch_readCode_L55 (x) : Zk 100 true (M_Ch_readCode_L55 x) := by
  unfold M_Ch_readCode_L55
  repeat' with_reducible (first | apply zk_B | apply zk_C | exact zk_Ch_readNumber _ | exact zk_R _ | exact zk_GI _ _ | exact zk_SI (by omega) | exact zk_PI (by omega) | intro _)
theorem zk_Ch_readCode (l1 : Int32) : Zk 100 true (M_Ch_readCode l1) := by
  unfold M_Ch_readCode
  repeat' with_reducible (first | apply zk_B | apply zk_C | exact zk_Ch_readNumber _ | exact zk_Ch_refuse _ _ | exact zk_Ch_readCode_L55 _ | exact zk_R _ | exact zk_GI _ _ | exact zk_K _ | apply zk_W | exact zk_PI (by omega) | apply zk_E | intro _)
theorem zk_Ch_listChildren_L4 (x) : Zk 111 true (M_Ch_listChildren_L4 x) := by
  unfold M_Ch_listChildren_L4
  repeat' with_reducible (first | apply zk_B | apply zk_C | exact zk_R _ | exact zk_GI _ _ | exact zk_Pz _ _ _ | apply zk_L | exact zk_PI (by omega) | intro _)
theorem zk_Ch_listChildren_L52 (x) : Zk 100 true (M_Ch_listChildren_L52 x) := by
  unfold M_Ch_listChildren_L52
  repeat' with_reducible (first | apply zk_B | apply zk_C | exact zk_R _ | exact zk_GI _ _ | exact zk_SI (by omega) | exact zk_Pz _ _ _ | exact zk_PI (by omega) | intro _)
theorem zk_Ch_listChildren  : Zk 100 true (M_Ch_listChildren) := by
  unfold M_Ch_listChildren
  repeat' with_reducible (first | apply zk_B | exact (zk_Ch_listChildren_L4 _).wz | exact zk_Ch_listChildren_L52 _ | exact zk_R _ | apply zk_W | intro _)
theorem zk_Ch_isThere_j92  : Zk 111 true (M_Ch_isThere_j92) := by
  unfold M_Ch_isThere_j92
  repeat' with_reducible (first | exact zk_R _ | intro _)
theorem zk_Ch_isThere_j86 (l0 : Int32) : Zk 111 true (M_Ch_isThere_j86 l0) := by
  unfold M_Ch_isThere_j86
  repeat' with_reducible (first | apply zk_C | exact zk_Ch_isThere_j92 | exact zk_R _ | intro _)
theorem zk_Ch_isThere_j75 (l0 : Int32) (l1 : Int32) : Zk 111 true (M_Ch_isThere_j75 l0 l1) := by
  unfold M_Ch_isThere_j75
  repeat' with_reducible (first | apply zk_C | exact zk_Ch_isThere_j92 | exact zk_Ch_isThere_j86 _ | intro _)
theorem zk_Ch_isThere_j61 (l0 : Int32) (l1 : Int32) (l2 : Int32) : Zk 111 true (M_Ch_isThere_j61 l0 l1 l2) := by
  unfold M_Ch_isThere_j61
  repeat' with_reducible (first | apply zk_B | apply zk_C | exact zk_Ch_isThere_j92 | exact zk_Ch_isThere_j75 _ _ | exact zk_GI _ _ | intro _)
theorem zk_Ch_isThere (l0 : Int32) (l1 : Int32) (l2 : Int32) : Zk 111 true (M_Ch_isThere l0 l1 l2) := by
  unfold M_Ch_isThere
  repeat' with_reducible (first | apply zk_B | apply zk_C | exact zk_Ch_isThere_j92 | exact zk_Ch_isThere_j61 _ _ _ | exact zk_R _ | exact zk_GI _ _ | intro _)
theorem zk_Ch_lastOfRow (l0 : Int32) (l1 : Int32) (l2 : Int32) (l3 : Int32) : Zk 111 true (M_Ch_lastOfRow l0 l1 l2 l3) := by
  unfold M_Ch_lastOfRow
  repeat' with_reducible (first | apply zk_B | apply zk_C | exact zk_Mth_max _ _ | exact zk_R _ | intro _)
theorem zk_Ch_usesOpenRow_j40  : Zk 111 true (M_Ch_usesOpenRow_j40) := by
  unfold M_Ch_usesOpenRow_j40
  repeat' with_reducible (first | exact zk_R _ | intro _)
theorem zk_Ch_usesOpenRow_j36  : Zk 111 true (M_Ch_usesOpenRow_j36) := by
  unfold M_Ch_usesOpenRow_j36
  repeat' with_reducible (first | exact zk_R _ | intro _)
theorem zk_Ch_usesOpenRow (l0 : Int32) : Zk 111 true (M_Ch_usesOpenRow l0) := by
  unfold M_Ch_usesOpenRow
  repeat' with_reducible (first | apply zk_C | exact zk_Ch_usesOpenRow_j36 | exact zk_Ch_usesOpenRow_j40 | apply zk_L | intro _)
theorem zk_Ch_opensRow_j39  : Zk 111 true (M_Ch_opensRow_j39) := by
  unfold M_Ch_opensRow_j39
  repeat' with_reducible (first | exact zk_R _ | intro _)
theorem zk_Ch_opensRow_j35  : Zk 111 true (M_Ch_opensRow_j35) := by
  unfold M_Ch_opensRow_j35
  repeat' with_reducible (first | exact zk_R _ | intro _)
theorem zk_Ch_opensRow_j22 (l0 : Int32) (l1 : Int32) : Zk 111 true (M_Ch_opensRow_j22 l0 l1) := by
  unfold M_Ch_opensRow_j22
  repeat' with_reducible (first | apply zk_C | exact zk_Ch_opensRow_j35 | exact zk_Ch_opensRow_j39 | intro _)
theorem zk_Ch_opensRow (l0 : Int32) : Zk 111 true (M_Ch_opensRow l0) := by
  unfold M_Ch_opensRow
  repeat' with_reducible (first | apply zk_C | exact zk_Ch_opensRow_j35 | exact zk_Ch_opensRow_j22 _ _ | apply zk_L | intro _)
theorem zk_He_restart_j56 (l1 : Int32) : Zk 111 true (M_He_restart_j56 l1) := by
  unfold M_He_restart_j56
  repeat' with_reducible (first | exact zk_R _ | intro _)
theorem zk_He_restart_L31 (x) : Zk 111 true (M_He_restart_L31 x) := by
  unfold M_He_restart_L31
  repeat' with_reducible (first | apply zk_B | apply zk_C | exact zk_He_restart_j56 _ | exact zk_R _ | exact zk_Pz _ _ _ | exact zk_Nz _ _ _ | exact zk_PI (by omega) | intro _)
theorem zk_He_restart  : Zk 111 true (M_He_restart) := by
  unfold M_He_restart
  repeat' with_reducible (first | apply zk_B | exact zk_Arr_fill_____ _ _ _ _ _ (by omega) | exact zk_Arr_fill _ _ _ (by omega) | exact zk_He_restart_L31 _ | exact zk_R _ | apply zk_W | exact zk_PI (by omega) | intro _)
theorem zk_Arr_checkLength (l0 : Int32) (l1 : Int32) : Zk 111 true (M_Arr_checkLength l0 l1) := by
  unfold M_Arr_checkLength
  repeat' with_reducible (first | apply zk_C | exact zk_R _ | exact zk_F | intro _)
theorem zk_Ta_restart  : Zk 111 true (M_Ta_restart) := by
  unfold M_Ta_restart
  repeat' with_reducible (first | apply zk_B | exact zk_R _ | exact zk_PI (by omega) | intro _)
theorem zk_Ro_clear (l0r : Nat) (l0 : Int32) (h0 : 111 ≤ l0r) : Zk 111 true (M_Ro_clear l0r l0) := by
  unfold M_Ro_clear
  repeat' with_reducible (first | apply zk_B | exact zk_R _ | exact zk_PI (by omega) | intro _)
theorem zk_He_isFull_j31  : Zk 111 true (M_He_isFull_j31) := by
  unfold M_He_isFull_j31
  repeat' with_reducible (first | exact zk_R _ | intro _)
theorem zk_He_isFull_j35  : Zk 111 true (M_He_isFull_j35) := by
  unfold M_He_isFull_j35
  repeat' with_reducible (first | exact zk_R _ | intro _)
theorem zk_He_isFull (l1 : Int32) : Zk 111 true (M_He_isFull l1) := by
  unfold M_He_isFull
  repeat' with_reducible (first | apply zk_B | apply zk_C | exact zk_He_isFull_j31 | exact zk_He_isFull_j35 | exact zk_GI _ _ | exact zk_AI _ _ _ _ | intro _)
theorem zk_He_reach (l1 : Int32) (l2 : Int64) : Zk 111 true (M_He_reach l1 l2) := by
  unfold M_He_reach
  repeat' with_reducible (first | apply zk_B | apply zk_C | exact zk_R _ | exact zk_GI _ _ | exact zk_SI (by omega) | exact zk_Pz _ _ _ | exact zk_PI (by omega) | intro _)
theorem zk_He_reachRow_L3 (x) : Zk 111 true (M_He_reachRow_L3 x) := by
  unfold M_He_reachRow_L3
  repeat' with_reducible (first | apply zk_B | apply zk_C | exact zk_He_reach _ _ | exact zk_R _ | exact zk_AI _ _ _ _ | exact zk_AL _ _ _ _ | exact zk_Ln _ _ | intro _)
theorem zk_He_reachRow (l1r : Nat) (l1 : Int32) (l2r : Nat) (l2 : Int32) (l3 : Int32) (l4 : Int32) : Zk 111 true (M_He_reachRow l1r l1 l2r l2 l3 l4) := by
  unfold M_He_reachRow
  repeat' with_reducible (first | apply zk_B | exact zk_He_reachRow_L3 _ | exact zk_R _ | apply zk_W | intro _)
theorem zk_He_reachFromCoroutine_L12 (x) : Zk 111 true (M_He_reachFromCoroutine_L12 x) := by
  unfold M_He_reachFromCoroutine_L12
  repeat' with_reducible (first | apply zk_B | apply zk_C | exact zk_He_reach _ _ | exact zk_R _ | exact zk_GI _ _ | exact zk_AI _ _ _ _ | exact zk_AL _ _ _ _ | intro _)
theorem zk_He_reachFromCoroutine_L44 (x) : Zk 111 true (M_He_reachFromCoroutine_L44 x) := by
  unfold M_He_reachFromCoroutine_L44
  repeat' with_reducible (first | apply zk_B | apply zk_C | exact zk_He_reach _ _ | exact zk_R _ | exact zk_GI _ _ | exact zk_GL _ _ | exact zk_K _ | intro _)
theorem zk_He_reachFromCoroutine_L103 (x) : Zk 111 true (M_He_reachFromCoroutine_L103 x) := by
  unfold M_He_reachFromCoroutine_L103
  repeat' with_reducible (first | apply zk_B | apply zk_C | exact zk_He_reach _ _ | exact zk_R _ | exact zk_GI _ _ | exact zk_Pz _ _ _ | intro _)
theorem zk_He_reachFromCoroutine (l1 : Int32) : Zk 111 true (M_He_reachFromCoroutine l1) := by
  unfold M_He_reachFromCoroutine
  repeat' with_reducible (first | apply zk_B | exact zk_He_reach _ _ | exact zk_He_reachFromCoroutine_L12 _ | exact zk_He_reachFromCoroutine_L44 _ | exact zk_He_reachFromCoroutine_L103 _ | exact zk_R _ | exact zk_GI _ _ | exact zk_GL _ _ | apply zk_W | intro _)
theorem zk_He_reachFrom_L55 (x) : Zk 111 true (M_He_reachFrom_L55 x) := by
  unfold M_He_reachFrom_L55
  repeat' with_reducible (first | apply zk_B | apply zk_C | exact zk_He_reach _ _ | exact zk_R _ | exact zk_GI _ _ | exact zk_AI _ _ _ _ | exact zk_AL _ _ _ _ | intro _)
theorem zk_He_reachFrom_L142 (x) : Zk 111 true (M_He_reachFrom_L142 x) := by
  unfold M_He_reachFrom_L142
  repeat' with_reducible (first | apply zk_B | apply zk_C | exact zk_He_reach _ _ | exact zk_R _ | exact zk_GI _ _ | exact zk_AI _ _ _ _ | exact zk_K _ | exact zk_Ln _ _ | intro _)
theorem zk_He_reachFrom (l1 : Int32) : Zk 111 true (M_He_reachFrom l1) := by
  unfold M_He_reachFrom
  repeat' with_reducible (first | apply zk_B | apply zk_C | exact zk_He_reach _ _ | exact zk_He_reachFrom_L55 _ | exact zk_He_reachFrom_L142 _ | exact zk_R _ | exact zk_GI _ _ | exact zk_GL _ _ | exact zk_AI _ _ _ _ | exact zk_AL _ _ _ _ | exact zk_Pz _ _ _ | apply zk_W | intro _)
theorem zk_He_dropFromBucket_L54 (x) : Zk 111 true (M_He_dropFromBucket_L54 x) := by
  unfold M_He_dropFromBucket_L54
  repeat' with_reducible (first | apply zk_B | apply zk_C | exact zk_R _ | exact zk_GI _ _ | exact zk_Pz _ _ _ | intro _)
theorem zk_He_dropFromBucket_j94 (l1 : Int32) (l4 : Int32) : Zk 111 true (M_He_dropFromBucket_j94 l1 l4) := by
  unfold M_He_dropFromBucket_j94
  repeat' with_reducible (first | apply zk_B | exact zk_R _ | exact zk_GI _ _ | exact zk_Pz _ _ _ | exact zk_PI (by omega) | intro _)
theorem zk_He_dropFromBucket (l1 : Int32) : Zk 111 true (M_He_dropFromBucket l1) := by
  unfold M_He_dropFromBucket
  repeat' with_reducible (first | apply zk_B | apply zk_C | exact zk_He_dropFromBucket_L54 _ | exact zk_He_dropFromBucket_j94 _ _ | exact zk_R _ | exact zk_GI _ _ | exact zk_AI _ _ _ _ | exact zk_SI (by omega) | exact zk_Pz _ _ _ | apply zk_L | apply zk_W | intro _)
theorem zk_Ta_release (l1 : Int32) : Zk 111 true (M_Ta_release l1) := by
  unfold M_Ta_release
  repeat' with_reducible (first | apply zk_B | apply zk_C | exact zk_R _ | exact zk_GI _ _ | exact zk_AI _ _ _ _ | exact zk_SI (by omega) | intro _)
theorem zk_He_closeFrom_L8 (x) : Zk 111 true (M_He_closeFrom_L8 x) := by
  unfold M_He_closeFrom_L8
  repeat' with_reducible (first | apply zk_B | apply zk_C | exact zk_R _ | exact zk_GI _ _ | exact zk_PL (by omega) | exact zk_AI _ _ _ _ | exact zk_AL _ _ _ _ | exact zk_Pz _ _ _ | exact zk_PI (by omega) | intro _)
theorem zk_He_closeFrom_j89 (l1 : Int32) (l3 : Int32) : Zk 111 true (M_He_closeFrom_j89 l1 l3) := by
  unfold M_He_closeFrom_j89
  repeat' with_reducible (first | apply zk_B | exact zk_R _ | exact zk_PI (by omega) | intro _)
theorem zk_He_closeFrom (l1 : Int32) (l2 : Int32) : Zk 111 true (M_He_closeFrom l1 l2) := by
  unfold M_He_closeFrom
  repeat' with_reducible (first | apply zk_B | exact zk_He_closeFrom_L8 _ | exact zk_He_closeFrom_j89 _ _ | exact zk_GI _ _ | apply zk_W | intro _)
theorem zk_He_takeSlot (n0 : Nat × Nat) : Zk 111 true (M_He_takeSlot n0) := by
  unfold M_He_takeSlot
  repeat' with_reducible (first | apply zk_B | apply zk_C | exact zk_R _ | exact zk_GI _ _ | exact zk_AI _ _ _ _ | exact zk_K _ | exact zk_Ks _ | exact zk_Nz _ _ _ | exact zk_Nw _ _ | exact zk_S (zr_nwO (by omega)) | exact zk_PI (by omega) | intro _)
theorem zk_He_isSame_L11 (x) : Zk 111 true (M_He_isSame_L11 x) := by
  unfold M_He_isSame_L11
  repeat' with_reducible (first | apply zk_B | apply zk_C | exact zk_R _ | exact zk_AI _ _ _ _ | exact zk_Ln _ _ | intro _)
theorem zk_He_isSame (l0 : Int32) (l1r : Nat) (l1 : Int32) (l2 : Int32) (l3 : Int32) : Zk 111 true (M_He_isSame l0 l1r l1 l2 l3) := by
  unfold M_He_isSame
  repeat' with_reducible (first | apply zk_B | apply zk_C | exact zk_He_isSame_L11 _ | exact zk_R _ | exact zk_Ln _ _ | apply zk_W | apply zk_E | intro _)
theorem zk_Ta_spread (l0 : Int32) (l1 : Int64) (l3 : Int32) : Zk 111 true (M_Ta_spread l0 l1 l3) := by
  unfold M_Ta_spread
  repeat' with_reducible (first | exact zk_R _ | intro _)
theorem zk_Ta_append (l1 : Int32) (l2 : Int32) (l3 : Int64) (l5 : Int32) (l6 : Int64) : Zk 111 true (M_Ta_append l1 l2 l3 l5 l6) := by
  unfold M_Ta_append
  repeat' with_reducible (first | apply zk_B | exact zk_Ta_spread _ _ _ | exact zk_R _ | exact zk_GI _ _ | exact zk_AI _ _ _ _ | exact zk_SI (by omega) | exact zk_SL (by omega) | apply zk_L | exact zk_PI (by omega) | intro _)
theorem zk_Ta_closeUp_j176 (l1 : Int32) (l2 : Int32) (l3 : Int32) (l5 : Int32) : Zk 111 true (M_Ta_closeUp_j176 l1 l2 l3 l5) := by
  unfold M_Ta_closeUp_j176
  repeat' with_reducible (first | exact zk_R _ | apply zk_L | intro _)
theorem zk_Ta_closeUp_j52 (l1 : Int32) (l2 : Int32) (l3 : Int32) (l4 : Int32) (k0 : Int32) : Zk 111 true (M_Ta_closeUp_j52 l1 l2 l3 l4 k0) := by
  unfold M_Ta_closeUp_j52
  repeat' with_reducible (first | apply zk_B | apply zk_C | exact zk_Ta_closeUp_j176 _ _ _ _ | exact zk_SI (by omega) | exact zk_Pz _ _ _ | exact zk_CI (by omega) | exact zk_CL (by omega) | apply zk_L | exact zk_PI (by omega) | intro _)
theorem zk_Ta_closeUp_L6 (x) : Zk 111 true (M_Ta_closeUp_L6 x) := by
  unfold M_Ta_closeUp_L6
  repeat' with_reducible (first | apply zk_B | apply zk_C | exact zk_Ta_closeUp_j52 _ _ _ _ _ | exact zk_R _ | exact zk_GI _ _ | exact zk_AI _ _ _ _ | exact zk_Pz _ _ _ | intro _)
theorem zk_Ta_closeUp_j187 (l1 : Int32) : Zk 111 true (M_Ta_closeUp_j187 l1) := by
  unfold M_Ta_closeUp_j187
  repeat' with_reducible (first | apply zk_B | exact zk_R _ | exact zk_PI (by omega) | intro _)
theorem zk_Ta_closeUp  : Zk 111 true (M_Ta_closeUp) := by
  unfold M_Ta_closeUp
  repeat' with_reducible (first | apply zk_B | exact zk_Ta_closeUp_L6 _ | exact zk_Ta_closeUp_j187 _ | apply zk_W | intro _)
theorem zk_Co_init_L39 (x) : Zk 111 true (M_Co_init_L39 x) := by
  unfold M_Co_init_L39
  repeat' with_reducible (first | apply zk_B | apply zk_C | exact zk_R _ | exact zk_GI _ _ | exact zk_K _ | exact zk_Ks _ | exact zk_Nw _ _ | exact zk_S (zr_nwO (by omega)) | intro _)
theorem zk_Co_init (n0 : Nat × Nat) (l0 : Int32) (l1 : Int32) : Zk 111 true (M_Co_init n0 l0 l1) := by
  unfold M_Co_init
  repeat' with_reducible (first | apply zk_B | exact zk_Co_init_L39 _ | exact zk_R _ | exact zk_Ks _ | exact zk_Nw _ _ | apply zk_W | exact zk_S (zr_nwR (by omega)) | exact zk_PI (by omega) | intro _)
theorem zk_Co_restart (l0 : Int32) (l1 : Int32) (l2 : Int64) : Zk 111 true (M_Co_restart l0 l1 l2) := by
  unfold M_Co_restart
  repeat' with_reducible (first | apply zk_B | exact zk_R _ | exact zk_PL (by omega) | exact zk_PI (by omega) | intro _)
theorem zk_Ma_begin (l1 : Int32) : Zk 111 true (M_Ma_begin l1) := by
  unfold M_Ma_begin
  repeat' with_reducible (first | apply zk_B | exact zk_R _ | exact zk_PL (by omega) | exact zk_PI (by omega) | intro _)
theorem zk_Co_push (l0 : Int32) (l1 : Int32) (l2 : Int32) (l3 : Int32) : Zk 111 true (M_Co_push l0 l1 l2 l3) := by
  unfold M_Co_push
  repeat' with_reducible (first | apply zk_B | apply zk_C | exact zk_R _ | exact zk_GI _ _ | exact zk_PL (by omega) | exact zk_K _ | exact zk_PI (by omega) | intro _)
theorem zk_Ma_raise (l1 : Int32) (l2 : Int64) : Zk 111 true (M_Ma_raise l1 l2) := by
  unfold M_Ma_raise
  repeat' with_reducible (first | apply zk_B | exact zk_R _ | exact zk_PL (by omega) | exact zk_PI (by omega) | intro _)
theorem zk_Co_top (l0 : Int32) : Zk 111 true (M_Co_top l0) := by
  unfold M_Co_top
  repeat' with_reducible (first | apply zk_B | exact zk_R _ | exact zk_GI _ _ | exact zk_K _ | intro _)
theorem zk_LM_fault_j17 (l1 : Int32) : Zk 111 true (M_LM_fault_j17 l1) := by
  unfold M_LM_fault_j17
  repeat' with_reducible (first | apply zk_B | apply zk_C | exact zk_R _ | exact zk_GI _ _ | intro _)
theorem zk_LM_fault (l1 : Int32) : Zk 111 true (M_LM_fault l1) := by
  unfold M_LM_fault
  repeat' with_reducible (first | apply zk_C | exact zk_LM_fault_j17 _ | exact zk_F | intro _)
theorem zk_St_decode  : Zk 111 true (M_St_decode) := by
  unfold M_St_decode
  repeat' with_reducible (first | apply zk_B | exact zk_Co_top _ | exact zk_R _ | exact zk_GI _ _ | exact zk_AI _ _ _ _ | exact zk_Pr _ _ | exact zk_PI (by omega) | intro _)
theorem zk_St_upvalue (l1 : Int32) : Zk 111 true (M_St_upvalue l1) := by
  unfold M_St_upvalue
  repeat' with_reducible (first | apply zk_B | exact zk_R _ | exact zk_GI _ _ | exact zk_AI _ _ _ _ | exact zk_K _ | exact zk_Pr _ _ | exact zk_Pz _ _ _ | exact zk_Ln _ _ | intro _)
theorem zk_He_variableKind (l1 : Int32) : Zk 111 true (M_He_variableKind l1) := by
  unfold M_He_variableKind
  repeat' with_reducible (first | apply zk_B | apply zk_C | exact zk_R _ | exact zk_GI _ _ | exact zk_AI _ _ _ _ | exact zk_Pz _ _ _ | intro _)
theorem zk_He_variableValue (l1 : Int32) : Zk 111 true (M_He_variableValue l1) := by
  unfold M_He_variableValue
  repeat' with_reducible (first | apply zk_B | apply zk_C | exact zk_R _ | exact zk_GI _ _ | exact zk_GL _ _ | exact zk_AL _ _ _ _ | exact zk_Pz _ _ _ | intro _)
theorem zk_St_kindOf (l1 : Int32) : Zk 111 true (M_St_kindOf l1) := by
  unfold M_St_kindOf
  repeat' with_reducible (first | apply zk_B | apply zk_C | exact zk_R _ | exact zk_GI _ _ | exact zk_AI _ _ _ _ | exact zk_Pr _ _ | intro _)
theorem zk_St_valueOf (l1 : Int32) : Zk 111 true (M_St_valueOf l1) := by
  unfold M_St_valueOf
  repeat' with_reducible (first | apply zk_B | apply zk_C | exact zk_R _ | exact zk_GI _ _ | exact zk_AL _ _ _ _ | exact zk_Pr _ _ | intro _)
theorem zk_Ro_add (l0r : Nat) (l0 : Int32) (l1 : Int32) (l2 : Int64) (h0 : 111 ≤ l0r) : Zk 111 true (M_Ro_add l0r l0 l1 l2) := by
  unfold M_Ro_add
  repeat' with_reducible (first | apply zk_B | apply zk_C | exact zk_R _ | exact zk_GI _ _ | exact zk_SI (by omega) | exact zk_SL (by omega) | exact zk_PI (by omega) | intro _)
