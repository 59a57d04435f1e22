/-! Made by wip/l2n/zgen2.py: programs that leave the frames alone. -/
theorem ko_St_takeFurther_j121 (l1 : Int32) (l2 : Int32) (k0 : Int32) : Kok true true (M_St_takeFurther_j121 l1 l2 k0) := by
  unfold M_St_takeFurther_j121
  repeat' with_reducible (first | apply ko_B | apply ko_C | exact ko_St_takeFurther_j148 _ _ _ _ _ | exact ko_GI _ _ | exact ko_AI _ _ _ _ | exact ko_Pr _ _ | intro _)
theorem ko_St_takeFurther_L95 (x) : Kok true true (M_St_takeFurther_L95 x) := by
  unfold M_St_takeFurther_L95
  repeat' with_reducible (first | apply ko_B | apply ko_C | exact ko_St_takeFurther_j121 _ _ _ | exact ko_R _ | exact ko_GI _ _ | exact ko_Pr _ _ | intro _)
theorem ko_St_takeFurther_L43 (x) : Kok true true (M_St_takeFurther_L43 x) := by
  unfold M_St_takeFurther_L43
  repeat' with_reducible (first | apply ko_B | apply ko_C | exact ko_Ro_add _ _ _ _ (by omega) | exact ko_R _ | exact ko_GI _ _ | exact ko_AI _ _ _ _ | exact ko_AL _ _ _ _ | exact ko_Pr _ _ | intro _)
theorem ko_St_takeFurther  : Kok true true (M_St_takeFurther) := by
  unfold M_St_takeFurther
  repeat' with_reducible (first | apply ko_B | apply ko_C | exact ko_Ro_clear _ _ (by omega) | exact ko_St_takeFurther_L43 _ | exact ko_St_takeFurther_L95 _ | exact ko_R _ | exact ko_GI _ _ | exact ko_Pr _ _ | apply ko_L | apply ko_W | exact ko_PI (by omega) | intro _)
theorem ko_Ro_addFirst (l0r : Nat) (l0 : Int32) (l1 : Int32) (l2 : Int64) (h0 : 111 ≤ l0r ∧ l0r ≤ 143) : Kok true true (M_Ro_addFirst l0r l0 l1 l2) := by
  unfold M_Ro_addFirst
  repeat' with_reducible (first | apply ko_B | apply ko_C | exact ko_R _ | exact ko_GI _ _ | exact ko_SI (by omega) | exact ko_SL | exact ko_CI (by omega) | exact ko_CL | exact ko_PI (by omega) | intro _)
theorem ko_Ma_coroutineOf (l1 : Int32) : Kok true true (M_Ma_coroutineOf l1) := by
  unfold M_Ma_coroutineOf
  repeat' with_reducible (first | apply ko_B | exact ko_R _ | exact ko_GI _ _ | exact ko_Pz _ _ _ | intro _)
theorem ko_Ro_takeAll (l0r : Nat) (l0 : Int32) (l1r : Nat) (l1 : Int32) (h0 : 111 ≤ l0r ∧ l0r ≤ 143) (h2 : 111 ≤ l1r ∧ l1r ≤ 143) : Kok true true (M_Ro_takeAll l0r l0 l1r l1) := by
  unfold M_Ro_takeAll
  repeat' with_reducible (first | apply ko_B | exact ko_R _ | exact ko_GI _ _ | exact ko_CI (by omega) | exact ko_CL | exact ko_PI (by omega) | intro _)
theorem ko_Bu_printByte (l1 : Int32) : Kok true true (M_Bu_printByte l1) := by
  unfold M_Bu_printByte
  repeat' with_reducible (first | apply ko_B | apply ko_C | exact ko_R _ | exact ko_GI _ _ | exact ko_SI (by omega) | exact ko_PI (by omega) | intro _)
theorem ko_Bu_printBytes (l1r : Nat) (l1 : Int32) (l2 : Int32) : Kok true true (M_Bu_printBytes l1r l1 l2) := by
  unfold M_Bu_printBytes
  repeat' with_reducible (first | apply ko_B | exact ko_Mth_min _ _ | exact ko_R _ | exact ko_GI _ _ | exact ko_Ln _ _ | exact ko_CI (by omega) | exact ko_PI (by omega) | intro _)
theorem ko_He_numberOf (l1 : Int64) : Kok true true (M_He_numberOf l1) := by
  unfold M_He_numberOf
  repeat' with_reducible (first | apply ko_B | apply ko_C | exact ko_R _ | exact ko_GI _ _ | exact ko_Pz _ _ _ | intro _)
theorem ko_Ro_kindAt (l0r : Nat) (l0 : Int32) (l1 : Int32) : Kok true true (M_Ro_kindAt l0r l0 l1) := by
  unfold M_Ro_kindAt
  repeat' with_reducible (first | apply ko_B | apply ko_C | exact ko_R _ | exact ko_GI _ _ | exact ko_AI _ _ _ _ | intro _)
theorem ko_Ro_valueAt (l0r : Nat) (l0 : Int32) (l1 : Int32) : Kok true true (M_Ro_valueAt l0r l0 l1) := by
  unfold M_Ro_valueAt
  repeat' with_reducible (first | apply ko_B | apply ko_C | exact ko_R _ | exact ko_GI _ _ | exact ko_AL _ _ _ _ | intro _)
theorem ko_Bu_typeOf (l0 : Int32) : Kok true true (M_Bu_typeOf l0) := by
  unfold M_Bu_typeOf
  repeat' with_reducible (first | apply ko_C | exact ko_R _ | intro _)
theorem ko_Ro_dropFirst (l0r : Nat) (l0 : Int32) (l1 : Int32) (h0 : 111 ≤ l0r ∧ l0r ≤ 143) : Kok true true (M_Ro_dropFirst l0r l0 l1) := by
  unfold M_Ro_dropFirst
  repeat' with_reducible (first | apply ko_B | exact ko_Mth_max _ _ | exact ko_R _ | exact ko_GI _ _ | exact ko_CI (by omega) | exact ko_CL | exact ko_PI (by omega) | intro _)
theorem ko_Bu_addEntry_j38 (k0 : Int64) (k1 : Int32) : Kok true true (M_Bu_addEntry_j38 k0 k1) := by
  unfold M_Bu_addEntry_j38
  repeat' with_reducible (first | apply ko_B | exact ko_Ro_add _ _ _ _ (by omega) | exact ko_R _ | intro _)
theorem ko_Bu_addEntry_j21 (l1 : Int32) (k0 : Int32) : Kok true true (M_Bu_addEntry_j21 l1 k0) := by
  unfold M_Bu_addEntry_j21
  repeat' with_reducible (first | apply ko_B | apply ko_C | exact ko_Bu_addEntry_j38 _ _ | exact ko_AL _ _ _ _ | intro _)
theorem ko_Bu_addEntry (l1 : Int32) : Kok true true (M_Bu_addEntry l1) := by
  unfold M_Bu_addEntry
  repeat' with_reducible (first | apply ko_B | apply ko_C | exact ko_Bu_addEntry_j21 _ _ | exact ko_AI _ _ _ _ | intro _)
theorem ko_Bu_bytesOfFirst  : Kok true true (M_Bu_bytesOfFirst) := by
  unfold M_Bu_bytesOfFirst
  repeat' with_reducible (first | apply ko_B | exact ko_Ro_valueAt _ _ _ | exact ko_R _ | exact ko_GI _ _ | exact ko_K _ | exact ko_Pz _ _ _ | intro _)
theorem ko_Bu_addTruth_j13 (k0 : Int32) : Kok true true (M_Bu_addTruth_j13 k0) := by
  unfold M_Bu_addTruth_j13
  repeat' with_reducible (first | apply ko_B | exact ko_Ro_add _ _ _ _ (by omega) | exact ko_R _ | intro _)
theorem ko_Bu_addTruth (l1 : Int32) : Kok true true (M_Bu_addTruth l1) := by
  unfold M_Bu_addTruth
  repeat' with_reducible (first | apply ko_C | exact ko_Bu_addTruth_j13 _ | intro _)
theorem ko_Bu_isNumberSign_j37  : Kok true true (M_Bu_isNumberSign_j37) := by
  unfold M_Bu_isNumberSign_j37
  repeat' with_reducible (first | exact ko_R _ | intro _)
theorem ko_Bu_isNumberSign  : Kok true true (M_Bu_isNumberSign) := by
  unfold M_Bu_isNumberSign
  repeat' with_reducible (first | apply ko_B | apply ko_C | exact ko_Ro_kindAt _ _ _ | exact ko_Bu_bytesOfFirst | exact ko_Bu_isNumberSign_j37 | exact ko_R _ | exact ko_AI _ _ _ _ | exact ko_Pr _ _ | exact ko_Ln _ _ | intro _)
theorem ko_Bu_fromFront (l0 : Int64) (l2 : Int32) : Kok true true (M_Bu_fromFront l0 l2) := by
  unfold M_Bu_fromFront
  repeat' with_reducible (first | apply ko_C | exact ko_R _ | intro _)
theorem ko_Bu_tellRunning_j39 (k0 : Int32) : Kok true true (M_Bu_tellRunning_j39 k0) := by
  unfold M_Bu_tellRunning_j39
  repeat' with_reducible (first | apply ko_B | exact ko_Bu_addTruth _ | exact ko_R _ | intro _)
theorem ko_Bu_tellRunning  : Kok true true (M_Bu_tellRunning) := by
  unfold M_Bu_tellRunning
  repeat' with_reducible (first | apply ko_B | apply ko_C | exact ko_Ro_add _ _ _ _ (by omega) | exact ko_Bu_tellRunning_j39 _ | exact ko_GI _ _ | exact ko_Pr _ _ | intro _)
theorem ko_Ma_give (l1 : Int32) (l2 : Int64) : Kok true false (M_Ma_give l1 l2) := by
  unfold M_Ma_give
  repeat' with_reducible (first | apply ko_B | exact (ko_Ro_clear _ _ (by omega)).wu | exact (ko_Ro_add _ _ _ _ (by omega)).wu | exact ko_R _ | exact ko_PI5 | exact ko_PI (by omega) | intro _)
theorem ko_St_setAll_L2 (x) : Kok true true (M_St_setAll_L2 x) := by
  unfold M_St_setAll_L2
  repeat' with_reducible (first | apply ko_B | apply ko_C | exact ko_Ro_kindAt _ _ _ | exact ko_Ro_valueAt _ _ _ | exact ko_St_set _ _ _ | exact ko_R _ | intro _)
theorem ko_St_setAll (l1 : Int32) (l2 : Int32) : Kok true true (M_St_setAll l1 l2) := by
  unfold M_St_setAll
  repeat' with_reducible (first | apply ko_B | exact ko_St_setAll_L2 _ | exact ko_R _ | apply ko_W | intro _)
theorem ko_St_isText_j10  : Kok true true (M_St_isText_j10) := by
  unfold M_St_isText_j10
  repeat' with_reducible (first | exact ko_R _ | intro _)
theorem ko_St_isText (l0 : Int32) : Kok true true (M_St_isText l0) := by
  unfold M_St_isText
  repeat' with_reducible (first | apply ko_C | exact ko_St_isText_j10 | exact ko_R _ | intro _)
theorem ko_St_forgetJoined  : Kok true true (M_St_forgetJoined) := by
  unfold M_St_forgetJoined
  repeat' with_reducible (first | apply ko_B | exact ko_R _ | exact ko_GI _ _ | exact ko_PL | exact ko_Pr _ _ | exact ko_PI (by omega) | intro _)
theorem ko_Ma_endWithError  : Kok true false (M_Ma_endWithError) := by
  unfold M_Ma_endWithError
  repeat' with_reducible (first | apply ko_B | exact (ko_Ro_clear _ _ (by omega)).wu | exact (ko_Ro_add _ _ _ _ (by omega)).wu | exact ko_R _ | exact ko_GI _ _ | exact ko_GL _ _ | exact ko_Pr _ _ | exact ko_PI5 | exact ko_PI (by omega) | intro _)
theorem ko_Ma_giveError  : Kok true false (M_Ma_giveError) := by
  unfold M_Ma_giveError
  repeat' with_reducible (first | apply ko_B | exact ko_Ma_give _ _ | exact (ko_Ro_add _ _ _ _ (by omega)).wu | exact ko_R _ | exact ko_GI _ _ | exact ko_GL _ _ | intro _)
theorem ko_LM_hasNoResult_j25  : Kok true true (M_LM_hasNoResult_j25) := by
  unfold M_LM_hasNoResult_j25
  repeat' with_reducible (first | exact ko_R _ | intro _)
theorem ko_LM_hasNoResult (l1 : Int32) : Kok true true (M_LM_hasNoResult l1) := by
  unfold M_LM_hasNoResult
  repeat' with_reducible (first | apply ko_B | apply ko_C | exact ko_LM_hasNoResult_j25 | exact ko_R _ | exact ko_GI _ _ | intro _)
theorem ko_LM_value (l1 : Int32) : Kok true true (M_LM_value l1) := by
  unfold M_LM_value
  repeat' with_reducible (first | apply ko_B | apply ko_C | exact ko_LM_hasNoResult _ | exact ko_He_numberOf _ | exact ko_R _ | exact ko_GI _ _ | exact ko_AI _ _ _ _ | exact ko_AL _ _ _ _ | exact ko_K _ | exact ko_Pz _ _ _ | exact ko_Ln _ _ | exact ko_F | intro _)
theorem ko_LM_byteOf (l1 : Int32) (l2 : Int32) : Kok true true (M_LM_byteOf l1 l2) := by
  unfold M_LM_byteOf
  repeat' with_reducible (first | apply ko_B | apply ko_C | exact ko_LM_hasNoResult _ | exact ko_R _ | exact ko_GI _ _ | exact ko_AI _ _ _ _ | exact ko_AL _ _ _ _ | exact ko_K _ | exact ko_Pz _ _ _ | exact ko_Ln _ _ | exact ko_F | intro _)
theorem ko_LM_output (l1 : Int32) : Kok true true (M_LM_output l1) := by
  unfold M_LM_output
  repeat' with_reducible (first | apply ko_B | apply ko_C | exact ko_R _ | exact ko_GI _ _ | exact ko_AI _ _ _ _ | exact ko_F | intro _)
theorem ko_LM_feed (l1 : Int32) (l2 : Int32) (l3 : Int32) (l4 : Int32) (l5 : Int32) : Kok true true (M_LM_feed l1 l2 l3 l4 l5) := by
  unfold M_LM_feed
  repeat' with_reducible (first | apply ko_B | apply ko_C | exact ko_LM_putOnTape _ | exact ko_R _ | exact ko_GI _ _ | exact ko_F | intro _)
theorem ko_Ch_readHead_j68  : Kok true true (M_Ch_readHead_j68) := by
  unfold M_Ch_readHead_j68
  repeat' with_reducible (first | apply ko_B | exact ko_Ch_refuse _ _ | exact ko_R _ | exact ko_GI _ _ | exact ko_K _ | intro _)
theorem ko_Ch_readHead_j127  : Kok true true (M_Ch_readHead_j127) := by
  unfold M_Ch_readHead_j127
  repeat' with_reducible (first | apply ko_B | exact ko_Ch_refuse _ _ | exact ko_R _ | exact ko_GI _ _ | exact ko_K _ | intro _)
theorem ko_Ch_readHead_j178  : Kok true true (M_Ch_readHead_j178) := by
  unfold M_Ch_readHead_j178
  repeat' with_reducible (first | apply ko_B | exact ko_Ch_refuse _ _ | exact ko_R _ | exact ko_GI _ _ | exact ko_K _ | intro _)
theorem ko_Ch_readUpvalues_j127 (l1 : Int32) (l2 : Int32) (k0 : Int32) (k1 : Int32) : Kok true true (M_Ch_readUpvalues_j127 l1 l2 k0 k1) := by
  unfold M_Ch_readUpvalues_j127
  repeat' with_reducible (first | apply ko_B | exact ko_R _ | exact ko_GI _ _ | exact ko_SI (by omega) | exact ko_PI (by omega) | intro _)
theorem ko_Ch_readUpvalues_j105 (l1 : Int32) (l2 : Int32) (l3 : Int32) (l4 : Int32) : Kok true true (M_Ch_readUpvalues_j105 l1 l2 l3 l4) := by
  unfold M_Ch_readUpvalues_j105
  repeat' with_reducible (first | apply ko_B | apply ko_C | exact ko_Ch_readUpvalues_j127 _ _ _ _ | exact ko_GI _ _ | intro _)
theorem ko_Ch_readUpvalues_j54 (l1 : Int32) (l2 : Int32) (l3 : Int32) : Kok true true (M_Ch_readUpvalues_j54 l1 l2 l3) := by
  unfold M_Ch_readUpvalues_j54
  repeat' with_reducible (first | apply ko_B | apply ko_C | exact ko_Ch_readNumber _ | exact ko_Ch_readUpvalues_j105 _ _ _ _ | exact ko_Ch_mostOf _ _ | exact ko_R _ | exact ko_GI _ _ | exact ko_Pz _ _ _ | intro _)
theorem ko_Ch_readUpvalues_L10 (x) : Kok true true (M_Ch_readUpvalues_L10 x) := by
  unfold M_Ch_readUpvalues_L10
  repeat' with_reducible (first | apply ko_B | apply ko_C | exact ko_Ch_readNumber _ | exact ko_Ch_readUpvalues_j54 _ _ _ | exact ko_R _ | exact ko_GI _ _ | intro _)
theorem ko_Ch_readConstants_L28 (x) : Kok true true (M_Ch_readConstants_L28 x) := by
  unfold M_Ch_readConstants_L28
  repeat' with_reducible (first | apply ko_B | apply ko_C | exact ko_Ch_readNumber _ | exact ko_Ch_readConstant _ | exact ko_R _ | exact ko_GI _ _ | intro _)
theorem ko_Ch_namesWhatIsThere (l0 : Int32) (l1 : Int32) : Kok true true (M_Ch_namesWhatIsThere l0 l1) := by
  unfold M_Ch_namesWhatIsThere
  repeat' with_reducible (first | apply ko_B | apply ko_C | exact ko_Ch_isThere _ _ _ | exact ko_Ch_lastOfRow _ _ _ _ | exact ko_R _ | exact ko_GI _ _ | exact ko_K _ | apply ko_L | intro _)
theorem ko_Ch_mayBeReached_j33  : Kok true true (M_Ch_mayBeReached_j33) := by
  unfold M_Ch_mayBeReached_j33
  repeat' with_reducible (first | exact ko_R _ | intro _)
theorem ko_Ch_mayBeReached (l1 : Int32) (l2 : Int32) : Kok true true (M_Ch_mayBeReached l1 l2) := by
  unfold M_Ch_mayBeReached
  repeat' with_reducible (first | apply ko_B | apply ko_C | exact ko_Ch_mayBeReached_j33 | exact ko_Ch_usesOpenRow _ | exact ko_R _ | exact ko_GI _ _ | exact ko_AI _ _ _ _ | intro _)
theorem ko_Ch_keepsOpenRows_j108  : Kok true true (M_Ch_keepsOpenRows_j108) := by
  unfold M_Ch_keepsOpenRows_j108
  repeat' with_reducible (first | exact ko_R _ | intro _)
theorem ko_Ch_keepsOpenRows_j80 (l3 : Int32) (l4 : Int32) (k0 : Int32) (k1 : Int32) : Kok true true (M_Ch_keepsOpenRows_j80 l3 l4 k0 k1) := by
  unfold M_Ch_keepsOpenRows_j80
  repeat' with_reducible (first | apply ko_B | apply ko_C | exact ko_Ch_usesOpenRow _ | exact ko_Ch_keepsOpenRows_j108 | exact ko_R _ | apply ko_L | intro _)
theorem ko_Ch_keepsOpenRows_j32 (l1 : Int32) (l2 : Int32) (l3 : Int32) : Kok true true (M_Ch_keepsOpenRows_j32 l1 l2 l3) := by
  unfold M_Ch_keepsOpenRows_j32
  repeat' with_reducible (first | apply ko_B | apply ko_C | exact ko_Ch_opensRow _ | exact ko_Ch_keepsOpenRows_j80 _ _ _ _ | exact ko_R _ | exact ko_GI _ _ | exact ko_AI _ _ _ _ | intro _)
theorem ko_Ch_keepsOpenRows (l1 : Int32) (l2 : Int32) (l3 : Int32) : Kok true true (M_Ch_keepsOpenRows l1 l2 l3) := by
  unfold M_Ch_keepsOpenRows
  repeat' with_reducible (first | apply ko_B | apply ko_C | exact ko_Ch_usesOpenRow _ | exact ko_Ch_keepsOpenRows_j32 _ _ _ | exact ko_Ch_opensRow _ | exact ko_R _ | exact ko_GI _ _ | exact ko_AI _ _ _ _ | intro _)
theorem ko_He_sweep_j148 (l1 : Int32) : Kok true true (M_He_sweep_j148 l1) := by
  unfold M_He_sweep_j148
  repeat' with_reducible (first | exact ko_R _ | intro _)
theorem ko_He_sweep_j113 (l1 : Int32) (l2 : Int32) : Kok true true (M_He_sweep_j113 l1 l2) := by
  unfold M_He_sweep_j113
  repeat' with_reducible (first | apply ko_B | exact ko_He_sweep_j148 _ | exact ko_GI _ _ | exact ko_AI _ _ _ _ | exact ko_SI (by omega) | exact ko_PI (by omega) | intro _)
theorem ko_He_sweep_L2 (x) : Kok true true (M_He_sweep_L2 x) := by
  unfold M_He_sweep_L2
  repeat' with_reducible (first | apply ko_B | apply ko_C | exact ko_He_sweep_j148 _ | exact ko_He_dropFromBucket _ | exact ko_He_sweep_j113 _ _ | exact ko_Ta_release _ | exact ko_He_closeFrom _ _ | exact ko_R _ | exact ko_GI _ _ | exact ko_AI _ _ _ _ | exact ko_SI (by omega) | exact ko_Pz _ _ _ | exact ko_PI0 | exact ko_PI (by omega) | intro _)
theorem ko_He_sweep  : Kok true true (M_He_sweep) := by
  unfold M_He_sweep
  repeat' with_reducible (first | apply ko_B | exact ko_He_sweep_L2 _ | exact ko_R _ | apply ko_W | intro _)
theorem ko_Ta_find_j98 (l2 : Int32) (l3 : Int64) (l5 : Int32) (l7 : Int32) (l8 : Int32) : Kok true true (M_Ta_find_j98 l2 l3 l5 l7 l8) := by
  unfold M_Ta_find_j98
  repeat' with_reducible (first | apply ko_B | exact ko_R _ | exact ko_AI _ _ _ _ | intro _)
theorem ko_Ta_find_L47 (x) : Kok true true (M_Ta_find_L47 x) := by
  unfold M_Ta_find_L47
  repeat' with_reducible (first | apply ko_B | apply ko_C | exact ko_Ta_find_j98 _ _ _ _ _ | exact ko_R _ | exact ko_GI _ _ | exact ko_AI _ _ _ _ | exact ko_AL _ _ _ _ | apply ko_L | intro _)
theorem ko_Ta_find (l1 : Int32) (l2 : Int32) (l3 : Int64) : Kok true true (M_Ta_find l1 l2 l3) := by
  unfold M_Ta_find
  repeat' with_reducible (first | apply ko_B | apply ko_C | exact ko_Ta_spread _ _ _ | exact ko_Ta_find_L47 _ | exact ko_R _ | exact ko_GI _ _ | exact ko_AI _ _ _ _ | exact ko_Pz _ _ _ | apply ko_W | apply ko_E | intro _)
theorem ko_Ta_dropDead_j94 (l1 : Int32) (l2 : Int32) (l4 : Int32) : Kok true true (M_Ta_dropDead_j94 l1 l2 l4) := by
  unfold M_Ta_dropDead_j94
  repeat' with_reducible (first | exact ko_R _ | intro _)
theorem ko_Ta_dropDead_L36 (x) : Kok true true (M_Ta_dropDead_L36 x) := by
  unfold M_Ta_dropDead_L36
  repeat' with_reducible (first | apply ko_B | apply ko_C | exact ko_Ta_dropDead_j94 _ _ _ | exact ko_Ta_append _ _ _ _ _ | exact ko_R _ | exact ko_GI _ _ | exact ko_AI _ _ _ _ | exact ko_AL _ _ _ _ | apply ko_L | intro _)
theorem ko_Ta_dropDead (l1 : Int32) : Kok true true (M_Ta_dropDead l1) := by
  unfold M_Ta_dropDead
  repeat' with_reducible (first | apply ko_B | exact ko_Arr_fill_____ _ _ _ _ _ (by omega) | exact ko_Ta_dropDead_L36 _ | exact ko_R _ | exact ko_GI _ _ | apply ko_L | apply ko_W | exact ko_PI (by omega) | intro _)
theorem ko_Ta_moveTo_L116 (x) : Kok true true (M_Ta_moveTo_L116 x) := by
  unfold M_Ta_moveTo_L116
  repeat' with_reducible (first | apply ko_B | apply ko_C | exact ko_Ta_append _ _ _ _ _ | exact ko_R _ | exact ko_AI _ _ _ _ | exact ko_AL _ _ _ _ | intro _)
theorem ko_Ta_moveTo_j56 (l1 : Int32) (l2 : Int32) (l3 : Int32) (l4 : Int32) (l5 : Int32) : Kok true true (M_Ta_moveTo_j56 l1 l2 l3 l4 l5) := by
  unfold M_Ta_moveTo_j56
  repeat' with_reducible (first | apply ko_B | exact ko_Arr_fill_____ _ _ _ _ _ (by omega) | exact ko_Ta_moveTo_L116 _ | exact ko_R _ | exact ko_GI _ _ | exact ko_SI (by omega) | apply ko_W | exact ko_PI (by omega) | intro _)
theorem ko_Ta_moveTo_j15 (l1 : Int32) (l2 : Int32) : Kok true true (M_Ta_moveTo_j15 l1 l2) := by
  unfold M_Ta_moveTo_j15
  repeat' with_reducible (first | apply ko_B | apply ko_C | exact ko_Ta_moveTo_j56 _ _ _ _ _ | exact ko_GI _ _ | exact ko_SI (by omega) | exact ko_Pz _ _ _ | intro _)
theorem ko_Ta_moveTo (l1 : Int32) (l2 : Int32) : Kok true true (M_Ta_moveTo l1 l2) := by
  unfold M_Ta_moveTo
  repeat' with_reducible (first | apply ko_B | apply ko_C | exact ko_Ta_moveTo_j15 _ _ | exact ko_Ta_closeUp | exact ko_GI _ _ | intro _)
theorem ko_Ma_fail_j19 (k0 : Int32) : Kok true true (M_Ma_fail_j19 k0) := by
  unfold M_Ma_fail_j19
  repeat' with_reducible (first | apply ko_B | exact ko_R _ | exact ko_K _ | exact ko_PI (by omega) | intro _)
theorem ko_Ma_fail (l1 : Int32) : Kok true false (M_Ma_fail l1) := by
  unfold M_Ma_fail
  repeat' with_reducible (first | apply ko_B | apply ko_C | exact ko_Ma_raise _ _ | exact (ko_Ma_fail_j19 _).wu | intro _)
theorem ko_Ta_findEvent_j72  : Kok true true (M_Ta_findEvent_j72) := by
  unfold M_Ta_findEvent_j72
  repeat' with_reducible (first | exact ko_R _ | intro _)
theorem ko_Ta_findEvent (l1 : Int32) (l2 : Int64) (l4 : Int32) : Kok true true (M_Ta_findEvent l1 l2 l4) := by
  unfold M_Ta_findEvent
  repeat' with_reducible (first | apply ko_B | apply ko_C | exact ko_Ta_find _ _ _ | exact ko_Ta_findEvent_j72 | exact ko_R _ | exact ko_GI _ _ | exact ko_AI _ _ _ _ | exact ko_Pz _ _ _ | intro _)
theorem ko_Ma_callEntry (l1 : Int32) (l2 : Int32) (l3 : Int64) (l5 : Int32) (l6 : Int64) : Kok true false (M_Ma_callEntry l1 l2 l3 l5 l6) := by
  unfold M_Ma_callEntry
  repeat' with_reducible (first | apply ko_B | exact (ko_Ro_clear _ _ (by omega)).wu | exact (ko_Ro_add _ _ _ _ (by omega)).wu | exact ko_R _ | exact ko_PL | exact ko_AI _ _ _ _ | exact ko_AL _ _ _ _ | exact ko_PI5 | exact ko_PI (by omega) | intro _)
theorem ko_St_read_j94 (l4 : Int32) (l5 : Int64) (l7 : Int32) (l8 : Int64) (l10 : Int32) : Kok true true (M_St_read_j94 l4 l5 l7 l8 l10) := by
  unfold M_St_read_j94
  repeat' with_reducible (first | apply ko_B | apply ko_C | exact ko_Ta_findEvent _ _ _ | exact ko_R _ | exact ko_AI _ _ _ _ | exact ko_AL _ _ _ _ | intro _)
theorem ko_St_read_L9 (x) : Kok true true (M_St_read_L9 x) := by
  unfold M_St_read_L9
  repeat' with_reducible (first | apply ko_B | apply ko_C | exact ko_Ta_find _ _ _ | exact ko_St_read_j94 _ _ _ _ _ | exact ko_R _ | exact ko_AI _ _ _ _ | intro _)
theorem ko_St_read (l1 : Int32) (l2 : Int64) (l4 : Int32) (l5 : Int64) : Kok true false (M_St_read l1 l2 l4 l5) := by
  unfold M_St_read
  repeat' with_reducible (first | apply ko_B | exact (ko_St_read_L9 _).wu | exact ko_Ma_fail _ | exact (ko_St_set _ _ _).wu | exact ko_Ma_callEntry _ _ _ _ _ | exact ko_R _ | exact ko_GI _ _ | exact ko_AI _ _ _ _ | exact ko_AL _ _ _ _ | apply ko_W | apply ko_E | intro _)
theorem ko_St_callsEither_j51 (l8 : Int32) : Kok true true (M_St_callsEither_j51 l8) := by
  unfold M_St_callsEither_j51
  repeat' with_reducible (first | apply ko_C | exact ko_R _ | intro _)
theorem ko_St_callsEither_j31 (l2 : Int32) (l3 : Int64) (l5 : Int32) (l6 : Int64) (l8 : Int32) : Kok true false (M_St_callsEither_j31 l2 l3 l5 l6 l8) := by
  unfold M_St_callsEither_j31
  repeat' with_reducible (first | apply ko_B | apply ko_C | exact (ko_St_callsEither_j51 _).wu | exact ko_Ma_callEntry _ _ _ _ _ | intro _)
theorem ko_St_callsEither (l1 : Int32) (l2 : Int32) (l3 : Int64) (l5 : Int32) (l6 : Int64) : Kok true false (M_St_callsEither l1 l2 l3 l5 l6) := by
  unfold M_St_callsEither
  repeat' with_reducible (first | apply ko_B | apply ko_C | exact (ko_Ta_findEvent _ _ _).wu | exact ko_St_callsEither_j31 _ _ _ _ _ | intro _)
theorem ko_St_reckoned (l1 : Int64) (l3 : Int64) : Kok true true (M_St_reckoned l1 l3) := by
  unfold M_St_reckoned
  repeat' with_reducible (first | apply ko_B | apply ko_C | exact ko_Mth_floorMod _ _ | exact ko_Mth_floorDiv _ _ | exact ko_St_shifted _ _ | exact ko_R _ | exact ko_GI _ _ | intro _)
theorem ko_Ta_border_L15 (x) : Kok true true (M_Ta_border_L15 x) := by
  unfold M_Ta_border_L15
  repeat' with_reducible (first | apply ko_B | apply ko_C | exact ko_Ta_find _ _ _ | exact ko_R _ | exact ko_GI _ _ | exact ko_AI _ _ _ _ | exact ko_PI (by omega) | intro _)
theorem ko_Ta_border_j66 (l2 : Int32) : Kok true true (M_Ta_border_j66 l2) := by
  unfold M_Ta_border_j66
  repeat' with_reducible (first | apply ko_B | exact ko_R _ | exact ko_GI _ _ | intro _)
theorem ko_Ta_border (l1 : Int32) : Kok true true (M_Ta_border l1) := by
  unfold M_Ta_border
  repeat' with_reducible (first | apply ko_B | exact ko_Ta_border_L15 _ | exact ko_Ta_border_j66 _ | exact ko_GI _ _ | exact ko_Pz _ _ _ | apply ko_W | apply ko_E | intro _)
theorem ko_St_order_j171 (l1 : Int32) (l2 : Int32) (l3 : Int64) (l5 : Int64) : Kok true false (M_St_order_j171 l1 l2 l3 l5) := by
  unfold M_St_order_j171
  repeat' with_reducible (first | apply ko_B | apply ko_C | exact ko_St_callsEither _ _ _ _ _ | exact ko_Ma_fail _ | exact ko_R _ | exact ko_GI _ _ | intro _)
theorem ko_St_gather_j37 (l1r : Nat) (l1 : Int32) (l2 : Int32) (l4 : Int32) (k0 : Int32) (h : 111 ≤ l1r ∧ l1r ≤ 143) : Kok true false (M_St_gather_j37 l1r l1 l2 l4 k0) := by
  unfold M_St_gather_j37
  refine ko_C (ko_B (ko_Ro_clear _ _ h).wu fun _ => (op_B (J := fun e => 111 ≤ e.1 ∧ e.1 ≤ 143) (K := fun _ => True) (op_W (I := fun x => 111 ≤ x.1 ∧ x.1 ≤ 143) (fun x hx => ?_) _ h) fun e he => ?_).k) (ko_B (ko_Ma_fail _) fun _ => ko_R _)
  · unfold M_St_gather_L70
    exact op_C (op_R hx) (op_B (ko_St_kindOf _).wu.p fun _ _ => op_B (ko_St_valueOf _).wu.p fun _ _ => op_B (ko_Ro_add _ _ _ _ hx).wu.p fun _ _ => op_R hx)
  · refine op_B (op_W (I := fun x => 111 ≤ x.1 ∧ x.1 ≤ 143) (J := fun _ => True) (fun x hx => ?_) _ he) fun _ _ => ((ko_B (ko_Ro_clear _ _ (by omega)).wu fun _ => ko_R _) : Kok true false _).p
    unfold M_St_gather_L102
    exact op_C (op_R trivial) (op_B (ko_AI _ _ _ _).p fun _ _ => op_B (ko_AL _ _ _ _).p fun _ _ => op_B (ko_Ro_add _ _ _ _ hx).wu.p fun _ _ => op_R hx)
theorem ko_St_gather_j17 (l1r : Nat) (l1 : Int32) (l2 : Int32) (l3 : Int32) (k0 : Int32) (h0 : 111 ≤ l1r ∧ l1r ≤ 143) : Kok true false (M_St_gather_j17 l1r l1 l2 l3 k0) := by
  unfold M_St_gather_j17
  repeat' with_reducible (first | apply ko_B | apply ko_C | exact ko_St_gather_j37 _ _ _ _ _ (by omega) | exact ko_GI _ _ | intro _)
theorem ko_St_gather (l1r : Nat) (l1 : Int32) (l2 : Int32) (l3 : Int32) (h0 : 111 ≤ l1r ∧ l1r ≤ 143) : Kok true false (M_St_gather l1r l1 l2 l3) := by
  unfold M_St_gather
  repeat' with_reducible (first | apply ko_B | apply ko_C | exact ko_St_gather_j17 _ _ _ _ _ (by omega) | exact ko_GI _ _ | intro _)
theorem ko_St_hasLoopNumbers_j42  : Kok true false (M_St_hasLoopNumbers_j42) := by
  unfold M_St_hasLoopNumbers_j42
  repeat' with_reducible (first | apply ko_B | exact ko_Ma_fail _ | exact ko_R _ | intro _)
theorem ko_St_hasLoopNumbers  : Kok true false (M_St_hasLoopNumbers) := by
  unfold M_St_hasLoopNumbers
  repeat' with_reducible (first | apply ko_B | apply ko_C | exact (ko_St_kindOf _).wu | exact ko_St_hasLoopNumbers_j42 | exact ko_R _ | exact ko_GI _ _ | intro _)
theorem ko_Ma_goOnWith (l1 : Int32) : Kok false false (M_Ma_goOnWith l1) := by
  unfold M_Ma_goOnWith
  repeat' with_reducible (first | apply ko_B | apply ko_C | exact ((ko_Ma_begin _).wc).wu | exact ((ko_Ro_takeAll _ _ _ _ (by omega) (by omega)).wc).wu | exact ko_R _ | exact ko_GI _ _ | exact ko_GL _ _ | exact ko_PL | exact ko_Pr _ _ | exact ko_PI5 | exact ko_PI4 | exact ko_PI (by omega) | intro _)
