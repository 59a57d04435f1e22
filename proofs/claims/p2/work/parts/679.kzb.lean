/-! Made by wip/l2n/zgen.py: what the class's programs leave alone. -/
theorem zk_St_set (l1 : Int32) (l2 : Int32) (l3 : Int64) : Zk 111 true (M_St_set l1 l2 l3) := by
  unfold M_St_set
  repeat' with_reducible (first | apply zk_B | exact zk_R _ | exact zk_GI _ _ | exact zk_SI (by omega) | exact zk_SL (by omega) | exact zk_Pr _ _ | intro _)
theorem zk_He_setVariable (l1 : Int32) (l2 : Int32) (l3 : Int64) : Zk 111 true (M_He_setVariable l1 l2 l3) := by
  unfold M_He_setVariable
  repeat' with_reducible (first | apply zk_B | apply zk_C | exact zk_R _ | exact zk_GI _ _ | exact zk_PL (by omega) | exact zk_SI (by omega) | exact zk_SL (by omega) | exact zk_Pz _ _ _ | exact zk_PI (by omega) | intro _)
theorem zk_St_shifted (l0 : Int64) (l2 : Int64) : Zk 111 true (M_St_shifted l0 l2) := by
  unfold M_St_shifted
  repeat' with_reducible (first | apply zk_C | exact zk_R _ | intro _)
theorem zk_St_isTrue (l1 : Int32) : Zk 111 true (M_St_isTrue l1) := by
  unfold M_St_isTrue
  repeat' with_reducible (first | apply zk_B | apply zk_C | exact zk_St_kindOf _ | exact zk_R _ | intro _)
theorem zk_St_jump  : Zk 111 true (M_St_jump) := by
  unfold M_St_jump
  repeat' with_reducible (first | apply zk_B | exact zk_R _ | exact zk_GI _ _ | exact zk_Pr _ _ | exact zk_PI (by omega) | intro _)
theorem zk_St_decide_j30 (k0 : Int32) (k1 : Int32) (k2 : Int32) : Zk 111 true (M_St_decide_j30 k0 k1 k2) := by
  unfold M_St_decide_j30
  repeat' with_reducible (first | apply zk_B | exact zk_R _ | exact zk_PI (by omega) | intro _)
theorem zk_St_decide_j22 (k0 : Int32) (k1 : Int32) (k2 : Int32) (k3 : Int32) : Zk 111 true (M_St_decide_j22 k0 k1 k2 k3) := by
  unfold M_St_decide_j22
  repeat' with_reducible (first | apply zk_C | exact zk_St_decide_j30 _ _ _ | intro _)
theorem zk_St_decide (l1 : Int32) : Zk 111 true (M_St_decide l1) := by
  unfold M_St_decide
  repeat' with_reducible (first | apply zk_B | apply zk_C | exact zk_St_decide_j22 _ _ _ _ | exact zk_GI _ _ | exact zk_Pr _ _ | intro _)
theorem zk_St_compared_L10 (x) : Zk 111 true (M_St_compared_L10 x) := by
  unfold M_St_compared_L10
  repeat' with_reducible (first | apply zk_B | apply zk_C | exact zk_R _ | exact zk_AI _ _ _ _ | exact zk_Ln _ _ | intro _)
theorem zk_St_compared (l0 : Int32) (l1 : Int32) : Zk 111 true (M_St_compared l0 l1) := by
  unfold M_St_compared
  repeat' with_reducible (first | apply zk_B | exact zk_Mth_min _ _ | exact zk_St_compared_L10 _ | exact zk_R _ | exact zk_AI _ _ _ _ | exact zk_Ln _ _ | apply zk_W | apply zk_E | intro _)
theorem zk_Co_pop (l0 : Int32) : Zk 111 true (M_Co_pop l0) := by
  unfold M_Co_pop
  repeat' with_reducible (first | apply zk_B | exact zk_R _ | exact zk_GI _ _ | exact zk_K _ | exact zk_PI (by omega) | intro _)
theorem zk_St_takeFurther_j167 (l1 : Int32) (l2 : Int32) (k0 : Int64) (k1 : Int32) (k2 : Int32) : Zk 111 true (M_St_takeFurther_j167 l1 l2 k0 k1 k2) := by
  unfold M_St_takeFurther_j167
  repeat' with_reducible (first | apply zk_B | exact zk_St_set _ _ _ | exact zk_R _ | intro _)
theorem zk_St_takeFurther_j148 (l1 : Int32) (l2 : Int32) (l3 : Int32) (k0 : Int32) (k1 : Int32) : Zk 111 true (M_St_takeFurther_j148 l1 l2 l3 k0 k1) := by
  unfold M_St_takeFurther_j148
  repeat' with_reducible (first | apply zk_B | apply zk_C | exact zk_St_takeFurther_j167 _ _ _ _ _ | exact zk_GI _ _ | exact zk_AL _ _ _ _ | exact zk_Pr _ _ | intro _)
theorem zk_St_takeFurther_j121 (l1 : Int32) (l2 : Int32) (k0 : Int32) : Zk 111 true (M_St_takeFurther_j121 l1 l2 k0) := by
  unfold M_St_takeFurther_j121
  repeat' with_reducible (first | apply zk_B | apply zk_C | exact zk_St_takeFurther_j148 _ _ _ _ _ | exact zk_GI _ _ | exact zk_AI _ _ _ _ | exact zk_Pr _ _ | intro _)
theorem zk_St_takeFurther_L95 (x) : Zk 111 true (M_St_takeFurther_L95 x) := by
  unfold M_St_takeFurther_L95
  repeat' with_reducible (first | apply zk_B | apply zk_C | exact zk_St_takeFurther_j121 _ _ _ | exact zk_R _ | exact zk_GI _ _ | exact zk_Pr _ _ | intro _)
theorem zk_St_takeFurther_L43 (x) : Zk 111 true (M_St_takeFurther_L43 x) := by
  unfold M_St_takeFurther_L43
  repeat' with_reducible (first | apply zk_B | apply zk_C | exact zk_Ro_add _ _ _ _ (by omega) | exact zk_R _ | exact zk_GI _ _ | exact zk_AI _ _ _ _ | exact zk_AL _ _ _ _ | exact zk_Pr _ _ | intro _)
theorem zk_St_takeFurther  : Zk 111 true (M_St_takeFurther) := by
  unfold M_St_takeFurther
  repeat' with_reducible (first | apply zk_B | apply zk_C | exact zk_Ro_clear _ _ (by omega) | exact zk_St_takeFurther_L43 _ | exact zk_St_takeFurther_L95 _ | exact zk_R _ | exact zk_GI _ _ | exact zk_Pr _ _ | apply zk_L | apply zk_W | exact zk_PI (by omega) | intro _)
theorem zk_Ro_addFirst (l0r : Nat) (l0 : Int32) (l1 : Int32) (l2 : Int64) (h0 : 111 ≤ l0r) : Zk 111 true (M_Ro_addFirst l0r l0 l1 l2) := by
  unfold M_Ro_addFirst
  repeat' with_reducible (first | apply zk_B | apply zk_C | exact zk_R _ | exact zk_GI _ _ | exact zk_SI (by omega) | exact zk_SL (by omega) | exact zk_CI (by omega) | exact zk_CL (by omega) | exact zk_PI (by omega) | intro _)
theorem zk_Ma_coroutineOf (l1 : Int32) : Zk 111 true (M_Ma_coroutineOf l1) := by
  unfold M_Ma_coroutineOf
  repeat' with_reducible (first | apply zk_B | exact zk_R _ | exact zk_GI _ _ | exact zk_Pz _ _ _ | intro _)
theorem zk_Ro_takeAll (l0r : Nat) (l0 : Int32) (l1r : Nat) (l1 : Int32) (h0 : 111 ≤ l0r) (h2 : 111 ≤ l1r) : Zk 111 true (M_Ro_takeAll l0r l0 l1r l1) := by
  unfold M_Ro_takeAll
  repeat' with_reducible (first | apply zk_B | exact zk_R _ | exact zk_GI _ _ | exact zk_CI (by omega) | exact zk_CL (by omega) | exact zk_PI (by omega) | intro _)
theorem zk_Bu_printByte (l1 : Int32) : Zk 111 false (M_Bu_printByte l1) := by
  unfold M_Bu_printByte
  repeat' with_reducible (first | apply zk_B | apply zk_C | exact zk_R _ | exact zk_GI _ _ | exact zk_SI (by omega) | exact zk_PIw (by omega) | exact zk_PI (by omega) | intro _)
theorem zk_Bu_printBytes (l1r : Nat) (l1 : Int32) (l2 : Int32) : Zk 111 false (M_Bu_printBytes l1r l1 l2) := by
  unfold M_Bu_printBytes
  repeat' with_reducible (first | apply zk_B | exact (zk_Mth_min _ _).wb _ | exact zk_R _ | exact zk_GI _ _ | exact zk_Ln _ _ | exact zk_CI (by omega) | exact zk_PIw (by omega) | exact zk_PI (by omega) | intro _)
theorem zk_He_numberOf (l1 : Int64) : Zk 111 true (M_He_numberOf l1) := by
  unfold M_He_numberOf
  repeat' with_reducible (first | apply zk_B | apply zk_C | exact zk_R _ | exact zk_GI _ _ | exact zk_Pz _ _ _ | intro _)
theorem zk_Ro_kindAt (l0r : Nat) (l0 : Int32) (l1 : Int32) : Zk 111 true (M_Ro_kindAt l0r l0 l1) := by
  unfold M_Ro_kindAt
  repeat' with_reducible (first | apply zk_B | apply zk_C | exact zk_R _ | exact zk_GI _ _ | exact zk_AI _ _ _ _ | intro _)
theorem zk_Ro_valueAt (l0r : Nat) (l0 : Int32) (l1 : Int32) : Zk 111 true (M_Ro_valueAt l0r l0 l1) := by
  unfold M_Ro_valueAt
  repeat' with_reducible (first | apply zk_B | apply zk_C | exact zk_R _ | exact zk_GI _ _ | exact zk_AL _ _ _ _ | intro _)
theorem zk_Bu_typeOf (l0 : Int32) : Zk 111 true (M_Bu_typeOf l0) := by
  unfold M_Bu_typeOf
  repeat' with_reducible (first | apply zk_C | exact zk_R _ | intro _)
theorem zk_Ro_dropFirst (l0r : Nat) (l0 : Int32) (l1 : Int32) (h0 : 111 ≤ l0r) : Zk 111 true (M_Ro_dropFirst l0r l0 l1) := by
  unfold M_Ro_dropFirst
  repeat' with_reducible (first | apply zk_B | exact zk_Mth_max _ _ | exact zk_R _ | exact zk_GI _ _ | exact zk_CI (by omega) | exact zk_CL (by omega) | exact zk_PI (by omega) | intro _)
theorem zk_Bu_addEntry_j38 (k0 : Int64) (k1 : Int32) : Zk 111 true (M_Bu_addEntry_j38 k0 k1) := by
  unfold M_Bu_addEntry_j38
  repeat' with_reducible (first | apply zk_B | exact zk_Ro_add _ _ _ _ (by omega) | exact zk_R _ | intro _)
theorem zk_Bu_addEntry_j21 (l1 : Int32) (k0 : Int32) : Zk 111 true (M_Bu_addEntry_j21 l1 k0) := by
  unfold M_Bu_addEntry_j21
  repeat' with_reducible (first | apply zk_B | apply zk_C | exact zk_Bu_addEntry_j38 _ _ | exact zk_AL _ _ _ _ | intro _)
theorem zk_Bu_addEntry (l1 : Int32) : Zk 111 true (M_Bu_addEntry l1) := by
  unfold M_Bu_addEntry
  repeat' with_reducible (first | apply zk_B | apply zk_C | exact zk_Bu_addEntry_j21 _ _ | exact zk_AI _ _ _ _ | intro _)
theorem zk_Bu_bytesOfFirst  : Zk 111 true (M_Bu_bytesOfFirst) := by
  unfold M_Bu_bytesOfFirst
  repeat' with_reducible (first | apply zk_B | exact zk_Ro_valueAt _ _ _ | exact zk_R _ | exact zk_GI _ _ | exact zk_K _ | exact zk_Pz _ _ _ | intro _)
theorem zk_Bu_addTruth_j13 (k0 : Int32) : Zk 111 true (M_Bu_addTruth_j13 k0) := by
  unfold M_Bu_addTruth_j13
  repeat' with_reducible (first | apply zk_B | exact zk_Ro_add _ _ _ _ (by omega) | exact zk_R _ | intro _)
theorem zk_Bu_addTruth (l1 : Int32) : Zk 111 true (M_Bu_addTruth l1) := by
  unfold M_Bu_addTruth
  repeat' with_reducible (first | apply zk_C | exact zk_Bu_addTruth_j13 _ | intro _)
theorem zk_Bu_isNumberSign_j37  : Zk 111 true (M_Bu_isNumberSign_j37) := by
  unfold M_Bu_isNumberSign_j37
  repeat' with_reducible (first | exact zk_R _ | intro _)
theorem zk_Bu_isNumberSign  : Zk 111 true (M_Bu_isNumberSign) := by
  unfold M_Bu_isNumberSign
  repeat' with_reducible (first | apply zk_B | apply zk_C | exact zk_Ro_kindAt _ _ _ | exact zk_Bu_bytesOfFirst | exact zk_Bu_isNumberSign_j37 | exact zk_R _ | exact zk_AI _ _ _ _ | exact zk_Pr _ _ | exact zk_Ln _ _ | intro _)
theorem zk_Bu_fromFront (l0 : Int64) (l2 : Int32) : Zk 111 true (M_Bu_fromFront l0 l2) := by
  unfold M_Bu_fromFront
  repeat' with_reducible (first | apply zk_C | exact zk_R _ | intro _)
theorem zk_Ma_backToResumer (l1 : Int32) : Zk 111 true (M_Ma_backToResumer l1) := by
  unfold M_Ma_backToResumer
  repeat' with_reducible (first | apply zk_B | exact zk_Co_top _ | exact zk_Co_pop _ | exact zk_R _ | exact zk_GI _ _ | exact zk_Pr _ _ | exact zk_Pz _ _ _ | exact zk_PI (by omega) | intro _)
theorem zk_Bu_tellRunning_j39 (k0 : Int32) : Zk 111 true (M_Bu_tellRunning_j39 k0) := by
  unfold M_Bu_tellRunning_j39
  repeat' with_reducible (first | apply zk_B | exact zk_Bu_addTruth _ | exact zk_R _ | intro _)
theorem zk_Bu_tellRunning  : Zk 111 true (M_Bu_tellRunning) := by
  unfold M_Bu_tellRunning
  repeat' with_reducible (first | apply zk_B | apply zk_C | exact zk_Ro_add _ _ _ _ (by omega) | exact zk_Bu_tellRunning_j39 _ | exact zk_GI _ _ | exact zk_Pr _ _ | intro _)
theorem zk_Ma_give (l1 : Int32) (l2 : Int64) : Zk 111 true (M_Ma_give l1 l2) := by
  unfold M_Ma_give
  repeat' with_reducible (first | apply zk_B | exact zk_Ro_clear _ _ (by omega) | exact zk_Ro_add _ _ _ _ (by omega) | exact zk_R _ | exact zk_PI (by omega) | intro _)
theorem zk_St_setAll_L2 (x) : Zk 111 true (M_St_setAll_L2 x) := by
  unfold M_St_setAll_L2
  repeat' with_reducible (first | apply zk_B | apply zk_C | exact zk_Ro_kindAt _ _ _ | exact zk_Ro_valueAt _ _ _ | exact zk_St_set _ _ _ | exact zk_R _ | intro _)
theorem zk_St_setAll (l1 : Int32) (l2 : Int32) : Zk 111 true (M_St_setAll l1 l2) := by
  unfold M_St_setAll
  repeat' with_reducible (first | apply zk_B | exact zk_St_setAll_L2 _ | exact zk_R _ | apply zk_W | intro _)
theorem zk_St_isText_j10  : Zk 111 true (M_St_isText_j10) := by
  unfold M_St_isText_j10
  repeat' with_reducible (first | exact zk_R _ | intro _)
theorem zk_St_isText (l0 : Int32) : Zk 111 true (M_St_isText l0) := by
  unfold M_St_isText
  repeat' with_reducible (first | apply zk_C | exact zk_St_isText_j10 | exact zk_R _ | intro _)
theorem zk_St_forgetJoined  : Zk 111 true (M_St_forgetJoined) := by
  unfold M_St_forgetJoined
  repeat' with_reducible (first | apply zk_B | exact zk_R _ | exact zk_GI _ _ | exact zk_PL (by omega) | exact zk_Pr _ _ | exact zk_PI (by omega) | intro _)
theorem zk_Ma_empty (l1 : Int32) : Zk 111 true (M_Ma_empty l1) := by
  unfold M_Ma_empty
  repeat' with_reducible (first | apply zk_B | exact zk_He_closeFrom _ _ | exact zk_R _ | exact zk_PI (by omega) | intro _)
theorem zk_Ma_endWithError  : Zk 111 true (M_Ma_endWithError) := by
  unfold M_Ma_endWithError
  repeat' with_reducible (first | apply zk_B | exact zk_Ro_clear _ _ (by omega) | exact zk_Ro_add _ _ _ _ (by omega) | exact zk_R _ | exact zk_GI _ _ | exact zk_GL _ _ | exact zk_Pr _ _ | exact zk_PI (by omega) | intro _)
theorem zk_Ma_giveError  : Zk 111 true (M_Ma_giveError) := by
  unfold M_Ma_giveError
  repeat' with_reducible (first | apply zk_B | exact zk_Ma_give _ _ | exact zk_Ro_add _ _ _ _ (by omega) | exact zk_R _ | exact zk_GI _ _ | exact zk_GL _ _ | intro _)
theorem zk_LM_hasNoResult_j25  : Zk 111 true (M_LM_hasNoResult_j25) := by
  unfold M_LM_hasNoResult_j25
  repeat' with_reducible (first | exact zk_R _ | intro _)
theorem zk_LM_hasNoResult (l1 : Int32) : Zk 111 true (M_LM_hasNoResult l1) := by
  unfold M_LM_hasNoResult
  repeat' with_reducible (first | apply zk_B | apply zk_C | exact zk_LM_hasNoResult_j25 | exact zk_R _ | exact zk_GI _ _ | intro _)
theorem zk_LM_value (l1 : Int32) : Zk 111 true (M_LM_value l1) := by
  unfold M_LM_value
  repeat' with_reducible (first | apply zk_B | apply zk_C | exact zk_LM_hasNoResult _ | exact zk_He_numberOf _ | exact zk_R _ | exact zk_GI _ _ | exact zk_AI _ _ _ _ | exact zk_AL _ _ _ _ | exact zk_K _ | exact zk_Pz _ _ _ | exact zk_Ln _ _ | exact zk_F | intro _)
theorem zk_LM_byteOf (l1 : Int32) (l2 : Int32) : Zk 111 true (M_LM_byteOf l1 l2) := by
  unfold M_LM_byteOf
  repeat' with_reducible (first | apply zk_B | apply zk_C | exact zk_LM_hasNoResult _ | exact zk_R _ | exact zk_GI _ _ | exact zk_AI _ _ _ _ | exact zk_AL _ _ _ _ | exact zk_K _ | exact zk_Pz _ _ _ | exact zk_Ln _ _ | exact zk_F | intro _)
theorem zk_LM_output (l1 : Int32) : Zk 111 true (M_LM_output l1) := by
  unfold M_LM_output
  repeat' with_reducible (first | apply zk_B | apply zk_C | exact zk_R _ | exact zk_GI _ _ | exact zk_AI _ _ _ _ | exact zk_F | intro _)
theorem zk_LM_feed (l1 : Int32) (l2 : Int32) (l3 : Int32) (l4 : Int32) (l5 : Int32) : Zk 100 true (M_LM_feed l1 l2 l3 l4 l5) := by
  unfold M_LM_feed
  repeat' with_reducible (first | apply zk_B | apply zk_C | exact zk_LM_putOnTape _ | exact zk_R _ | exact zk_GI _ _ | exact zk_F | intro _)
theorem zk_Ch_readHead_j68  : Zk 100 true (M_Ch_readHead_j68) := by
  unfold M_Ch_readHead_j68
  repeat' with_reducible (first | apply zk_B | exact zk_Ch_refuse _ _ | exact zk_R _ | exact zk_GI _ _ | exact zk_K _ | intro _)
theorem zk_Ch_readHead_j127  : Zk 100 true (M_Ch_readHead_j127) := by
  unfold M_Ch_readHead_j127
  repeat' with_reducible (first | apply zk_B | exact zk_Ch_refuse _ _ | exact zk_R _ | exact zk_GI _ _ | exact zk_K _ | intro _)
theorem zk_Ch_readHead_j178  : Zk 100 true (M_Ch_readHead_j178) := by
  unfold M_Ch_readHead_j178
  repeat' with_reducible (first | apply zk_B | exact zk_Ch_refuse _ _ | exact zk_R _ | exact zk_GI _ _ | exact zk_K _ | intro _)
theorem zk_Ch_readHead_j80 (l1 : Int32) (l2 : Int32) : Zk 100 true (M_Ch_readHead_j80 l1 l2) := by
  unfold M_Ch_readHead_j80
  repeat' with_reducible (first | apply zk_B | apply zk_C | exact zk_Ch_readNumber _ | exact zk_Ch_readHead_j127 | exact zk_Ch_readHead_j178 | exact zk_R _ | exact zk_GI _ _ | exact zk_PI (by omega) | intro _)
theorem zk_Ch_readHead_j12 (l1 : Int32) (k0 : Int32) : Zk 100 true (M_Ch_readHead_j12 l1 k0) := by
  unfold M_Ch_readHead_j12
  repeat' with_reducible (first | apply zk_B | apply zk_C | exact zk_Ch_readNumber _ | exact zk_Ch_readHead_j68 | exact zk_Ch_readHead_j80 _ _ | exact zk_R _ | exact zk_GI _ _ | exact zk_PI (by omega) | intro _)
theorem zk_Ch_readHead (l1 : Int32) : Zk 100 true (M_Ch_readHead l1) := by
  unfold M_Ch_readHead
  repeat' with_reducible (first | apply zk_B | apply zk_C | exact zk_Ch_readHead_j12 _ _ | exact zk_GI _ _ | intro _)
theorem zk_Ch_readUpvalues_j127 (l1 : Int32) (l2 : Int32) (k0 : Int32) (k1 : Int32) : Zk 100 true (M_Ch_readUpvalues_j127 l1 l2 k0 k1) := by
  unfold M_Ch_readUpvalues_j127
  repeat' with_reducible (first | apply zk_B | exact zk_R _ | exact zk_GI _ _ | exact zk_SI (by omega) | exact zk_PI (by omega) | intro _)
theorem zk_Ch_readUpvalues_j105 (l1 : Int32) (l2 : Int32) (l3 : Int32) (l4 : Int32) : Zk 100 true (M_Ch_readUpvalues_j105 l1 l2 l3 l4) := by
  unfold M_Ch_readUpvalues_j105
  repeat' with_reducible (first | apply zk_B | apply zk_C | exact zk_Ch_readUpvalues_j127 _ _ _ _ | exact zk_GI _ _ | intro _)
theorem zk_Ch_readUpvalues_j54 (l1 : Int32) (l2 : Int32) (l3 : Int32) : Zk 100 true (M_Ch_readUpvalues_j54 l1 l2 l3) := by
  unfold M_Ch_readUpvalues_j54
  repeat' with_reducible (first | apply zk_B | apply zk_C | exact zk_Ch_readNumber _ | exact zk_Ch_readUpvalues_j105 _ _ _ _ | exact (zk_Ch_mostOf _ _).wz | exact zk_R _ | exact zk_GI _ _ | exact zk_Pz _ _ _ | intro _)
theorem zk_Ch_readUpvalues_L10 (x) : Zk 100 true (M_Ch_readUpvalues_L10 x) := by
  unfold M_Ch_readUpvalues_L10
  repeat' with_reducible (first | apply zk_B | apply zk_C | exact zk_Ch_readNumber _ | exact zk_Ch_readUpvalues_j54 _ _ _ | exact zk_R _ | exact zk_GI _ _ | intro _)
theorem zk_Ch_readUpvalues (l1 : Int32) : Zk 100 true (M_Ch_readUpvalues l1) := by
  unfold M_Ch_readUpvalues
  repeat' with_reducible (first | apply zk_B | exact zk_Ch_readUpvalues_L10 _ | exact zk_Ch_refuse _ _ | exact zk_R _ | exact zk_GI _ _ | exact zk_K _ | apply zk_W | exact zk_PI (by omega) | apply zk_E | intro _)
theorem zk_Ch_readConstants_L28 (x) : Zk 100 true (M_Ch_readConstants_L28 x) := by
  unfold M_Ch_readConstants_L28
  repeat' with_reducible (first | apply zk_B | apply zk_C | exact zk_Ch_readNumber _ | exact zk_Ch_readConstant _ | exact zk_R _ | exact zk_GI _ _ | intro _)
theorem zk_Ch_readConstants (l1 : Int32) : Zk 100 true (M_Ch_readConstants l1) := by
  unfold M_Ch_readConstants
  repeat' with_reducible (first | apply zk_B | apply zk_C | exact zk_Ch_readNumber _ | exact zk_Ch_readConstants_L28 _ | exact zk_Ch_refuse _ _ | exact zk_R _ | exact zk_GI _ _ | exact zk_K _ | apply zk_W | exact zk_PI (by omega) | apply zk_E | intro _)
theorem zk_Ch_namesWhatIsThere (l0 : Int32) (l1 : Int32) : Zk 111 true (M_Ch_namesWhatIsThere l0 l1) := by
  unfold M_Ch_namesWhatIsThere
  repeat' with_reducible (first | apply zk_B | apply zk_C | exact zk_Ch_isThere _ _ _ | exact zk_Ch_lastOfRow _ _ _ _ | exact zk_R _ | exact zk_GI _ _ | exact zk_K _ | apply zk_L | intro _)
theorem zk_Ch_mayBeReached_j33  : Zk 111 true (M_Ch_mayBeReached_j33) := by
  unfold M_Ch_mayBeReached_j33
  repeat' with_reducible (first | exact zk_R _ | intro _)
theorem zk_Ch_mayBeReached (l1 : Int32) (l2 : Int32) : Zk 111 true (M_Ch_mayBeReached l1 l2) := by
  unfold M_Ch_mayBeReached
  repeat' with_reducible (first | apply zk_B | apply zk_C | exact zk_Ch_mayBeReached_j33 | exact zk_Ch_usesOpenRow _ | exact zk_R _ | exact zk_GI _ _ | exact zk_AI _ _ _ _ | intro _)
theorem zk_Ch_keepsOpenRows_j108  : Zk 111 true (M_Ch_keepsOpenRows_j108) := by
  unfold M_Ch_keepsOpenRows_j108
  repeat' with_reducible (first | exact zk_R _ | intro _)
theorem zk_Ch_keepsOpenRows_j80 (l3 : Int32) (l4 : Int32) (k0 : Int32) (k1 : Int32) : Zk 111 true (M_Ch_keepsOpenRows_j80 l3 l4 k0 k1) := by
  unfold M_Ch_keepsOpenRows_j80
  repeat' with_reducible (first | apply zk_B | apply zk_C | exact zk_Ch_usesOpenRow _ | exact zk_Ch_keepsOpenRows_j108 | exact zk_R _ | apply zk_L | intro _)
theorem zk_Ch_keepsOpenRows_j32 (l1 : Int32) (l2 : Int32) (l3 : Int32) : Zk 111 true (M_Ch_keepsOpenRows_j32 l1 l2 l3) := by
  unfold M_Ch_keepsOpenRows_j32
  repeat' with_reducible (first | apply zk_B | apply zk_C | exact zk_Ch_opensRow _ | exact zk_Ch_keepsOpenRows_j80 _ _ _ _ | exact zk_R _ | exact zk_GI _ _ | exact zk_AI _ _ _ _ | intro _)
theorem zk_Ch_keepsOpenRows (l1 : Int32) (l2 : Int32) (l3 : Int32) : Zk 111 true (M_Ch_keepsOpenRows l1 l2 l3) := by
  unfold M_Ch_keepsOpenRows
  repeat' with_reducible (first | apply zk_B | apply zk_C | exact zk_Ch_usesOpenRow _ | exact zk_Ch_keepsOpenRows_j32 _ _ _ | exact zk_Ch_opensRow _ | exact zk_R _ | exact zk_GI _ _ | exact zk_AI _ _ _ _ | intro _)
theorem zk_He_sweep_j148 (l1 : Int32) : Zk 111 true (M_He_sweep_j148 l1) := by
  unfold M_He_sweep_j148
  repeat' with_reducible (first | exact zk_R _ | intro _)
theorem zk_He_sweep_j113 (l1 : Int32) (l2 : Int32) : Zk 111 true (M_He_sweep_j113 l1 l2) := by
  unfold M_He_sweep_j113
  repeat' with_reducible (first | apply zk_B | exact zk_He_sweep_j148 _ | exact zk_GI _ _ | exact zk_AI _ _ _ _ | exact zk_SI (by omega) | exact zk_PI (by omega) | intro _)
theorem zk_He_sweep_L2 (x) : Zk 111 true (M_He_sweep_L2 x) := by
  unfold M_He_sweep_L2
  repeat' with_reducible (first | apply zk_B | apply zk_C | exact zk_He_sweep_j148 _ | exact zk_He_dropFromBucket _ | exact zk_He_sweep_j113 _ _ | exact zk_Ta_release _ | exact zk_He_closeFrom _ _ | exact zk_R _ | exact zk_GI _ _ | exact zk_AI _ _ _ _ | exact zk_SI (by omega) | exact zk_Pz _ _ _ | exact zk_PI (by omega) | intro _)
theorem zk_He_sweep  : Zk 111 true (M_He_sweep) := by
  unfold M_He_sweep
  repeat' with_reducible (first | apply zk_B | exact zk_He_sweep_L2 _ | exact zk_R _ | apply zk_W | intro _)
theorem zk_Ta_find_j98 (l2 : Int32) (l3 : Int64) (l5 : Int32) (l7 : Int32) (l8 : Int32) : Zk 111 true (M_Ta_find_j98 l2 l3 l5 l7 l8) := by
  unfold M_Ta_find_j98
  repeat' with_reducible (first | apply zk_B | exact zk_R _ | exact zk_AI _ _ _ _ | intro _)
theorem zk_Ta_find_L47 (x) : Zk 111 true (M_Ta_find_L47 x) := by
  unfold M_Ta_find_L47
  repeat' with_reducible (first | apply zk_B | apply zk_C | exact zk_Ta_find_j98 _ _ _ _ _ | exact zk_R _ | exact zk_GI _ _ | exact zk_AI _ _ _ _ | exact zk_AL _ _ _ _ | apply zk_L | intro _)
theorem zk_Ta_find (l1 : Int32) (l2 : Int32) (l3 : Int64) : Zk 111 true (M_Ta_find l1 l2 l3) := by
  unfold M_Ta_find
  repeat' with_reducible (first | apply zk_B | apply zk_C | exact zk_Ta_spread _ _ _ | exact zk_Ta_find_L47 _ | exact zk_R _ | exact zk_GI _ _ | exact zk_AI _ _ _ _ | exact zk_Pz _ _ _ | apply zk_W | apply zk_E | intro _)
theorem zk_Ta_dropDead_j94 (l1 : Int32) (l2 : Int32) (l4 : Int32) : Zk 111 true (M_Ta_dropDead_j94 l1 l2 l4) := by
  unfold M_Ta_dropDead_j94
  repeat' with_reducible (first | exact zk_R _ | intro _)
theorem zk_Ta_dropDead_L36 (x) : Zk 111 true (M_Ta_dropDead_L36 x) := by
  unfold M_Ta_dropDead_L36
  repeat' with_reducible (first | apply zk_B | apply zk_C | exact zk_Ta_dropDead_j94 _ _ _ | exact zk_Ta_append _ _ _ _ _ | exact zk_R _ | exact zk_GI _ _ | exact zk_AI _ _ _ _ | exact zk_AL _ _ _ _ | apply zk_L | intro _)
theorem zk_Ta_dropDead (l1 : Int32) : Zk 111 true (M_Ta_dropDead l1) := by
  unfold M_Ta_dropDead
  repeat' with_reducible (first | apply zk_B | exact zk_Arr_fill_____ _ _ _ _ _ (by omega) | exact zk_Ta_dropDead_L36 _ | exact zk_R _ | exact zk_GI _ _ | apply zk_L | apply zk_W | exact zk_PI (by omega) | intro _)
theorem zk_Ta_moveTo_L116 (x) : Zk 111 true (M_Ta_moveTo_L116 x) := by
  unfold M_Ta_moveTo_L116
  repeat' with_reducible (first | apply zk_B | apply zk_C | exact zk_Ta_append _ _ _ _ _ | exact zk_R _ | exact zk_AI _ _ _ _ | exact zk_AL _ _ _ _ | intro _)
theorem zk_Ta_moveTo_j56 (l1 : Int32) (l2 : Int32) (l3 : Int32) (l4 : Int32) (l5 : Int32) : Zk 111 true (M_Ta_moveTo_j56 l1 l2 l3 l4 l5) := by
  unfold M_Ta_moveTo_j56
  repeat' with_reducible (first | apply zk_B | exact zk_Arr_fill_____ _ _ _ _ _ (by omega) | exact zk_Ta_moveTo_L116 _ | exact zk_R _ | exact zk_GI _ _ | exact zk_SI (by omega) | apply zk_W | exact zk_PI (by omega) | intro _)
theorem zk_Ta_moveTo_j15 (l1 : Int32) (l2 : Int32) : Zk 111 true (M_Ta_moveTo_j15 l1 l2) := by
  unfold M_Ta_moveTo_j15
  repeat' with_reducible (first | apply zk_B | apply zk_C | exact zk_Ta_moveTo_j56 _ _ _ _ _ | exact zk_GI _ _ | exact zk_SI (by omega) | exact zk_Pz _ _ _ | intro _)
theorem zk_Ta_moveTo (l1 : Int32) (l2 : Int32) : Zk 111 true (M_Ta_moveTo l1 l2) := by
  unfold M_Ta_moveTo
  repeat' with_reducible (first | apply zk_B | apply zk_C | exact zk_Ta_moveTo_j15 _ _ | exact zk_Ta_closeUp | exact zk_GI _ _ | intro _)
theorem zk_Ma_fail_j19 (k0 : Int32) : Zk 111 true (M_Ma_fail_j19 k0) := by
  unfold M_Ma_fail_j19
  repeat' with_reducible (first | apply zk_B | exact zk_R _ | exact zk_K _ | exact zk_PI (by omega) | intro _)
theorem zk_Ma_fail (l1 : Int32) : Zk 111 true (M_Ma_fail l1) := by
  unfold M_Ma_fail
  repeat' with_reducible (first | apply zk_B | apply zk_C | exact zk_Ma_raise _ _ | exact zk_Ma_fail_j19 _ | intro _)
