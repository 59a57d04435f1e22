/-! Made by wip/l2n/zgen2.py: programs that leave the frames alone. -/
theorem ko_Bu_addMade (l1 : Int32) (l2 : Int32) : Kok true false (M_Bu_addMade l1 l2) := by
  unfold M_Bu_addMade
  repeat' with_reducible (first | apply ko_B | apply ko_C | exact (ko_Ro_add _ _ _ _ (by omega)).wu | exact ko_Ma_fail _ | exact ko_R _ | intro _)
theorem ko_Bu_hasTable_j20  : Kok true true (M_Bu_hasTable_j20) := by
  unfold M_Bu_hasTable_j20
  repeat' with_reducible (first | apply ko_B | apply ko_C | exact ko_Ro_kindAt _ _ _ | exact ko_R _ | intro _)
theorem ko_Bu_hasTable  : Kok true false (M_Bu_hasTable) := by
  unfold M_Bu_hasTable
  repeat' with_reducible (first | apply ko_B | apply ko_C | exact (ko_Ro_kindAt _ _ _).wu | exact (ko_Bu_hasTable_j20).wu | exact ko_Ma_fail _ | intro _)
theorem ko_Bu_getMetatable_j62 (l1 : Int32) (k0 : Int32) : Kok true true (M_Bu_getMetatable_j62 l1 k0) := by
  unfold M_Bu_getMetatable_j62
  repeat' with_reducible (first | apply ko_B | apply ko_C | exact ko_Ro_add _ _ _ _ (by omega) | exact ko_Bu_addEntry _ | exact ko_R _ | intro _)
theorem ko_Bu_getMetatable  : Kok true true (M_Bu_getMetatable) := by
  unfold M_Bu_getMetatable
  repeat' with_reducible (first | apply ko_B | apply ko_C | exact ko_Ro_kindAt _ _ _ | exact ko_Ro_valueAt _ _ _ | exact ko_Ta_findEvent _ _ _ | exact ko_Bu_getMetatable_j62 _ _ | exact ko_GI _ _ | exact ko_Pz _ _ _ | intro _)
theorem ko_Bu_readRaw  : Kok true false (M_Bu_readRaw) := by
  unfold M_Bu_readRaw
  repeat' with_reducible (first | apply ko_B | apply ko_C | exact ko_Bu_hasTable | exact (ko_Ro_valueAt _ _ _).wu | exact (ko_Ro_kindAt _ _ _).wu | exact (ko_Ta_find _ _ _).wu | exact (ko_Bu_addEntry _).wu | exact ko_R _ | intro _)
theorem ko_Bu_measureRaw  : Kok true false (M_Bu_measureRaw) := by
  unfold M_Bu_measureRaw
  repeat' with_reducible (first | apply ko_B | apply ko_C | exact (ko_Ro_kindAt _ _ _).wu | exact (ko_Bu_bytesOfFirst).wu | exact (ko_Ro_add _ _ _ _ (by omega)).wu | exact ko_Bu_hasTable | exact (ko_Ro_valueAt _ _ _).wu | exact (ko_Ta_border _).wu | exact ko_R _ | exact ko_Pr _ _ | exact ko_Ln _ _ | intro _)
theorem ko_Bu_compareRaw_j45 (k0 : Int32) : Kok true true (M_Bu_compareRaw_j45 k0) := by
  unfold M_Bu_compareRaw_j45
  repeat' with_reducible (first | apply ko_B | exact ko_Bu_addTruth _ | exact ko_R _ | intro _)
theorem ko_Bu_compareRaw_j44  : Kok true true (M_Bu_compareRaw_j44) := by
  unfold M_Bu_compareRaw_j44
  repeat' with_reducible (first | exact ko_Bu_compareRaw_j45 _ | intro _)
theorem ko_Bu_compareRaw  : Kok true true (M_Bu_compareRaw) := by
  unfold M_Bu_compareRaw
  repeat' with_reducible (first | apply ko_B | apply ko_C | exact ko_Ro_kindAt _ _ _ | exact ko_Ro_valueAt _ _ _ | exact ko_Bu_compareRaw_j45 _ | exact ko_Bu_compareRaw_j44 | intro _)
theorem ko_Bu_next_L93 (x) : Kok true true (M_Bu_next_L93 x) := by
  unfold M_Bu_next_L93
  repeat' with_reducible (first | apply ko_B | apply ko_C | exact ko_R _ | exact ko_GI _ _ | exact ko_AI _ _ _ _ | intro _)
theorem ko_Bu_next_j90 (l2 : Int32) (l3 : Int32) : Kok true true (M_Bu_next_j90 l2 l3) := by
  unfold M_Bu_next_j90
  repeat' with_reducible (first | apply ko_B | exact ko_Bu_next_L93 _ | exact ko_Ro_add _ _ _ _ (by omega) | exact ko_Bu_addEntry _ | exact ko_R _ | exact ko_AI _ _ _ _ | exact ko_AL _ _ _ _ | apply ko_W | apply ko_E | intro _)
theorem ko_Bu_next  : Kok true false (M_Bu_next) := by
  unfold M_Bu_next
  repeat' with_reducible (first | apply ko_B | apply ko_C | exact ko_Bu_hasTable | exact (ko_Ro_valueAt _ _ _).wu | exact (ko_Ro_kindAt _ _ _).wu | exact (ko_Bu_next_j90 _ _).wu | exact (ko_Ta_find _ _ _).wu | exact ko_Ma_fail _ | exact ko_R _ | exact ko_GI _ _ | exact ko_Pz _ _ _ | apply ko_L | intro _)
theorem ko_Bu_select_j55  : Kok true false (M_Bu_select_j55) := by
  unfold M_Bu_select_j55
  repeat' with_reducible (first | apply ko_B | exact ko_Ma_fail _ | exact ko_R _ | intro _)
theorem ko_Bu_select  : Kok true false (M_Bu_select) := by
  unfold M_Bu_select
  repeat' with_reducible (first | apply ko_B | apply ko_C | exact (ko_Ro_valueAt _ _ _).wu | exact (ko_Bu_isNumberSign).wu | exact (ko_Ro_kindAt _ _ _).wu | exact (ko_Mth_min_ _ _).wu | exact (ko_Ro_dropFirst _ _ _ (by omega)).wu | exact (ko_Ro_takeAll _ _ _ _ (by omega) (by omega)).wu | exact ko_Bu_select_j55 | exact (ko_Ro_add _ _ _ _ (by omega)).wu | exact ko_R _ | exact ko_GI _ _ | intro _)
theorem ko_Bu_hasString_j57 (l1 : Int32) (l3 : Int32) (k0 : Int32) : Kok true true (M_Bu_hasString_j57 l1 l3 k0) := by
  unfold M_Bu_hasString_j57
  repeat' with_reducible (first | exact ko_R _ | intro _)
theorem ko_Bu_hasString_j56 (l1 : Int32) (l3 : Int32) : Kok true true (M_Bu_hasString_j56 l1 l3) := by
  unfold M_Bu_hasString_j56
  repeat' with_reducible (first | exact ko_Bu_hasString_j57 _ _ _ | intro _)
theorem ko_Bu_hasString_j52 (l1 : Int32) (l3 : Int32) : Kok true true (M_Bu_hasString_j52 l1 l3) := by
  unfold M_Bu_hasString_j52
  repeat' with_reducible (first | exact ko_Bu_hasString_j57 _ _ _ | intro _)
theorem ko_Bu_hasString_L20 (x) : Kok true true (M_Bu_hasString_L20 x) := by
  unfold M_Bu_hasString_L20
  repeat' with_reducible (first | apply ko_B | apply ko_C | exact ko_Bu_hasString_j56 _ _ | exact ko_Ro_kindAt _ _ _ | exact ko_Bu_hasString_j52 _ _ | exact ko_R _ | intro _)
theorem ko_Bu_hasString_j17 (l1 : Int32) (k0 : Int32) : Kok true false (M_Bu_hasString_j17 l1 k0) := by
  unfold M_Bu_hasString_j17
  repeat' with_reducible (first | apply ko_B | apply ko_C | exact (ko_Bu_hasString_L20 _).wu | exact ko_Ma_fail _ | exact ko_R _ | exact ko_K _ | apply ko_W | intro _)
theorem ko_Bu_hasString (l1 : Int32) : Kok true false (M_Bu_hasString l1) := by
  unfold M_Bu_hasString
  repeat' with_reducible (first | apply ko_B | apply ko_C | exact (ko_Ro_kindAt _ _ _).wu | exact ko_Bu_hasString_j17 _ _ | intro _)
theorem ko_Bu_tellByte_j57  : Kok true true (M_Bu_tellByte_j57) := by
  unfold M_Bu_tellByte_j57
  repeat' with_reducible (first | apply ko_B | exact ko_Ro_add _ _ _ _ (by omega) | exact ko_R _ | intro _)
theorem ko_Bu_tellByte_j42 (l1 : Int32) (k0 : Int64) : Kok true true (M_Bu_tellByte_j42 l1 k0) := by
  unfold M_Bu_tellByte_j42
  repeat' with_reducible (first | apply ko_B | apply ko_C | exact ko_Bu_tellByte_j57 | exact ko_Ro_add _ _ _ _ (by omega) | exact ko_R _ | exact ko_AI _ _ _ _ | exact ko_Ln _ _ | intro _)
theorem ko_Bu_tellByte  : Kok true false (M_Bu_tellByte) := by
  unfold M_Bu_tellByte
  repeat' with_reducible (first | apply ko_B | apply ko_C | exact ko_Bu_hasString _ | exact (ko_Bu_bytesOfFirst).wu | exact (ko_Ro_kindAt _ _ _).wu | exact (ko_Bu_tellByte_j42 _ _).wu | exact (ko_Ro_valueAt _ _ _).wu | exact (ko_Bu_fromFront _ _).wu | exact ko_R _ | exact ko_Pr _ _ | exact ko_Ln _ _ | intro _)
theorem ko_Bu_measure  : Kok true false (M_Bu_measure) := by
  unfold M_Bu_measure
  repeat' with_reducible (first | apply ko_B | apply ko_C | exact ko_Bu_hasString _ | exact (ko_Bu_bytesOfFirst).wu | exact (ko_Ro_add _ _ _ _ (by omega)).wu | exact ko_R _ | exact ko_Pr _ _ | exact ko_Ln _ _ | intro _)
theorem ko_Bu_hasFunction_j21  : Kok true true (M_Bu_hasFunction_j21) := by
  unfold M_Bu_hasFunction_j21
  repeat' with_reducible (first | apply ko_B | apply ko_C | exact ko_Ro_kindAt _ _ _ | exact ko_R _ | intro _)
theorem ko_Bu_hasFunction  : Kok true false (M_Bu_hasFunction) := by
  unfold M_Bu_hasFunction
  repeat' with_reducible (first | apply ko_B | apply ko_C | exact (ko_Ro_kindAt _ _ _).wu | exact (ko_Bu_hasFunction_j21).wu | exact ko_Ma_fail _ | intro _)
theorem ko_Bu_hasCoroutine_j21  : Kok true true (M_Bu_hasCoroutine_j21) := by
  unfold M_Bu_hasCoroutine_j21
  repeat' with_reducible (first | apply ko_B | apply ko_C | exact ko_Ro_kindAt _ _ _ | exact ko_R _ | intro _)
theorem ko_Bu_hasCoroutine  : Kok true false (M_Bu_hasCoroutine) := by
  unfold M_Bu_hasCoroutine
  repeat' with_reducible (first | apply ko_B | apply ko_C | exact (ko_Ro_kindAt _ _ _).wu | exact (ko_Bu_hasCoroutine_j21).wu | exact ko_Ma_fail _ | intro _)
theorem ko_Ma_giveWithTrue  : Kok true false (M_Ma_giveWithTrue) := by
  unfold M_Ma_giveWithTrue
  repeat' with_reducible (first | apply ko_B | apply ko_C | exact (ko_Ro_addFirst _ _ _ _ (by omega)).wu | exact ko_Ma_fail _ | exact ko_R _ | exact ko_GI _ _ | exact ko_PI5 | exact ko_PI (by omega) | intro _)
theorem ko_Bu_tellStatus  : Kok true false (M_Bu_tellStatus) := by
  unfold M_Bu_tellStatus
  repeat' with_reducible (first | apply ko_B | apply ko_C | exact ko_Bu_hasCoroutine | exact (ko_Ro_valueAt _ _ _).wu | exact (ko_Ma_coroutineOf _).wu | exact (ko_Ro_add _ _ _ _ (by omega)).wu | exact ko_R _ | exact ko_GI _ _ | exact ko_AI _ _ _ _ | exact ko_Pr _ _ | intro _)
theorem ko_St_finish_j235  : Kok true true (M_St_finish_j235) := by
  unfold M_St_finish_j235
  repeat' with_reducible (first | apply ko_B | exact ko_Ro_clear _ _ (by omega) | exact ko_R _ | intro _)
theorem ko_LM_kind (l1 : Int32) : Kok true true (M_LM_kind l1) := by
  unfold M_LM_kind
  repeat' with_reducible (first | apply ko_B | apply ko_C | exact ko_LM_hasNoResult _ | exact ko_R _ | exact ko_AI _ _ _ _ | exact ko_F | intro _)
theorem ko_Ch_goesWhereItMay_j206  : Kok true true (M_Ch_goesWhereItMay_j206) := by
  unfold M_Ch_goesWhereItMay_j206
  repeat' with_reducible (first | exact ko_R _ | intro _)
theorem ko_Ch_goesWhereItMay_j182 (l1 : Int32) (l2 : Int32) (l3 : Int32) (l5 : Int32) : Kok true true (M_Ch_goesWhereItMay_j182 l1 l2 l3 l5) := by
  unfold M_Ch_goesWhereItMay_j182
  repeat' with_reducible (first | apply ko_B | apply ko_C | exact ko_Ch_goesWhereItMay_j206 | exact ko_Ch_mayBeReached _ _ | exact ko_R _ | intro _)
theorem ko_Ch_goesWhereItMay_j164 (l1 : Int32) (l2 : Int32) (l3 : Int32) (l5 : Int32) (l7 : Int32) : Kok true true (M_Ch_goesWhereItMay_j164 l1 l2 l3 l5 l7) := by
  unfold M_Ch_goesWhereItMay_j164
  repeat' with_reducible (first | apply ko_B | apply ko_C | exact ko_Ch_goesWhereItMay_j182 _ _ _ _ | exact ko_Ch_mayBeReached _ _ | exact ko_R _ | intro _)
theorem ko_Ch_goesWhereItMay_j136 (l1 : Int32) (l2 : Int32) (l3 : Int32) (l5 : Int32) (l6 : Int32) (l7 : Int32) : Kok true true (M_Ch_goesWhereItMay_j136 l1 l2 l3 l5 l6 l7) := by
  unfold M_Ch_goesWhereItMay_j136
  repeat' with_reducible (first | apply ko_B | apply ko_C | exact ko_Ch_goesWhereItMay_j164 _ _ _ _ _ | exact ko_R _ | exact ko_GI _ _ | exact ko_AI _ _ _ _ | intro _)
theorem ko_Ch_goesWhereItMay_j117 (l1 : Int32) (l2 : Int32) (l3 : Int32) (l5 : Int32) (l6 : Int32) (l7 : Int32) (k0 : Int32) : Kok true true (M_Ch_goesWhereItMay_j117 l1 l2 l3 l5 l6 l7 k0) := by
  unfold M_Ch_goesWhereItMay_j117
  repeat' with_reducible (first | apply ko_B | apply ko_C | exact ko_Ch_goesWhereItMay_j136 _ _ _ _ _ _ | exact ko_R _ | exact ko_GI _ _ | intro _)
theorem ko_Ch_goesWhereItMay_j116 (l1 : Int32) (l2 : Int32) (l3 : Int32) (l5 : Int32) (l6 : Int32) (l7 : Int32) : Kok true true (M_Ch_goesWhereItMay_j116 l1 l2 l3 l5 l6 l7) := by
  unfold M_Ch_goesWhereItMay_j116
  repeat' with_reducible (first | exact ko_Ch_goesWhereItMay_j117 _ _ _ _ _ _ _ | intro _)
theorem ko_Ch_goesWhereItMay_j89 (l1 : Int32) (l2 : Int32) (l3 : Int32) (l4 : Int32) (l5 : Int32) (l6 : Int32) (k0 : Int32) : Kok true true (M_Ch_goesWhereItMay_j89 l1 l2 l3 l4 l5 l6 k0) := by
  unfold M_Ch_goesWhereItMay_j89
  repeat' with_reducible (first | apply ko_C | exact ko_Ch_goesWhereItMay_j116 _ _ _ _ _ _ | exact ko_Ch_goesWhereItMay_j117 _ _ _ _ _ _ _ | intro _)
theorem ko_Ch_goesWhereItMay_j84 (l1 : Int32) (l2 : Int32) (l3 : Int32) (l4 : Int32) (l5 : Int32) (l6 : Int32) : Kok true true (M_Ch_goesWhereItMay_j84 l1 l2 l3 l4 l5 l6) := by
  unfold M_Ch_goesWhereItMay_j84
  repeat' with_reducible (first | exact ko_Ch_goesWhereItMay_j89 _ _ _ _ _ _ _ | intro _)
theorem ko_Ch_goesWhereItMay_j88 (l1 : Int32) (l2 : Int32) (l3 : Int32) (l4 : Int32) (l5 : Int32) (l6 : Int32) : Kok true true (M_Ch_goesWhereItMay_j88 l1 l2 l3 l4 l5 l6) := by
  unfold M_Ch_goesWhereItMay_j88
  repeat' with_reducible (first | exact ko_Ch_goesWhereItMay_j89 _ _ _ _ _ _ _ | intro _)
theorem ko_Ch_goesWhereItMay_j60 (l1 : Int32) (l2 : Int32) (l3 : Int32) (l4 : Int32) (l5 : Int32) (k0 : Int32) : Kok true true (M_Ch_goesWhereItMay_j60 l1 l2 l3 l4 l5 k0) := by
  unfold M_Ch_goesWhereItMay_j60
  repeat' with_reducible (first | apply ko_C | exact ko_Ch_goesWhereItMay_j88 _ _ _ _ _ _ | exact ko_Ch_goesWhereItMay_j84 _ _ _ _ _ _ | intro _)
theorem ko_Ch_goesWhereItMay_j59 (l1 : Int32) (l2 : Int32) (l3 : Int32) (l4 : Int32) (l5 : Int32) : Kok true true (M_Ch_goesWhereItMay_j59 l1 l2 l3 l4 l5) := by
  unfold M_Ch_goesWhereItMay_j59
  repeat' with_reducible (first | exact ko_Ch_goesWhereItMay_j60 _ _ _ _ _ _ | intro _)
theorem ko_Ch_goesWhereItMay_j39 (l1 : Int32) (l2 : Int32) (l3 : Int32) (l4 : Int32) (k0 : Int32) : Kok true true (M_Ch_goesWhereItMay_j39 l1 l2 l3 l4 k0) := by
  unfold M_Ch_goesWhereItMay_j39
  repeat' with_reducible (first | apply ko_C | exact ko_Ch_goesWhereItMay_j59 _ _ _ _ _ | exact ko_Ch_goesWhereItMay_j60 _ _ _ _ _ _ | intro _)
theorem ko_Ch_goesWhereItMay_j34 (l1 : Int32) (l2 : Int32) (l3 : Int32) (l4 : Int32) : Kok true true (M_Ch_goesWhereItMay_j34 l1 l2 l3 l4) := by
  unfold M_Ch_goesWhereItMay_j34
  repeat' with_reducible (first | exact ko_Ch_goesWhereItMay_j39 _ _ _ _ _ | intro _)
theorem ko_Ch_goesWhereItMay (l1 : Int32) (l2 : Int32) (l3 : Int32) : Kok true true (M_Ch_goesWhereItMay l1 l2 l3) := by
  unfold M_Ch_goesWhereItMay
  repeat' with_reducible (first | apply ko_C | exact ko_Ch_goesWhereItMay_j34 _ _ _ _ | exact ko_Ch_goesWhereItMay_j39 _ _ _ _ _ | apply ko_L | intro _)
theorem ko_He_clean_L12 (x) : Kok true true (M_He_clean_L12 x) := by
  unfold M_He_clean_L12
  repeat' with_reducible (first | apply ko_B | apply ko_C | exact ko_R _ | exact ko_GI _ _ | exact ko_K _ | exact ko_Pz _ _ _ | exact ko_PI (by omega) | intro _)
theorem ko_He_clean_L72 (x) : Kok true true (M_He_clean_L72 x) := by
  unfold M_He_clean_L72
  repeat' with_reducible (first | apply ko_B | apply ko_C | exact ko_He_reach _ _ | exact ko_R _ | exact ko_GI _ _ | exact ko_Pz _ _ _ | intro _)
theorem ko_He_clean_j299 (l2 : Int32) : Kok true true (M_He_clean_j299 l2) := by
  unfold M_He_clean_j299
  repeat' with_reducible (first | exact ko_R _ | intro _)
theorem ko_He_clean_L230 (x) : Kok true true (M_He_clean_L230 x) := by
  unfold M_He_clean_L230
  repeat' with_reducible (first | apply ko_B | apply ko_C | exact ko_He_reachFromCoroutine _ | exact ko_He_clean_j299 _ | exact ko_He_reachFrom _ | exact ko_R _ | exact ko_GI _ _ | exact ko_AI _ _ _ _ | exact ko_Pz _ _ _ | exact ko_PI (by omega) | intro _)
theorem ko_He_clean_j305  : Kok true true (M_He_clean_j305) := by
  unfold M_He_clean_j305
  repeat' with_reducible (first | apply ko_B | exact ko_He_sweep | exact ko_R _ | intro _)
theorem ko_He_clean_j112 (l1 : Int32) : Kok true true (M_He_clean_j112 l1) := by
  unfold M_He_clean_j112
  repeat' with_reducible (first | apply ko_B | exact ko_He_reach _ _ | exact ko_He_reachRow _ _ _ _ _ _ | exact ko_He_clean_L230 _ | exact ko_He_clean_j305 | exact ko_GI _ _ | apply ko_W | intro _)
theorem ko_He_clean  : Kok true true (M_He_clean) := by
  unfold M_He_clean
  repeat' with_reducible (first | apply ko_B | exact ko_He_clean_L12 _ | exact ko_He_reach _ _ | exact ko_He_clean_L72 _ | exact ko_He_clean_j112 _ | exact ko_GI _ _ | exact ko_AI _ _ _ _ | exact ko_SI (by omega) | exact ko_Pr _ _ | apply ko_W | exact ko_PI (by omega) | intro _)
theorem ko_Ta_makeRoom_j108 (l1 : Int32) (l2 : Int32) (l4 : Int32) : Kok true true (M_Ta_makeRoom_j108 l1 l2 l4) := by
  unfold M_Ta_makeRoom_j108
  repeat' with_reducible (first | apply ko_B | apply ko_C | exact ko_Ta_moveTo _ _ | exact ko_R _ | exact ko_GI _ _ | exact ko_AI _ _ _ _ | exact ko_SI (by omega) | intro _)
theorem ko_Ta_makeRoom_j62 (l1 : Int32) (l2 : Int32) (k0 : Int32) : Kok true true (M_Ta_makeRoom_j62 l1 l2 k0) := by
  unfold M_Ta_makeRoom_j62
  repeat' with_reducible (first | apply ko_B | apply ko_C | exact ko_Ta_makeRoom_j108 _ _ _ | exact ko_He_clean | exact ko_R _ | exact ko_GI _ _ | exact ko_AI _ _ _ _ | intro _)
theorem ko_Ta_makeRoom_j37 (l1 : Int32) (l2 : Int32) : Kok true true (M_Ta_makeRoom_j37 l1 l2) := by
  unfold M_Ta_makeRoom_j37
  repeat' with_reducible (first | apply ko_B | apply ko_C | exact ko_Ta_makeRoom_j62 _ _ _ | exact ko_GI _ _ | intro _)
theorem ko_Ta_makeRoom (l1 : Int32) : Kok true true (M_Ta_makeRoom l1) := by
  unfold M_Ta_makeRoom
  repeat' with_reducible (first | apply ko_B | apply ko_C | exact ko_Ta_dropDead _ | exact ko_Ta_makeRoom_j37 _ _ | exact ko_R _ | exact ko_GI _ _ | exact ko_Pz _ _ _ | intro _)
theorem ko_St_move_L191 (x) : Kok true true (M_St_move_L191 x) := by
  unfold M_St_move_L191
  repeat' with_reducible (first | apply ko_B | apply ko_C | exact ko_St_set _ _ _ | exact ko_R _ | exact ko_GI _ _ | intro _)
theorem ko_St_reckon_j50 (k0 : Int32) : Kok true false (M_St_reckon_j50 k0) := by
  unfold M_St_reckon_j50
  repeat' with_reducible (first | apply ko_B | apply ko_C | exact (ko_St_kindOf _).wu | exact (ko_St_valueOf _).wu | exact ko_St_callsEither _ _ _ _ _ | exact ko_Ma_fail _ | exact ko_R _ | exact ko_GI _ _ | intro _)
theorem ko_St_reckon_j24  : Kok true false (M_St_reckon_j24) := by
  unfold M_St_reckon_j24
  repeat' with_reducible (first | apply ko_B | apply ko_C | exact ko_St_reckon_j50 _ | exact ko_GI _ _ | intro _)
theorem ko_St_reckon_j153 (l1 : Int64) (l3 : Int64) : Kok true true (M_St_reckon_j153 l1 l3) := by
  unfold M_St_reckon_j153
  repeat' with_reducible (first | apply ko_B | exact ko_St_reckoned _ _ | exact ko_St_set _ _ _ | exact ko_R _ | exact ko_GI _ _ | intro _)
theorem ko_St_reckon_j142  : Kok true false (M_St_reckon_j142) := by
  unfold M_St_reckon_j142
  repeat' with_reducible (first | apply ko_B | exact ko_Ma_fail _ | exact ko_R _ | intro _)
theorem ko_St_reckon  : Kok true false (M_St_reckon) := by
  unfold M_St_reckon
  repeat' with_reducible (first | apply ko_B | apply ko_C | exact (ko_St_kindOf _).wu | exact (ko_St_valueOf _).wu | exact ko_St_reckon_j142 | exact (ko_St_reckon_j153 _ _).wu | exact ko_St_reckon_j24 | exact ko_GI _ _ | intro _)
theorem ko_St_measure  : Kok true false (M_St_measure) := by
  unfold M_St_measure
  repeat' with_reducible (first | apply ko_B | apply ko_C | exact (ko_St_kindOf _).wu | exact (ko_St_valueOf _).wu | exact (ko_Ta_findEvent _ _ _).wu | exact (ko_St_set _ _ _).wu | exact ko_Ma_callEntry _ _ _ _ _ | exact (ko_Ta_border _).wu | exact ko_Ma_fail _ | exact ko_R _ | exact ko_GI _ _ | exact ko_K _ | exact ko_Pz _ _ _ | exact ko_Ln _ _ | exact ko_PI (by omega) | intro _)
theorem ko_Bu_setMetatable_j112 (l1 : Int32) (k0 : Int32) (k1 : Int32) : Kok true true (M_Bu_setMetatable_j112 l1 k0 k1) := by
  unfold M_Bu_setMetatable_j112
  repeat' with_reducible (first | apply ko_B | exact ko_Ro_add _ _ _ _ (by omega) | exact ko_R _ | exact ko_PI (by omega) | intro _)
theorem ko_Bu_setMetatable_j52 (l1 : Int32) : Kok true false (M_Bu_setMetatable_j52 l1) := by
  unfold M_Bu_setMetatable_j52
  repeat' with_reducible (first | apply ko_B | apply ko_C | exact (ko_Ta_findEvent _ _ _).wu | exact (ko_Ro_kindAt _ _ _).wu | exact (ko_Bu_setMetatable_j112 _ _ _).wu | exact (ko_Ro_valueAt _ _ _).wu | exact ko_Ma_fail _ | exact ko_R _ | exact ko_Pz _ _ _ | intro _)
theorem ko_Bu_setMetatable  : Kok true false (M_Bu_setMetatable) := by
  unfold M_Bu_setMetatable
  repeat' with_reducible (first | apply ko_B | apply ko_C | exact ko_Bu_hasTable | exact (ko_Ro_valueAt _ _ _).wu | exact (ko_Ro_kindAt _ _ _).wu | exact ko_Bu_setMetatable_j52 _ | exact ko_Ma_fail _ | exact ko_R _ | intro _)
theorem ko_Bu_cleanUp  : Kok true true (M_Bu_cleanUp) := by
  unfold M_Bu_cleanUp
  repeat' with_reducible (first | apply ko_B | exact ko_Ro_clear _ _ (by omega) | exact ko_He_clean | exact ko_Ro_add _ _ _ _ (by omega) | exact ko_R _ | exact ko_AI _ _ _ _ | intro _)
theorem ko_Ma_unwind_L36 (x) : Kok true true (M_Ma_unwind_L36 x) := by
  unfold M_Ma_unwind_L36
  repeat' with_reducible (first | apply ko_B | apply ko_C | exact ko_R _ | exact ko_GI _ _ | exact ko_K _ | intro _)
theorem ko_LM_collect  : Kok true true (M_LM_collect) := by
  unfold M_LM_collect
  repeat' with_reducible (first | apply ko_B | apply ko_C | exact ko_He_clean | exact ko_R _ | exact ko_GI _ _ | exact ko_AI _ _ _ _ | exact ko_F | intro _)
theorem ko_Ch_readAll_j124 (l2 : Int32) (l3 : Int32) (ln : Nat × Nat) : Kok true true (M_Ch_readAll_j124 l2 l3 ln) := by
  unfold M_Ch_readAll_j124
  repeat' with_reducible (first | apply ko_B | exact ko_R _ | exact ko_GI _ _ | exact ko_SI (by omega) | exact ko_Pz _ _ _ | intro _)
theorem ko_Ch_readAll_j53 (ln : Nat × Nat) : Kok true true (M_Ch_readAll_j53 ln) := by
  unfold M_Ch_readAll_j53
  repeat' with_reducible (first | exact ko_R _ | intro _)
theorem ko_Ch_readAll_j72 (ln : Nat × Nat) : Kok true true (M_Ch_readAll_j72 ln) := by
  unfold M_Ch_readAll_j72
  repeat' with_reducible (first | apply ko_B | exact ko_Ch_refuse _ _ | exact ko_R _ | exact ko_GI _ _ | exact ko_K _ | intro _)
theorem ko_Ch_isWellFormed_j53  : Kok true true (M_Ch_isWellFormed_j53) := by
  unfold M_Ch_isWellFormed_j53
  repeat' with_reducible (first | exact ko_R _ | intro _)
theorem ko_Ch_isWellFormed (l1 : Int32) (l2 : Int32) : Kok true true (M_Ch_isWellFormed l1 l2) := by
  unfold M_Ch_isWellFormed
  repeat' with_reducible (first | apply ko_B | apply ko_C | exact ko_Ch_isWellFormed_j53 | exact ko_Ch_namesWhatIsThere _ _ | exact ko_Ch_goesWhereItMay _ _ _ | exact ko_Ch_keepsOpenRows _ _ _ | exact ko_R _ | exact ko_GI _ _ | exact ko_AI _ _ _ _ | intro _)
theorem ko_He_make_j40 (ln : Nat × Nat) : Kok true true (M_He_make_j40 ln) := by
  unfold M_He_make_j40
  repeat' with_reducible (first | exact ko_R _ | intro _)
theorem ko_He_make_j62 (l1 : Int32) (l2 : Int32) (l3 : Int32) (ln : Nat × Nat) : Kok true true (M_He_make_j62 l1 l2 l3 ln) := by
  unfold M_He_make_j62
  repeat' with_reducible (first | apply ko_B | apply ko_C | exact ko_He_isFull _ | exact ko_He_takeSlot _ | exact ko_R _ | exact ko_AI _ _ _ _ | exact ko_SI (by omega) | exact ko_Pz _ _ _ | exact ko_PI (by omega) | intro _)
theorem ko_He_make (n0 : Nat × Nat) (l1 : Int32) (l2 : Int32) (l3 : Int32) : Kok true true (M_He_make n0 l1 l2 l3) := by
  unfold M_He_make
  repeat' with_reducible (first | apply ko_B | apply ko_C | exact ko_He_make_j40 _ | exact ko_He_isFull _ | exact ko_He_make_j62 _ _ _ _ | exact ko_He_clean | exact ko_GI _ _ | exact ko_AI _ _ _ _ | intro _)
theorem ko_He_makeClosedVariable (n0 : Nat × Nat) (l1 : Int32) (l2 : Int64) : Kok true true (M_He_makeClosedVariable n0 l1 l2) := by
  unfold M_He_makeClosedVariable
  repeat' with_reducible (first | apply ko_B | apply ko_C | exact ko_He_make _ _ _ _ | exact ko_R _ | exact ko_PL | exact ko_Pz _ _ _ | exact ko_PI (by omega) | intro _)
theorem ko_Ta_write_j118 (l2 : Int32) (l3 : Int64) (l5 : Int32) (l6 : Int64) (l8 : Int32) (k0 : Int32) : Kok true true (M_Ta_write_j118 l2 l3 l5 l6 l8 k0) := by
  unfold M_Ta_write_j118
  repeat' with_reducible (first | apply ko_B | apply ko_C | exact ko_Ta_append _ _ _ _ _ | exact ko_R _ | intro _)
theorem ko_Ta_write (l1 : Int32) (l2 : Int32) (l3 : Int64) (l5 : Int32) (l6 : Int64) : Kok true true (M_Ta_write l1 l2 l3 l5 l6) := by
  unfold M_Ta_write
  repeat' with_reducible (first | apply ko_B | apply ko_C | exact ko_Ta_find _ _ _ | exact ko_Ta_makeRoom _ | exact ko_Ta_write_j118 _ _ _ _ _ _ | exact ko_R _ | exact ko_GI _ _ | exact ko_SI (by omega) | exact ko_SL | exact ko_Pz _ _ _ | exact ko_PI (by omega) | intro _)
theorem ko_He_makeClosure_j45 (l2 : Int32) (l3 : Int32) (l4 : Int32) (ln : Nat × Nat) : Kok true true (M_He_makeClosure_j45 l2 l3 l4 ln) := by
  unfold M_He_makeClosure_j45
  repeat' with_reducible (first | apply ko_B | exact ko_R _ | exact ko_K _ | exact ko_Nw _ _ | exact ko_S (or_nwR (by omega)) | intro _)
theorem ko_He_makeClosure (n0 : Nat × Nat) (l1 : Int32) (l2 : Int32) : Kok true true (M_He_makeClosure n0 l1 l2) := by
  unfold M_He_makeClosure
  repeat' with_reducible (first | apply ko_B | apply ko_C | exact ko_He_make _ _ _ _ | exact ko_He_makeClosure_j45 _ _ _ _ | exact ko_R _ | exact ko_GI _ _ | exact ko_K _ | exact ko_Pz _ _ _ | exact ko_Ln _ _ | exact ko_PI (by omega) | intro _)
theorem ko_He_makeCoroutine_L18 (x) : Kok true true (M_He_makeCoroutine_L18 x) := by
  unfold M_He_makeCoroutine_L18
  repeat' with_reducible (first | apply ko_B | apply ko_C | exact ko_R _ | exact ko_GI _ _ | exact ko_Pz _ _ _ | exact ko_Nz _ _ _ | intro _)
theorem ko_St_write_j93 (l4 : Int32) (l5 : Int64) (l7 : Int32) (k0 : Int32) : Kok true true (M_St_write_j93 l4 l5 l7 k0) := by
  unfold M_St_write_j93
  repeat' with_reducible (first | apply ko_B | apply ko_C | exact ko_R _ | exact ko_AI _ _ _ _ | exact ko_AL _ _ _ _ | intro _)
theorem ko_St_write_j81 (l4 : Int32) (l5 : Int64) (l7 : Int32) : Kok true true (M_St_write_j81 l4 l5 l7) := by
  unfold M_St_write_j81
  repeat' with_reducible (first | apply ko_B | exact ko_Ta_findEvent _ _ _ | exact ko_St_write_j93 _ _ _ _ | intro _)
theorem ko_St_write_L9 (x) : Kok true true (M_St_write_L9 x) := by
  unfold M_St_write_L9
  repeat' with_reducible (first | apply ko_B | apply ko_C | exact ko_St_kindOf _ | exact ko_St_valueOf _ | exact ko_Ta_find _ _ _ | exact ko_St_write_j81 _ _ _ | exact ko_St_write_j93 _ _ _ _ | exact ko_R _ | exact ko_GI _ _ | exact ko_AI _ _ _ _ | intro _)
theorem ko_St_write (l1 : Int32) (l2 : Int64) : Kok true false (M_St_write l1 l2) := by
  unfold M_St_write
  repeat' with_reducible (first | apply ko_B | apply ko_C | exact (ko_St_write_L9 _).wu | exact ko_Ma_fail _ | exact (ko_St_kindOf _).wu | exact (ko_St_valueOf _).wu | exact (ko_Ta_write _ _ _ _ _).wu | exact ko_Ma_callEntry _ _ _ _ _ | exact (ko_Ro_add _ _ _ _ (by omega)).wu | exact ko_R _ | exact ko_GI _ _ | apply ko_W | apply ko_E | intro _)
theorem ko_St_setList_L83 (x) : Kok true true (M_St_setList_L83 x) := by
  unfold M_St_setList_L83
  repeat' with_reducible (first | apply ko_B | apply ko_C | exact ko_St_kindOf _ | exact ko_St_valueOf _ | exact ko_Ta_write _ _ _ _ _ | exact ko_R _ | exact ko_GI _ _ | intro _)
