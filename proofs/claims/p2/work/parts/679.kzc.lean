/-! Made by wip/l2n/zgen.py: what the class's programs leave alone. -/
theorem zk_Ta_findEvent_j72  : Zk 111 true (M_Ta_findEvent_j72) := by
  unfold M_Ta_findEvent_j72
  repeat' with_reducible (first | exact zk_R _ | intro _)
theorem zk_Ta_findEvent (l1 : Int32) (l2 : Int64) (l4 : Int32) : Zk 111 true (M_Ta_findEvent l1 l2 l4) := by
  unfold M_Ta_findEvent
  repeat' with_reducible (first | apply zk_B | apply zk_C | exact zk_Ta_find _ _ _ | exact zk_Ta_findEvent_j72 | exact zk_R _ | exact zk_GI _ _ | exact zk_AI _ _ _ _ | exact zk_Pz _ _ _ | intro _)
theorem zk_Ma_callEntry (l1 : Int32) (l2 : Int32) (l3 : Int64) (l5 : Int32) (l6 : Int64) : Zk 111 true (M_Ma_callEntry l1 l2 l3 l5 l6) := by
  unfold M_Ma_callEntry
  repeat' with_reducible (first | apply zk_B | exact zk_Ro_clear _ _ (by omega) | exact zk_Ro_add _ _ _ _ (by omega) | exact zk_R _ | exact zk_PL (by omega) | exact zk_AI _ _ _ _ | exact zk_AL _ _ _ _ | exact zk_PI (by omega) | intro _)
theorem zk_St_read_j94 (l4 : Int32) (l5 : Int64) (l7 : Int32) (l8 : Int64) (l10 : Int32) : Zk 111 true (M_St_read_j94 l4 l5 l7 l8 l10) := by
  unfold M_St_read_j94
  repeat' with_reducible (first | apply zk_B | apply zk_C | exact zk_Ta_findEvent _ _ _ | exact zk_R _ | exact zk_AI _ _ _ _ | exact zk_AL _ _ _ _ | intro _)
theorem zk_St_read_L9 (x) : Zk 111 true (M_St_read_L9 x) := by
  unfold M_St_read_L9
  repeat' with_reducible (first | apply zk_B | apply zk_C | exact zk_Ta_find _ _ _ | exact zk_St_read_j94 _ _ _ _ _ | exact zk_R _ | exact zk_AI _ _ _ _ | intro _)
theorem zk_St_read (l1 : Int32) (l2 : Int64) (l4 : Int32) (l5 : Int64) : Zk 111 true (M_St_read l1 l2 l4 l5) := by
  unfold M_St_read
  repeat' with_reducible (first | apply zk_B | exact zk_St_read_L9 _ | exact zk_Ma_fail _ | exact zk_St_set _ _ _ | exact zk_Ma_callEntry _ _ _ _ _ | exact zk_R _ | exact zk_GI _ _ | exact zk_AI _ _ _ _ | exact zk_AL _ _ _ _ | apply zk_W | apply zk_E | intro _)
theorem zk_St_callsEither_j51 (l8 : Int32) : Zk 111 true (M_St_callsEither_j51 l8) := by
  unfold M_St_callsEither_j51
  repeat' with_reducible (first | apply zk_C | exact zk_R _ | intro _)
theorem zk_St_callsEither_j31 (l2 : Int32) (l3 : Int64) (l5 : Int32) (l6 : Int64) (l8 : Int32) : Zk 111 true (M_St_callsEither_j31 l2 l3 l5 l6 l8) := by
  unfold M_St_callsEither_j31
  repeat' with_reducible (first | apply zk_B | apply zk_C | exact zk_St_callsEither_j51 _ | exact zk_Ma_callEntry _ _ _ _ _ | intro _)
theorem zk_St_callsEither (l1 : Int32) (l2 : Int32) (l3 : Int64) (l5 : Int32) (l6 : Int64) : Zk 111 true (M_St_callsEither l1 l2 l3 l5 l6) := by
  unfold M_St_callsEither
  repeat' with_reducible (first | apply zk_B | apply zk_C | exact zk_Ta_findEvent _ _ _ | exact zk_St_callsEither_j31 _ _ _ _ _ | intro _)
theorem zk_St_reckoned (l1 : Int64) (l3 : Int64) : Zk 111 true (M_St_reckoned l1 l3) := by
  unfold M_St_reckoned
  repeat' with_reducible (first | apply zk_B | apply zk_C | exact zk_Mth_floorMod _ _ | exact zk_Mth_floorDiv _ _ | exact zk_St_shifted _ _ | exact zk_R _ | exact zk_GI _ _ | intro _)
theorem zk_Ta_border_L15 (x) : Zk 111 true (M_Ta_border_L15 x) := by
  unfold M_Ta_border_L15
  repeat' with_reducible (first | apply zk_B | apply zk_C | exact zk_Ta_find _ _ _ | exact zk_R _ | exact zk_GI _ _ | exact zk_AI _ _ _ _ | exact zk_PI (by omega) | intro _)
theorem zk_Ta_border_j66 (l2 : Int32) : Zk 111 true (M_Ta_border_j66 l2) := by
  unfold M_Ta_border_j66
  repeat' with_reducible (first | apply zk_B | exact zk_R _ | exact zk_GI _ _ | intro _)
theorem zk_Ta_border (l1 : Int32) : Zk 111 true (M_Ta_border l1) := by
  unfold M_Ta_border
  repeat' with_reducible (first | apply zk_B | exact zk_Ta_border_L15 _ | exact zk_Ta_border_j66 _ | exact zk_GI _ _ | exact zk_Pz _ _ _ | apply zk_W | apply zk_E | intro _)
theorem zk_St_equal_j85 (l7 : Int32) : Zk 111 true (M_St_equal_j85 l7) := by
  unfold M_St_equal_j85
  repeat' with_reducible (first | apply zk_B | exact zk_St_decide _ | exact zk_R _ | intro _)
theorem zk_St_equal_j54 (l1 : Int32) (l2 : Int32) (l3 : Int64) (l5 : Int64) (k0 : Int32) : Zk 111 true (M_St_equal_j54 l1 l2 l3 l5 k0) := by
  unfold M_St_equal_j54
  repeat' with_reducible (first | apply zk_B | apply zk_C | exact zk_St_callsEither _ _ _ _ _ | exact zk_St_equal_j85 _ | exact zk_R _ | intro _)
theorem zk_St_equal_j53 (l1 : Int32) (l2 : Int32) (l3 : Int64) (l5 : Int64) : Zk 111 true (M_St_equal_j53 l1 l2 l3 l5) := by
  unfold M_St_equal_j53
  repeat' with_reducible (first | exact zk_St_equal_j54 _ _ _ _ _ | intro _)
theorem zk_St_equal  : Zk 111 true (M_St_equal) := by
  unfold M_St_equal
  repeat' with_reducible (first | apply zk_B | apply zk_C | exact zk_St_kindOf _ | exact zk_St_valueOf _ | exact zk_St_equal_j54 _ _ _ _ _ | exact zk_St_equal_j53 _ _ _ _ | exact zk_GI _ _ | intro _)
theorem zk_St_order_j171 (l1 : Int32) (l2 : Int32) (l3 : Int64) (l5 : Int64) : Zk 111 true (M_St_order_j171 l1 l2 l3 l5) := by
  unfold M_St_order_j171
  repeat' with_reducible (first | apply zk_B | apply zk_C | exact zk_St_callsEither _ _ _ _ _ | exact zk_Ma_fail _ | exact zk_R _ | exact zk_GI _ _ | intro _)
theorem zk_St_order_j165 (k0 : Int32) : Zk 111 true (M_St_order_j165 k0) := by
  unfold M_St_order_j165
  repeat' with_reducible (first | apply zk_B | exact zk_St_decide _ | exact zk_R _ | intro _)
theorem zk_St_order_j90 (l1 : Int32) (l2 : Int32) (l3 : Int64) (l5 : Int64) : Zk 111 true (M_St_order_j90 l1 l2 l3 l5) := by
  unfold M_St_order_j90
  repeat' with_reducible (first | apply zk_B | apply zk_C | exact zk_St_compared _ _ | exact zk_St_order_j165 _ | exact zk_St_order_j171 _ _ _ _ | exact zk_GI _ _ | exact zk_K _ | exact zk_Pz _ _ _ | intro _)
theorem zk_St_order_j84 (k0 : Int32) : Zk 111 true (M_St_order_j84 k0) := by
  unfold M_St_order_j84
  repeat' with_reducible (first | apply zk_B | exact zk_St_decide _ | exact zk_R _ | intro _)
theorem zk_St_order  : Zk 111 true (M_St_order) := by
  unfold M_St_order
  repeat' with_reducible (first | apply zk_B | apply zk_C | exact zk_St_kindOf _ | exact zk_St_valueOf _ | exact zk_St_order_j84 _ | exact zk_St_order_j90 _ _ _ _ | exact zk_GI _ _ | intro _)
theorem zk_St_gather_j37 (l1r : Nat) (l1 : Int32) (l2 : Int32) (l4 : Int32) (k0 : Int32) (h : 111 ≤ l1r) : Zk 111 true (M_St_gather_j37 l1r l1 l2 l4 k0) := by
  unfold M_St_gather_j37
  refine zk_C (zk_B (zk_Ro_clear _ _ h) fun _ => (zp_B (J := fun e => 111 ≤ e.1) (K := fun _ => True) (zp_W (I := fun x => 111 ≤ x.1) (fun x hx => ?_) _ h) fun e he => ?_).k) (zk_B (zk_Ma_fail _) fun _ => zk_R _)
  · unfold M_St_gather_L70
    exact zp_C (zp_R hx) (zp_B (zk_St_kindOf _).p fun _ _ => zp_B (zk_St_valueOf _).p fun _ _ => zp_B (zk_Ro_add _ _ _ _ hx).p fun _ _ => zp_R hx)
  · refine zp_B (zp_W (I := fun x => 111 ≤ x.1) (J := fun _ => True) (fun x hx => ?_) _ he) fun _ _ => ((zk_B (zk_Ro_clear _ _ (by omega)) fun _ => zk_R _) : Zk 111 true _).p
    unfold M_St_gather_L102
    exact zp_C (zp_R trivial) (zp_B (zk_AI _ _ _ _).p fun _ _ => zp_B (zk_AL _ _ _ _).p fun _ _ => zp_B (zk_Ro_add _ _ _ _ hx).p fun _ _ => zp_R hx)
theorem zk_St_gather_j17 (l1r : Nat) (l1 : Int32) (l2 : Int32) (l3 : Int32) (k0 : Int32) (h0 : 111 ≤ l1r) : Zk 111 true (M_St_gather_j17 l1r l1 l2 l3 k0) := by
  unfold M_St_gather_j17
  repeat' with_reducible (first | apply zk_B | apply zk_C | exact zk_St_gather_j37 _ _ _ _ _ (by omega) | exact zk_GI _ _ | intro _)
theorem zk_St_gather (l1r : Nat) (l1 : Int32) (l2 : Int32) (l3 : Int32) (h0 : 111 ≤ l1r) : Zk 111 true (M_St_gather l1r l1 l2 l3) := by
  unfold M_St_gather
  repeat' with_reducible (first | apply zk_B | apply zk_C | exact zk_St_gather_j17 _ _ _ _ _ (by omega) | exact zk_GI _ _ | intro _)
theorem zk_Ma_leave  : Zk 111 true (M_Ma_leave) := by
  unfold M_Ma_leave
  repeat' with_reducible (first | apply zk_B | exact zk_Co_top _ | exact zk_He_closeFrom _ _ | exact zk_Co_pop _ | exact zk_R _ | exact zk_GI _ _ | exact zk_Pr _ _ | intro _)
theorem zk_St_hasLoopNumbers_j42  : Zk 111 true (M_St_hasLoopNumbers_j42) := by
  unfold M_St_hasLoopNumbers_j42
  repeat' with_reducible (first | apply zk_B | exact zk_Ma_fail _ | exact zk_R _ | intro _)
theorem zk_St_hasLoopNumbers  : Zk 111 true (M_St_hasLoopNumbers) := by
  unfold M_St_hasLoopNumbers
  repeat' with_reducible (first | apply zk_B | apply zk_C | exact zk_St_kindOf _ | exact zk_St_hasLoopNumbers_j42 | exact zk_R _ | exact zk_GI _ _ | intro _)
theorem zk_Ma_goOnWith (l1 : Int32) : Zk 111 true (M_Ma_goOnWith l1) := by
  unfold M_Ma_goOnWith
  repeat' with_reducible (first | apply zk_B | apply zk_C | exact zk_Ma_begin _ | exact zk_Ro_takeAll _ _ _ _ (by omega) (by omega) | exact zk_R _ | exact zk_GI _ _ | exact zk_GL _ _ | exact zk_PL (by omega) | exact zk_Pr _ _ | exact zk_PI (by omega) | intro _)
theorem zk_Bu_addMade (l1 : Int32) (l2 : Int32) : Zk 111 true (M_Bu_addMade l1 l2) := by
  unfold M_Bu_addMade
  repeat' with_reducible (first | apply zk_B | apply zk_C | exact zk_Ro_add _ _ _ _ (by omega) | exact zk_Ma_fail _ | exact zk_R _ | intro _)
theorem zk_Bu_callProtected  : Zk 111 true (M_Bu_callProtected) := by
  unfold M_Bu_callProtected
  repeat' with_reducible (first | apply zk_B | apply zk_C | exact zk_Co_push _ _ _ _ | exact zk_Ma_fail _ | exact zk_Ro_kindAt _ _ _ | exact zk_Ro_valueAt _ _ _ | exact zk_Ro_dropFirst _ _ _ (by omega) | exact zk_R _ | exact zk_GI _ _ | exact zk_PL (by omega) | exact zk_Pr _ _ | exact zk_PI (by omega) | intro _)
theorem zk_Bu_hasTable_j20  : Zk 111 true (M_Bu_hasTable_j20) := by
  unfold M_Bu_hasTable_j20
  repeat' with_reducible (first | apply zk_B | apply zk_C | exact zk_Ro_kindAt _ _ _ | exact zk_R _ | intro _)
theorem zk_Bu_hasTable  : Zk 111 true (M_Bu_hasTable) := by
  unfold M_Bu_hasTable
  repeat' with_reducible (first | apply zk_B | apply zk_C | exact zk_Ro_kindAt _ _ _ | exact zk_Bu_hasTable_j20 | exact zk_Ma_fail _ | intro _)
theorem zk_Bu_getMetatable_j62 (l1 : Int32) (k0 : Int32) : Zk 111 true (M_Bu_getMetatable_j62 l1 k0) := by
  unfold M_Bu_getMetatable_j62
  repeat' with_reducible (first | apply zk_B | apply zk_C | exact zk_Ro_add _ _ _ _ (by omega) | exact zk_Bu_addEntry _ | exact zk_R _ | intro _)
theorem zk_Bu_getMetatable  : Zk 111 true (M_Bu_getMetatable) := by
  unfold M_Bu_getMetatable
  repeat' with_reducible (first | apply zk_B | apply zk_C | exact zk_Ro_kindAt _ _ _ | exact zk_Ro_valueAt _ _ _ | exact zk_Ta_findEvent _ _ _ | exact zk_Bu_getMetatable_j62 _ _ | exact zk_GI _ _ | exact zk_Pz _ _ _ | intro _)
theorem zk_Bu_readRaw  : Zk 111 true (M_Bu_readRaw) := by
  unfold M_Bu_readRaw
  repeat' with_reducible (first | apply zk_B | apply zk_C | exact zk_Bu_hasTable | exact zk_Ro_valueAt _ _ _ | exact zk_Ro_kindAt _ _ _ | exact zk_Ta_find _ _ _ | exact zk_Bu_addEntry _ | exact zk_R _ | intro _)
theorem zk_Bu_measureRaw  : Zk 111 true (M_Bu_measureRaw) := by
  unfold M_Bu_measureRaw
  repeat' with_reducible (first | apply zk_B | apply zk_C | exact zk_Ro_kindAt _ _ _ | exact zk_Bu_bytesOfFirst | exact zk_Ro_add _ _ _ _ (by omega) | exact zk_Bu_hasTable | exact zk_Ro_valueAt _ _ _ | exact zk_Ta_border _ | exact zk_R _ | exact zk_Pr _ _ | exact zk_Ln _ _ | intro _)
theorem zk_Bu_compareRaw_j45 (k0 : Int32) : Zk 111 true (M_Bu_compareRaw_j45 k0) := by
  unfold M_Bu_compareRaw_j45
  repeat' with_reducible (first | apply zk_B | exact zk_Bu_addTruth _ | exact zk_R _ | intro _)
theorem zk_Bu_compareRaw_j44  : Zk 111 true (M_Bu_compareRaw_j44) := by
  unfold M_Bu_compareRaw_j44
  repeat' with_reducible (first | exact zk_Bu_compareRaw_j45 _ | intro _)
theorem zk_Bu_compareRaw  : Zk 111 true (M_Bu_compareRaw) := by
  unfold M_Bu_compareRaw
  repeat' with_reducible (first | apply zk_B | apply zk_C | exact zk_Ro_kindAt _ _ _ | exact zk_Ro_valueAt _ _ _ | exact zk_Bu_compareRaw_j45 _ | exact zk_Bu_compareRaw_j44 | intro _)
theorem zk_Bu_next_L93 (x) : Zk 111 true (M_Bu_next_L93 x) := by
  unfold M_Bu_next_L93
  repeat' with_reducible (first | apply zk_B | apply zk_C | exact zk_R _ | exact zk_GI _ _ | exact zk_AI _ _ _ _ | intro _)
theorem zk_Bu_next_j90 (l2 : Int32) (l3 : Int32) : Zk 111 true (M_Bu_next_j90 l2 l3) := by
  unfold M_Bu_next_j90
  repeat' with_reducible (first | apply zk_B | exact zk_Bu_next_L93 _ | exact zk_Ro_add _ _ _ _ (by omega) | exact zk_Bu_addEntry _ | exact zk_R _ | exact zk_AI _ _ _ _ | exact zk_AL _ _ _ _ | apply zk_W | apply zk_E | intro _)
theorem zk_Bu_next  : Zk 111 true (M_Bu_next) := by
  unfold M_Bu_next
  repeat' with_reducible (first | apply zk_B | apply zk_C | exact zk_Bu_hasTable | exact zk_Ro_valueAt _ _ _ | exact zk_Ro_kindAt _ _ _ | exact zk_Bu_next_j90 _ _ | exact zk_Ta_find _ _ _ | exact zk_Ma_fail _ | exact zk_R _ | exact zk_GI _ _ | exact zk_Pz _ _ _ | apply zk_L | intro _)
theorem zk_Bu_select_j55  : Zk 111 true (M_Bu_select_j55) := by
  unfold M_Bu_select_j55
  repeat' with_reducible (first | apply zk_B | exact zk_Ma_fail _ | exact zk_R _ | intro _)
theorem zk_Bu_select  : Zk 111 true (M_Bu_select) := by
  unfold M_Bu_select
  repeat' with_reducible (first | apply zk_B | apply zk_C | exact zk_Ro_valueAt _ _ _ | exact zk_Bu_isNumberSign | exact zk_Ro_kindAt _ _ _ | exact zk_Mth_min_ _ _ | exact zk_Ro_dropFirst _ _ _ (by omega) | exact zk_Ro_takeAll _ _ _ _ (by omega) (by omega) | exact zk_Bu_select_j55 | exact zk_Ro_add _ _ _ _ (by omega) | exact zk_R _ | exact zk_GI _ _ | intro _)
theorem zk_Bu_hasString_j57 (l1 : Int32) (l3 : Int32) (k0 : Int32) : Zk 111 true (M_Bu_hasString_j57 l1 l3 k0) := by
  unfold M_Bu_hasString_j57
  repeat' with_reducible (first | exact zk_R _ | intro _)
theorem zk_Bu_hasString_j56 (l1 : Int32) (l3 : Int32) : Zk 111 true (M_Bu_hasString_j56 l1 l3) := by
  unfold M_Bu_hasString_j56
  repeat' with_reducible (first | exact zk_Bu_hasString_j57 _ _ _ | intro _)
theorem zk_Bu_hasString_j52 (l1 : Int32) (l3 : Int32) : Zk 111 true (M_Bu_hasString_j52 l1 l3) := by
  unfold M_Bu_hasString_j52
  repeat' with_reducible (first | exact zk_Bu_hasString_j57 _ _ _ | intro _)
theorem zk_Bu_hasString_L20 (x) : Zk 111 true (M_Bu_hasString_L20 x) := by
  unfold M_Bu_hasString_L20
  repeat' with_reducible (first | apply zk_B | apply zk_C | exact zk_Bu_hasString_j56 _ _ | exact zk_Ro_kindAt _ _ _ | exact zk_Bu_hasString_j52 _ _ | exact zk_R _ | intro _)
theorem zk_Bu_hasString_j17 (l1 : Int32) (k0 : Int32) : Zk 111 true (M_Bu_hasString_j17 l1 k0) := by
  unfold M_Bu_hasString_j17
  repeat' with_reducible (first | apply zk_B | apply zk_C | exact zk_Bu_hasString_L20 _ | exact zk_Ma_fail _ | exact zk_R _ | exact zk_K _ | apply zk_W | intro _)
theorem zk_Bu_hasString (l1 : Int32) : Zk 111 true (M_Bu_hasString l1) := by
  unfold M_Bu_hasString
  repeat' with_reducible (first | apply zk_B | apply zk_C | exact zk_Ro_kindAt _ _ _ | exact zk_Bu_hasString_j17 _ _ | intro _)
theorem zk_Bu_tellByte_j57  : Zk 111 true (M_Bu_tellByte_j57) := by
  unfold M_Bu_tellByte_j57
  repeat' with_reducible (first | apply zk_B | exact zk_Ro_add _ _ _ _ (by omega) | exact zk_R _ | intro _)
theorem zk_Bu_tellByte_j42 (l1 : Int32) (k0 : Int64) : Zk 111 true (M_Bu_tellByte_j42 l1 k0) := by
  unfold M_Bu_tellByte_j42
  repeat' with_reducible (first | apply zk_B | apply zk_C | exact zk_Bu_tellByte_j57 | exact zk_Ro_add _ _ _ _ (by omega) | exact zk_R _ | exact zk_AI _ _ _ _ | exact zk_Ln _ _ | intro _)
theorem zk_Bu_tellByte  : Zk 111 true (M_Bu_tellByte) := by
  unfold M_Bu_tellByte
  repeat' with_reducible (first | apply zk_B | apply zk_C | exact zk_Bu_hasString _ | exact zk_Bu_bytesOfFirst | exact zk_Ro_kindAt _ _ _ | exact zk_Bu_tellByte_j42 _ _ | exact zk_Ro_valueAt _ _ _ | exact zk_Bu_fromFront _ _ | exact zk_R _ | exact zk_Pr _ _ | exact zk_Ln _ _ | intro _)
theorem zk_Bu_measure  : Zk 111 true (M_Bu_measure) := by
  unfold M_Bu_measure
  repeat' with_reducible (first | apply zk_B | apply zk_C | exact zk_Bu_hasString _ | exact zk_Bu_bytesOfFirst | exact zk_Ro_add _ _ _ _ (by omega) | exact zk_R _ | exact zk_Pr _ _ | exact zk_Ln _ _ | intro _)
theorem zk_Bu_hasFunction_j21  : Zk 111 true (M_Bu_hasFunction_j21) := by
  unfold M_Bu_hasFunction_j21
  repeat' with_reducible (first | apply zk_B | apply zk_C | exact zk_Ro_kindAt _ _ _ | exact zk_R _ | intro _)
theorem zk_Bu_hasFunction  : Zk 111 true (M_Bu_hasFunction) := by
  unfold M_Bu_hasFunction
  repeat' with_reducible (first | apply zk_B | apply zk_C | exact zk_Ro_kindAt _ _ _ | exact zk_Bu_hasFunction_j21 | exact zk_Ma_fail _ | intro _)
theorem zk_Bu_hasCoroutine_j21  : Zk 111 true (M_Bu_hasCoroutine_j21) := by
  unfold M_Bu_hasCoroutine_j21
  repeat' with_reducible (first | apply zk_B | apply zk_C | exact zk_Ro_kindAt _ _ _ | exact zk_R _ | intro _)
theorem zk_Bu_hasCoroutine  : Zk 111 true (M_Bu_hasCoroutine) := by
  unfold M_Bu_hasCoroutine
  repeat' with_reducible (first | apply zk_B | apply zk_C | exact zk_Ro_kindAt _ _ _ | exact zk_Bu_hasCoroutine_j21 | exact zk_Ma_fail _ | intro _)
theorem zk_Ma_giveWithTrue  : Zk 111 true (M_Ma_giveWithTrue) := by
  unfold M_Ma_giveWithTrue
  repeat' with_reducible (first | apply zk_B | apply zk_C | exact zk_Ro_addFirst _ _ _ _ (by omega) | exact zk_Ma_fail _ | exact zk_R _ | exact zk_GI _ _ | exact zk_PI (by omega) | intro _)
theorem zk_Bu_tellStatus  : Zk 111 true (M_Bu_tellStatus) := by
  unfold M_Bu_tellStatus
  repeat' with_reducible (first | apply zk_B | apply zk_C | exact zk_Bu_hasCoroutine | exact zk_Ro_valueAt _ _ _ | exact zk_Ma_coroutineOf _ | exact zk_Ro_add _ _ _ _ (by omega) | exact zk_R _ | exact zk_GI _ _ | exact zk_AI _ _ _ _ | exact zk_Pr _ _ | intro _)
theorem zk_St_finish_j235  : Zk 111 true (M_St_finish_j235) := by
  unfold M_St_finish_j235
  repeat' with_reducible (first | apply zk_B | exact zk_Ro_clear _ _ (by omega) | exact zk_R _ | intro _)
theorem zk_St_finish_j154 (k0 : Int32) : Zk 111 true (M_St_finish_j154 k0) := by
  unfold M_St_finish_j154
  repeat' with_reducible (first | apply zk_B | exact zk_St_decide _ | exact zk_St_finish_j235 | intro _)
theorem zk_St_finish  : Zk 111 true (M_St_finish) := by
  unfold M_St_finish
  repeat' with_reducible (first | apply zk_B | apply zk_C | exact zk_St_decode | exact zk_St_finish_j235 | exact zk_Ro_kindAt _ _ _ | exact zk_Ro_valueAt _ _ _ | exact zk_St_finish_j154 _ | exact zk_Ro_takeAll _ _ _ _ (by omega) (by omega) | exact zk_St_setAll _ _ | exact zk_GI _ _ | exact zk_PL (by omega) | exact zk_Pr _ _ | exact zk_PI (by omega) | intro _)
theorem zk_Ma_endAll_L2 (x) : Zk 111 true (M_Ma_endAll_L2 x) := by
  unfold M_Ma_endAll_L2
  repeat' with_reducible (first | apply zk_B | apply zk_C | exact zk_Ma_empty _ | exact zk_R _ | exact zk_GI _ _ | exact zk_Pr _ _ | exact zk_Pz _ _ _ | exact zk_PI (by omega) | intro _)
theorem zk_Ma_endAll_j63  : Zk 111 true (M_Ma_endAll_j63) := by
  unfold M_Ma_endAll_j63
  repeat' with_reducible (first | apply zk_B | exact zk_Ma_empty _ | exact zk_Ma_endWithError | exact zk_R _ | exact zk_GI _ _ | exact zk_Pr _ _ | intro _)
theorem zk_Ma_endAll  : Zk 111 true (M_Ma_endAll) := by
  unfold M_Ma_endAll
  repeat' with_reducible (first | apply zk_B | exact zk_Ma_endAll_L2 _ | exact zk_Ma_endAll_j63 | apply zk_W | intro _)
theorem zk_LM_kind (l1 : Int32) : Zk 111 true (M_LM_kind l1) := by
  unfold M_LM_kind
  repeat' with_reducible (first | apply zk_B | apply zk_C | exact zk_LM_hasNoResult _ | exact zk_R _ | exact zk_AI _ _ _ _ | exact zk_F | intro _)
theorem zk_Ch_readPrototype_j22 (l1 : Int32) (l2 : Int32) (ln : Nat × Nat) : Zk 100 true (M_Ch_readPrototype_j22 l1 l2 ln) := by
  unfold M_Ch_readPrototype_j22
  repeat' with_reducible (first | apply zk_B | apply zk_C | exact zk_Ch_readHead _ | exact zk_Ch_readUpvalues _ | exact zk_Ch_readConstants _ | exact zk_Ch_readCode _ | exact zk_Ch_readNumber _ | exact zk_R _ | exact zk_GI _ _ | exact zk_Pz _ _ _ | exact zk_PI (by omega) | intro _)
theorem zk_Ch_readPrototype (n0 : Nat × Nat) (l1 : Int32) (l2 : Int32) : Zk 100 true (M_Ch_readPrototype n0 l1 l2) := by
  unfold M_Ch_readPrototype
  repeat' with_reducible (first | apply zk_B | apply zk_C | exact zk_Ch_readPrototype_j22 _ _ _ | exact zk_K _ | exact zk_Ks _ | exact zk_Nz _ _ _ | exact zk_Nw _ _ | exact zk_S (zr_nwO (by omega)) | intro _)
theorem zk_Ch_goesWhereItMay_j206  : Zk 111 true (M_Ch_goesWhereItMay_j206) := by
  unfold M_Ch_goesWhereItMay_j206
  repeat' with_reducible (first | exact zk_R _ | intro _)
theorem zk_Ch_goesWhereItMay_j182 (l1 : Int32) (l2 : Int32) (l3 : Int32) (l5 : Int32) : Zk 111 true (M_Ch_goesWhereItMay_j182 l1 l2 l3 l5) := by
  unfold M_Ch_goesWhereItMay_j182
  repeat' with_reducible (first | apply zk_B | apply zk_C | exact zk_Ch_goesWhereItMay_j206 | exact zk_Ch_mayBeReached _ _ | exact zk_R _ | intro _)
theorem zk_Ch_goesWhereItMay_j164 (l1 : Int32) (l2 : Int32) (l3 : Int32) (l5 : Int32) (l7 : Int32) : Zk 111 true (M_Ch_goesWhereItMay_j164 l1 l2 l3 l5 l7) := by
  unfold M_Ch_goesWhereItMay_j164
  repeat' with_reducible (first | apply zk_B | apply zk_C | exact zk_Ch_goesWhereItMay_j182 _ _ _ _ | exact zk_Ch_mayBeReached _ _ | exact zk_R _ | intro _)
theorem zk_Ch_goesWhereItMay_j136 (l1 : Int32) (l2 : Int32) (l3 : Int32) (l5 : Int32) (l6 : Int32) (l7 : Int32) : Zk 111 true (M_Ch_goesWhereItMay_j136 l1 l2 l3 l5 l6 l7) := by
  unfold M_Ch_goesWhereItMay_j136
  repeat' with_reducible (first | apply zk_B | apply zk_C | exact zk_Ch_goesWhereItMay_j164 _ _ _ _ _ | exact zk_R _ | exact zk_GI _ _ | exact zk_AI _ _ _ _ | intro _)
theorem zk_Ch_goesWhereItMay_j117 (l1 : Int32) (l2 : Int32) (l3 : Int32) (l5 : Int32) (l6 : Int32) (l7 : Int32) (k0 : Int32) : Zk 111 true (M_Ch_goesWhereItMay_j117 l1 l2 l3 l5 l6 l7 k0) := by
  unfold M_Ch_goesWhereItMay_j117
  repeat' with_reducible (first | apply zk_B | apply zk_C | exact zk_Ch_goesWhereItMay_j136 _ _ _ _ _ _ | exact zk_R _ | exact zk_GI _ _ | intro _)
theorem zk_Ch_goesWhereItMay_j116 (l1 : Int32) (l2 : Int32) (l3 : Int32) (l5 : Int32) (l6 : Int32) (l7 : Int32) : Zk 111 true (M_Ch_goesWhereItMay_j116 l1 l2 l3 l5 l6 l7) := by
  unfold M_Ch_goesWhereItMay_j116
  repeat' with_reducible (first | exact zk_Ch_goesWhereItMay_j117 _ _ _ _ _ _ _ | intro _)
theorem zk_Ch_goesWhereItMay_j89 (l1 : Int32) (l2 : Int32) (l3 : Int32) (l4 : Int32) (l5 : Int32) (l6 : Int32) (k0 : Int32) : Zk 111 true (M_Ch_goesWhereItMay_j89 l1 l2 l3 l4 l5 l6 k0) := by
  unfold M_Ch_goesWhereItMay_j89
  repeat' with_reducible (first | apply zk_C | exact zk_Ch_goesWhereItMay_j116 _ _ _ _ _ _ | exact zk_Ch_goesWhereItMay_j117 _ _ _ _ _ _ _ | intro _)
theorem zk_Ch_goesWhereItMay_j84 (l1 : Int32) (l2 : Int32) (l3 : Int32) (l4 : Int32) (l5 : Int32) (l6 : Int32) : Zk 111 true (M_Ch_goesWhereItMay_j84 l1 l2 l3 l4 l5 l6) := by
  unfold M_Ch_goesWhereItMay_j84
  repeat' with_reducible (first | exact zk_Ch_goesWhereItMay_j89 _ _ _ _ _ _ _ | intro _)
theorem zk_Ch_goesWhereItMay_j88 (l1 : Int32) (l2 : Int32) (l3 : Int32) (l4 : Int32) (l5 : Int32) (l6 : Int32) : Zk 111 true (M_Ch_goesWhereItMay_j88 l1 l2 l3 l4 l5 l6) := by
  unfold M_Ch_goesWhereItMay_j88
  repeat' with_reducible (first | exact zk_Ch_goesWhereItMay_j89 _ _ _ _ _ _ _ | intro _)
theorem zk_Ch_goesWhereItMay_j60 (l1 : Int32) (l2 : Int32) (l3 : Int32) (l4 : Int32) (l5 : Int32) (k0 : Int32) : Zk 111 true (M_Ch_goesWhereItMay_j60 l1 l2 l3 l4 l5 k0) := by
  unfold M_Ch_goesWhereItMay_j60
  repeat' with_reducible (first | apply zk_C | exact zk_Ch_goesWhereItMay_j88 _ _ _ _ _ _ | exact zk_Ch_goesWhereItMay_j84 _ _ _ _ _ _ | intro _)
theorem zk_Ch_goesWhereItMay_j59 (l1 : Int32) (l2 : Int32) (l3 : Int32) (l4 : Int32) (l5 : Int32) : Zk 111 true (M_Ch_goesWhereItMay_j59 l1 l2 l3 l4 l5) := by
  unfold M_Ch_goesWhereItMay_j59
  repeat' with_reducible (first | exact zk_Ch_goesWhereItMay_j60 _ _ _ _ _ _ | intro _)
theorem zk_Ch_goesWhereItMay_j39 (l1 : Int32) (l2 : Int32) (l3 : Int32) (l4 : Int32) (k0 : Int32) : Zk 111 true (M_Ch_goesWhereItMay_j39 l1 l2 l3 l4 k0) := by
  unfold M_Ch_goesWhereItMay_j39
  repeat' with_reducible (first | apply zk_C | exact zk_Ch_goesWhereItMay_j59 _ _ _ _ _ | exact zk_Ch_goesWhereItMay_j60 _ _ _ _ _ _ | intro _)
theorem zk_Ch_goesWhereItMay_j34 (l1 : Int32) (l2 : Int32) (l3 : Int32) (l4 : Int32) : Zk 111 true (M_Ch_goesWhereItMay_j34 l1 l2 l3 l4) := by
  unfold M_Ch_goesWhereItMay_j34
  repeat' with_reducible (first | exact zk_Ch_goesWhereItMay_j39 _ _ _ _ _ | intro _)
theorem zk_Ch_goesWhereItMay (l1 : Int32) (l2 : Int32) (l3 : Int32) : Zk 111 true (M_Ch_goesWhereItMay l1 l2 l3) := by
  unfold M_Ch_goesWhereItMay
  repeat' with_reducible (first | apply zk_C | exact zk_Ch_goesWhereItMay_j34 _ _ _ _ | exact zk_Ch_goesWhereItMay_j39 _ _ _ _ _ | apply zk_L | intro _)
theorem zk_He_clean_L12 (x) : Zk 111 true (M_He_clean_L12 x) := by
  unfold M_He_clean_L12
  repeat' with_reducible (first | apply zk_B | apply zk_C | exact zk_R _ | exact zk_GI _ _ | exact zk_K _ | exact zk_Pz _ _ _ | exact zk_PI (by omega) | intro _)
theorem zk_He_clean_L72 (x) : Zk 111 true (M_He_clean_L72 x) := by
  unfold M_He_clean_L72
  repeat' with_reducible (first | apply zk_B | apply zk_C | exact zk_He_reach _ _ | exact zk_R _ | exact zk_GI _ _ | exact zk_Pz _ _ _ | intro _)
theorem zk_He_clean_j299 (l2 : Int32) : Zk 111 true (M_He_clean_j299 l2) := by
  unfold M_He_clean_j299
  repeat' with_reducible (first | exact zk_R _ | intro _)
theorem zk_He_clean_L230 (x) : Zk 111 true (M_He_clean_L230 x) := by
  unfold M_He_clean_L230
  repeat' with_reducible (first | apply zk_B | apply zk_C | exact zk_He_reachFromCoroutine _ | exact zk_He_clean_j299 _ | exact zk_He_reachFrom _ | exact zk_R _ | exact zk_GI _ _ | exact zk_AI _ _ _ _ | exact zk_Pz _ _ _ | exact zk_PI (by omega) | intro _)
theorem zk_He_clean_j305  : Zk 111 true (M_He_clean_j305) := by
  unfold M_He_clean_j305
  repeat' with_reducible (first | apply zk_B | exact zk_He_sweep | exact zk_R _ | intro _)
theorem zk_He_clean_j112 (l1 : Int32) : Zk 111 true (M_He_clean_j112 l1) := by
  unfold M_He_clean_j112
  repeat' with_reducible (first | apply zk_B | exact zk_He_reach _ _ | exact zk_He_reachRow _ _ _ _ _ _ | exact zk_He_clean_L230 _ | exact zk_He_clean_j305 | exact zk_GI _ _ | apply zk_W | intro _)
