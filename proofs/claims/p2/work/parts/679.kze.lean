/-! Made by wip/l2n/zgen.py: what the class's programs leave alone. -/
theorem zk_Ch_checkAll  : Zk 100 true (M_Ch_checkAll) := by
  unfold M_Ch_checkAll
  repeat' with_reducible (first | apply zk_B | exact zk_Ch_listChildren | exact (zk_Ch_checkAll_L6 _).wz | exact zk_Ch_refuse _ _ | exact zk_R _ | exact zk_GI _ _ | exact zk_K _ | apply zk_W | apply zk_E | intro _)
theorem zk_Ta_make (n0 : Nat × Nat) : Zk 111 true (M_Ta_make n0) := by
  unfold M_Ta_make
  repeat' with_reducible (first | apply zk_B | apply zk_C | exact zk_He_make _ _ _ _ | exact zk_R _ | exact zk_Pz _ _ _ | exact zk_PI (by omega) | intro _)
theorem zk_Ma_fillGlobals_L2 (x) : Zk 111 true (M_Ma_fillGlobals_L2 x) := by
  unfold M_Ma_fillGlobals_L2
  repeat' with_reducible (first | apply zk_B | apply zk_C | exact zk_Ta_write _ _ _ _ _ | exact zk_R _ | exact zk_GI _ _ | exact zk_AI _ _ _ _ | intro _)
theorem zk_Ma_fillGlobals  : Zk 111 true (M_Ma_fillGlobals) := by
  unfold M_Ma_fillGlobals
  repeat' with_reducible (first | apply zk_B | exact zk_Ma_fillGlobals_L2 _ | exact zk_R _ | apply zk_W | apply zk_E | intro _)
theorem zk_Ma_beginMain (n0 : Nat × Nat) (l1 : Int32) : Zk 111 true (M_Ma_beginMain n0 l1) := by
  unfold M_Ma_beginMain
  repeat' with_reducible (first | apply zk_B | apply zk_C | exact zk_He_makeClosure _ _ _ | exact zk_He_makeCoroutine _ _ | exact zk_Ma_begin _ | exact zk_Ma_enterClosure _ | exact zk_R _ | exact zk_GI _ _ | exact zk_SI (by omega) | exact zk_K _ | exact zk_Pr _ _ | exact zk_Pz _ _ _ | exact zk_Ln _ _ | exact zk_PI (by omega) | intro _)
theorem zk_St_newTable (n0 : Nat × Nat) : Zk 111 true (M_St_newTable n0) := by
  unfold M_St_newTable
  repeat' with_reducible (first | apply zk_B | apply zk_C | exact zk_Ta_make _ | exact zk_St_set _ _ _ | exact zk_Ma_fail _ | exact zk_R _ | exact zk_GI _ _ | intro _)
theorem zk_St_makeClosure_j84 (l1 : Int32) (l2 : Int32) (l3 : Int32) (ln : Nat × Nat) (k0 : Int32) : Zk 111 true (M_St_makeClosure_j84 l1 l2 l3 ln k0) := by
  unfold M_St_makeClosure_j84
  repeat' with_reducible (first | apply zk_C | exact zk_R _ | intro _)
theorem zk_St_makeClosure_L33 (x) : Zk 111 true (M_St_makeClosure_L33 x) := by
  unfold M_St_makeClosure_L33
  repeat' with_reducible (first | apply zk_B | apply zk_C | exact zk_He_openVariable _ _ _ | exact zk_St_makeClosure_j84 _ _ _ _ _ | exact zk_R _ | exact zk_GI _ _ | exact zk_AI _ _ _ _ | exact zk_Pr _ _ | intro _)
theorem zk_St_makeClosure_j216 (l2 : Int32) (l3 : Int32) (l4 : Int32) (l5 : Int32) (ln : Nat × Nat) (k0 : Int32) (k1 : Int32) (k2 : Int32) : Zk 111 true (M_St_makeClosure_j216 l2 l3 l4 l5 ln k0 k1 k2) := by
  unfold M_St_makeClosure_j216
  repeat' with_reducible (first | apply zk_B | exact zk_R _ | exact zk_SI (by omega) | exact zk_Ln _ _ | intro _)
theorem zk_St_makeClosure_L152 (x) : Zk 111 true (M_St_makeClosure_L152 x) := by
  unfold M_St_makeClosure_L152
  repeat' with_reducible (first | apply zk_B | apply zk_C | exact zk_He_openVariable _ _ _ | exact zk_St_makeClosure_j216 _ _ _ _ _ _ _ _ | exact zk_St_upvalue _ | exact zk_R _ | exact zk_GI _ _ | exact zk_AI _ _ _ _ | exact zk_Pr _ _ | intro _)
theorem zk_St_makeClosure (n0 : Nat × Nat) : Zk 111 true (M_St_makeClosure n0) := by
  unfold M_St_makeClosure
  repeat' with_reducible (first | apply zk_B | apply zk_C | exact zk_St_makeClosure_L33 _ | exact zk_Ma_fail _ | exact zk_He_makeClosure _ _ _ | exact zk_St_makeClosure_L152 _ | exact zk_St_set _ _ _ | exact zk_R _ | exact zk_GI _ _ | exact zk_AI _ _ _ _ | exact zk_K _ | exact zk_Pr _ _ | exact zk_Pz _ _ _ | apply zk_W | apply zk_E | intro _)
theorem zk_St_step_j255 (ln : Nat × Nat) : Zk 111 true (M_St_step_j255 ln) := by
  unfold M_St_step_j255
  repeat' with_reducible (first | apply zk_B | exact zk_St_callOrReturn | exact zk_R _ | intro _)
theorem zk_St_step (n0 : Nat × Nat) : Zk 111 true (M_St_step n0) := by
  unfold M_St_step
  repeat' with_reducible (first | apply zk_B | apply zk_C | exact zk_Co_top _ | exact zk_St_decode | exact zk_St_upvalue _ | exact zk_He_variableKind _ | exact zk_He_variableValue _ | exact zk_St_write _ _ | exact zk_St_kindOf _ | exact zk_St_valueOf _ | exact zk_St_newTable _ | exact zk_St_setList | exact zk_St_makeClosure _ | exact zk_St_step_j255 _ | exact zk_St_loopOrTake | exact zk_St_branch | exact zk_St_reckonOne | exact zk_St_reckon | exact zk_St_move | exact zk_R _ | exact zk_GI _ _ | exact zk_Pr _ _ | exact zk_PI (by omega) | intro _)
theorem zk_Arr_copyOf (n0 : Nat × Nat) (l0r : Nat) (l0 : Int32) (l1 : Int32) : Zk 111 true (M_Arr_copyOf n0 l0r l0 l1) := by
  unfold M_Arr_copyOf
  repeat' with_reducible (first | apply zk_B | apply zk_C | exact zk_Mth_min _ _ | exact zk_R _ | exact zk_K _ | exact zk_Nw _ _ | exact zk_Ln _ _ | exact zk_CI (by omega) | exact zk_S (zr_nwR (by omega)) | exact zk_S (zr_clB (by omega)) | intro _)
theorem zk_Arr_copyOfRangeByte (n0 : Nat × Nat) (l0r : Nat) (l0 : Int32) (l1 : Int32) (l2 : Int32) : Zk 111 true (M_Arr_copyOfRangeByte n0 l0r l0 l1 l2) := by
  unfold M_Arr_copyOfRangeByte
  repeat' with_reducible (first | apply zk_B | exact zk_Arr_checkLength _ _ | exact zk_Mth_min _ _ | exact zk_R _ | exact zk_K _ | exact zk_Nw _ _ | exact zk_Ln _ _ | exact zk_CI (by omega) | apply zk_L | exact zk_S (zr_nwR (by omega)) | intro _)
theorem zk_He_putByte_j67 (ln : Nat × Nat) : Zk 111 true (M_He_putByte_j67 ln) := by
  unfold M_He_putByte_j67
  repeat' with_reducible (first | apply zk_B | exact zk_R _ | exact zk_GI _ _ | exact zk_PI (by omega) | intro _)
theorem zk_He_putByte_j44 (l1 : Int32) (ln : Nat × Nat) : Zk 111 true (M_He_putByte_j44 l1 ln) := by
  unfold M_He_putByte_j44
  repeat' with_reducible (first | apply zk_B | apply zk_C | exact zk_He_putByte_j67 _ | exact zk_GI _ _ | exact zk_SI (by omega) | exact zk_Ln _ _ | intro _)
theorem zk_He_putByte (n0 : Nat × Nat) (l1 : Int32) : Zk 111 true (M_He_putByte n0 l1) := by
  unfold M_He_putByte
  repeat' with_reducible (first | apply zk_B | apply zk_C | exact zk_He_putByte_j44 _ _ | exact zk_Mth_min _ _ | exact zk_Arr_copyOf _ _ _ _ | exact zk_GI _ _ | exact zk_K _ | exact zk_Pr _ _ | exact zk_Ln _ _ | exact zk_S (zr_mvB (by omega)) | intro _)
theorem zk_He_putText_L2 (x) : Zk 111 true (M_He_putText_L2 x) := by
  unfold M_He_putText_L2
  repeat' with_reducible (first | apply zk_B | apply zk_C | exact zk_He_putByte _ _ | exact zk_R _ | exact zk_K _ | intro _)
theorem zk_He_putText (n0 : Nat × Nat) (l1 : Nat) : Zk 111 true (M_He_putText n0 l1) := by
  unfold M_He_putText
  repeat' with_reducible (first | apply zk_B | exact zk_He_putText_L2 _ | exact zk_R _ | apply zk_W | intro _)
theorem zk_He_putDecimal_L14 (x) : Zk 111 true (M_He_putDecimal_L14 x) := by
  unfold M_He_putDecimal_L14
  repeat' with_reducible (first | apply zk_B | apply zk_C | exact zk_R _ | exact zk_K _ | apply zk_L | intro _)
theorem zk_He_putDecimal_L43 (x) : Zk 111 true (M_He_putDecimal_L43 x) := by
  unfold M_He_putDecimal_L43
  repeat' with_reducible (first | apply zk_B | apply zk_C | exact zk_Mth_abs _ | exact zk_He_putByte _ _ | exact zk_R _ | exact zk_K _ | apply zk_L | intro _)
theorem zk_He_putDecimal_j12 (l1 : Int64) (ln : Nat × Nat) : Zk 111 true (M_He_putDecimal_j12 l1 ln) := by
  unfold M_He_putDecimal_j12
  repeat' with_reducible (first | apply zk_B | exact zk_He_putDecimal_L14 _ | exact zk_He_putDecimal_L43 _ | exact zk_R _ | apply zk_W | intro _)
theorem zk_He_putDecimal (n0 : Nat × Nat) (l1 : Int64) : Zk 111 true (M_He_putDecimal n0 l1) := by
  unfold M_He_putDecimal
  repeat' with_reducible (first | apply zk_B | apply zk_C | exact zk_He_putDecimal_j12 _ _ | exact zk_He_putByte _ _ | intro _)
theorem zk_He_putBytes_j65 (l2 : Int32) (ln : Nat × Nat) : Zk 111 true (M_He_putBytes_j65 l2 ln) := by
  unfold M_He_putBytes_j65
  repeat' with_reducible (first | apply zk_B | exact zk_R _ | exact zk_PI (by omega) | intro _)
theorem zk_He_putBytes_j50 (l1 : Int32) (l2 : Int32) (ln : Nat × Nat) : Zk 111 true (M_He_putBytes_j50 l1 l2 ln) := by
  unfold M_He_putBytes_j50
  repeat' with_reducible (first | apply zk_B | exact zk_He_putBytes_j65 _ _ | exact zk_GI _ _ | exact zk_Ln _ _ | exact zk_CI (by omega) | intro _)
theorem zk_He_putBytes (n0 : Nat × Nat) (l1 : Int32) : Zk 111 true (M_He_putBytes n0 l1) := by
  unfold M_He_putBytes
  repeat' with_reducible (first | apply zk_B | apply zk_C | exact zk_He_putBytes_j65 _ _ | exact zk_He_putBytes_j50 _ _ _ | exact zk_Mth_max _ _ | exact zk_Mth_min _ _ | exact zk_Arr_copyOf _ _ _ _ | exact zk_GI _ _ | exact zk_K _ | exact zk_Pr _ _ | exact zk_Ln _ _ | apply zk_L | exact zk_S (zr_mvB (by omega)) | intro _)
theorem zk_Arr_copyOfRange_j10 (l0r : Nat) (l0 : Int32) (l1 : Int32) (l2 : Int32) (ln : Nat × Nat) : Zk 111 true (M_Arr_copyOfRange_j10 l0r l0 l1 l2 ln) := by
  unfold M_Arr_copyOfRange_j10
  repeat' with_reducible (first | apply zk_B | exact zk_Arr_copyOfRangeByte _ _ _ _ _ | exact zk_R _ | exact zk_K _ | exact zk_Pr _ _ | intro _)
theorem zk_Arr_copyOfRange (n0 : Nat × Nat) (l0r : Nat) (l0 : Int32) (l1 : Int32) (l2 : Int32) : Zk 111 true (M_Arr_copyOfRange n0 l0r l0 l1 l2) := by
  unfold M_Arr_copyOfRange
  repeat' with_reducible (first | apply zk_B | apply zk_C | exact zk_Arr_copyOfRange_j10 _ _ _ _ _ | exact zk_R _ | exact zk_Nw _ _ | exact zk_Ln _ _ | exact zk_S (zr_clB (by omega)) | intro _)
theorem zk_Bu_describe_j135 (l2 : Int64) (ln : Nat × Nat) : Zk 111 true (M_Bu_describe_j135 l2 ln) := by
  unfold M_Bu_describe_j135
  repeat' with_reducible (first | apply zk_B | exact zk_He_numberOf _ | exact zk_He_putDecimal _ _ | exact zk_R _ | intro _)
theorem zk_Bu_describe_j120 (l2 : Int64) (ln : Nat × Nat) (k0 : Nat) : Zk 111 true (M_Bu_describe_j120 l2 ln k0) := by
  unfold M_Bu_describe_j120
  repeat' with_reducible (first | apply zk_B | exact zk_He_putText _ _ | exact zk_Bu_describe_j135 _ _ | intro _)
theorem zk_Bu_describe (n0 : Nat × Nat) (l1 : Int32) (l2 : Int64) : Zk 111 true (M_Bu_describe n0 l1 l2) := by
  unfold M_Bu_describe
  repeat' with_reducible (first | apply zk_B | apply zk_C | exact zk_He_putText _ _ | exact zk_He_putDecimal _ _ | exact zk_Bu_describe_j135 _ _ | exact zk_Bu_describe_j120 _ _ _ | exact zk_R _ | exact zk_PI (by omega) | intro _)
theorem zk_St_putText (n0 : Nat × Nat) (l1 : Int32) (l2 : Int64) : Zk 111 true (M_St_putText n0 l1 l2) := by
  unfold M_St_putText
  repeat' with_reducible (first | apply zk_B | apply zk_C | exact zk_He_putBytes _ _ | exact zk_He_putDecimal _ _ | exact zk_R _ | exact zk_GI _ _ | exact zk_K _ | exact zk_Pz _ _ _ | intro _)
theorem zk_Bu_print_j108 (l1 : Int32) (ln : Nat × Nat) : Zk 111 true (M_Bu_print_j108 l1 ln) := by
  unfold M_Bu_print_j108
  repeat' with_reducible (first | exact zk_R _ | intro _)
theorem zk_Bu_print_j23 (l1 : Int32) (ln : Nat × Nat) : Zk 111 false (M_Bu_print_j23 l1 ln) := by
  unfold M_Bu_print_j23
  repeat' with_reducible (first | apply zk_B | apply zk_C | exact zk_Bu_printBytes _ _ _ | exact (zk_Bu_print_j108 _ _).wb _ | exact (zk_Bu_describe _ _ _).wb _ | exact zk_GI _ _ | exact zk_AI _ _ _ _ | exact zk_AL _ _ _ _ | exact zk_K _ | exact zk_Pz _ _ _ | exact zk_Ln _ _ | intro _)
theorem zk_Bu_print_L2 (x) : Zk 111 false (M_Bu_print_L2 x) := by
  unfold M_Bu_print_L2
  repeat' with_reducible (first | apply zk_B | apply zk_C | exact zk_Bu_print_j23 _ _ | exact zk_Bu_printByte _ | exact zk_R _ | exact zk_GI _ _ | intro _)
theorem zk_Bu_print (n0 : Nat × Nat) : Zk 111 false (M_Bu_print n0) := by
  unfold M_Bu_print
  repeat' with_reducible (first | apply zk_B | exact zk_Bu_print_L2 _ | exact zk_Bu_printByte _ | exact zk_R _ | apply zk_W | intro _)
theorem zk_He_intern_L15 (x) : Zk 111 true (M_He_intern_L15 x) := by
  unfold M_He_intern_L15
  repeat' with_reducible (first | apply zk_B | apply zk_C | exact zk_R _ | exact zk_AI _ _ _ _ | exact zk_Ln _ _ | apply zk_L | intro _)
theorem zk_He_intern_j117 (l1r : Nat) (l1 : Int32) (l2 : Int32) (l3 : Int32) (l4 : Int32) (l5 : Int32) (l6 : Int32) (l7 : Int32) (ln : Nat × Nat) : Zk 111 true (M_He_intern_j117 l1r l1 l2 l3 l4 l5 l6 l7 ln) := by
  unfold M_He_intern_j117
  repeat' with_reducible (first | apply zk_B | exact zk_R _ | exact zk_GI _ _ | exact zk_Pz _ _ _ | intro _)
theorem zk_He_intern_L67 (x) : Zk 111 true (M_He_intern_L67 x) := by
  unfold M_He_intern_L67
  repeat' with_reducible (first | apply zk_B | apply zk_C | exact zk_He_isSame _ _ _ _ _ | exact zk_He_intern_j117 _ _ _ _ _ _ _ _ _ | exact zk_R _ | exact zk_GI _ _ | exact zk_K _ | exact zk_Pz _ _ _ | intro _)
theorem zk_He_intern_j135 (l1r : Nat) (l1 : Int32) (l2 : Int32) (l3 : Int32) (l4 : Int32) (l5 : Int32) (ln : Nat × Nat) : Zk 111 true (M_He_intern_j135 l1r l1 l2 l3 l4 l5 ln) := by
  unfold M_He_intern_j135
  repeat' with_reducible (first | apply zk_B | apply zk_C | exact zk_He_make _ _ _ _ | exact zk_Arr_copyOfRange _ _ _ _ _ | exact zk_R _ | exact zk_AI _ _ _ _ | exact zk_SI (by omega) | exact zk_K _ | exact zk_Pr _ _ | exact zk_Pz _ _ _ | exact zk_S (zr_mvB (by omega)) | exact zk_PI (by omega) | intro _)
theorem zk_He_intern (n0 : Nat × Nat) (l1r : Nat) (l1 : Int32) (l2 : Int32) (l3 : Int32) : Zk 111 true (M_He_intern n0 l1r l1 l2 l3) := by
  unfold M_He_intern
  repeat' with_reducible (first | apply zk_B | apply zk_C | exact zk_He_intern_L15 _ | exact zk_He_intern_L67 _ | exact zk_He_intern_j135 _ _ _ _ _ _ _ | exact zk_R _ | exact zk_AI _ _ _ _ | apply zk_L | apply zk_W | apply zk_E | intro _)
theorem zk_Ma_internConstants_j96 (l1 : Int32) (ln : Nat × Nat) : Zk 111 true (M_Ma_internConstants_j96 l1 ln) := by
  unfold M_Ma_internConstants_j96
  repeat' with_reducible (first | exact zk_R _ | intro _)
theorem zk_Ma_internConstants_L2 (x) : Zk 100 true (M_Ma_internConstants_L2 x) := by
  unfold M_Ma_internConstants_L2
  repeat' with_reducible (first | apply zk_B | apply zk_C | exact (zk_He_intern _ _ _ _ _).wz | exact (zk_Ma_internConstants_j96 _ _).wz | exact zk_R _ | exact zk_GI _ _ | exact zk_AI _ _ _ _ | exact zk_AL _ _ _ _ | exact zk_SL (by omega) | exact zk_Pz _ _ _ | exact zk_PI (by omega) | intro _)
theorem zk_Ma_internConstants (n0 : Nat × Nat) : Zk 100 true (M_Ma_internConstants n0) := by
  unfold M_Ma_internConstants
  repeat' with_reducible (first | apply zk_B | exact zk_Ma_internConstants_L2 _ | exact zk_R _ | apply zk_W | apply zk_E | intro _)
theorem zk_Bu_makeText (n0 : Nat × Nat) : Zk 111 true (M_Bu_makeText n0) := by
  unfold M_Bu_makeText
  repeat' with_reducible (first | apply zk_B | apply zk_C | exact zk_Ro_kindAt _ _ _ | exact zk_Ro_valueAt _ _ _ | exact zk_Ta_findEvent _ _ _ | exact zk_Ro_add _ _ _ _ (by omega) | exact zk_Bu_describe _ _ _ | exact zk_He_intern _ _ _ _ _ | exact zk_Bu_addMade _ _ | exact zk_Co_push _ _ _ _ | exact zk_Ma_fail _ | exact zk_Ma_callEntry _ _ _ _ _ | exact zk_R _ | exact zk_GI _ _ | exact zk_Pr _ _ | exact zk_PI (by omega) | intro _)
theorem zk_Bu_cut_j73 (l1 : Int32) (l2 : Int64) (ln : Nat × Nat) (k0 : Int64) : Zk 111 true (M_Bu_cut_j73 l1 l2 ln k0) := by
  unfold M_Bu_cut_j73
  repeat' with_reducible (first | apply zk_B | exact zk_Mth_max_ _ _ | exact zk_Mth_min_ _ _ | exact zk_Mth_max _ _ | exact zk_He_intern _ _ _ _ _ | exact zk_Bu_addMade _ _ | exact zk_R _ | exact zk_Ln _ _ | intro _)
theorem zk_Bu_cut_j42 (l1 : Int32) (ln : Nat × Nat) (k0 : Int64) : Zk 111 true (M_Bu_cut_j42 l1 ln k0) := by
  unfold M_Bu_cut_j42
  repeat' with_reducible (first | apply zk_B | apply zk_C | exact zk_Ro_kindAt _ _ _ | exact zk_Bu_cut_j73 _ _ _ _ | exact zk_Ro_valueAt _ _ _ | exact zk_Bu_fromFront _ _ | exact zk_Ln _ _ | intro _)
theorem zk_Bu_cut (n0 : Nat × Nat) : Zk 111 true (M_Bu_cut n0) := by
  unfold M_Bu_cut
  repeat' with_reducible (first | apply zk_B | apply zk_C | exact zk_Bu_hasString _ | exact zk_Bu_bytesOfFirst | exact zk_Ro_kindAt _ _ _ | exact zk_Bu_cut_j42 _ _ _ | exact zk_Ro_valueAt _ _ _ | exact zk_Bu_fromFront _ _ | exact zk_R _ | exact zk_Pr _ _ | exact zk_Ln _ _ | intro _)
theorem zk_Bu_makeOfBytes_L10 (x) : Zk 111 true (M_Bu_makeOfBytes_L10 x) := by
  unfold M_Bu_makeOfBytes_L10
  repeat' with_reducible (first | apply zk_B | apply zk_C | exact zk_He_putByte _ _ | exact zk_R _ | exact zk_GI _ _ | exact zk_AI _ _ _ _ | exact zk_AL _ _ _ _ | intro _)
theorem zk_Bu_makeOfBytes_j73 (ln : Nat × Nat) : Zk 111 true (M_Bu_makeOfBytes_j73 ln) := by
  unfold M_Bu_makeOfBytes_j73
  repeat' with_reducible (first | apply zk_B | exact zk_Ma_fail _ | exact zk_R _ | intro _)
theorem zk_Bu_makeOfBytes (n0 : Nat × Nat) : Zk 111 true (M_Bu_makeOfBytes n0) := by
  unfold M_Bu_makeOfBytes
  repeat' with_reducible (first | apply zk_B | exact zk_Bu_makeOfBytes_L10 _ | exact zk_Ma_fail _ | exact zk_Bu_makeOfBytes_j73 _ | exact zk_He_intern _ _ _ _ _ | exact zk_Bu_addMade _ _ | exact zk_R _ | exact zk_GI _ _ | apply zk_W | exact zk_PI (by omega) | apply zk_E | intro _)
theorem zk_St_joined (n0 : Nat × Nat) (l1 : Int32) (l2 : Int64) : Zk 111 true (M_St_joined n0 l1 l2) := by
  unfold M_St_joined
  repeat' with_reducible (first | apply zk_B | exact zk_St_putText _ _ _ | exact zk_He_intern _ _ _ _ _ | exact zk_R _ | exact zk_GI _ _ | exact zk_GL _ _ | exact zk_Pr _ _ | exact zk_PI (by omega) | intro _)
theorem zk_Ma_internNames_j122 (l1 : Nat) (l3 : Int32) (l4 : Int32) (ln : Nat × Nat) : Zk 111 true (M_Ma_internNames_j122 l1 l3 l4 ln) := by
  unfold M_Ma_internNames_j122
  repeat' with_reducible (first | exact zk_R _ | intro _)
theorem zk_Ma_internNames_L13 (x) : Zk 111 true (M_Ma_internNames_L13 x) := by
  unfold M_Ma_internNames_L13
  repeat' with_reducible (first | apply zk_B | apply zk_C | exact zk_He_intern _ _ _ _ _ | exact zk_Ma_internNames_j122 _ _ _ _ | exact zk_He_putByte _ _ | exact zk_R _ | exact zk_GI _ _ | exact zk_SI (by omega) | exact zk_K _ | exact zk_Pz _ _ _ | exact zk_PI (by omega) | intro _)
theorem zk_Ma_internNames (n0 : Nat × Nat) (l1 : Nat) (l2 : Int32) : Zk 111 true (M_Ma_internNames n0 l1 l2) := by
  unfold M_Ma_internNames
  repeat' with_reducible (first | apply zk_B | exact zk_Ma_internNames_L13 _ | exact zk_R _ | apply zk_W | exact zk_PI (by omega) | apply zk_E | intro _)
theorem zk_Bu_perform_j343 (ln : Nat × Nat) : Zk 111 true (M_Bu_perform_j343 ln) := by
  unfold M_Bu_perform_j343
  repeat' with_reducible (first | apply zk_B | apply zk_C | exact zk_Ro_clear _ _ (by omega) | exact zk_R _ | exact zk_GI _ _ | intro _)
theorem zk_Bu_perform (n0 : Nat × Nat) : Zk 111 false (M_Bu_perform n0) := by
  unfold M_Bu_perform
  repeat' with_reducible (first | apply zk_B | apply zk_C | exact (zk_Ro_clear _ _ (by omega)).wb _ | exact zk_Bu_print _ | exact (zk_Bu_perform_j343 _).wb _ | exact (zk_Bu_makeText _).wb _ | exact (zk_Ro_kindAt _ _ _).wb _ | exact (zk_Bu_typeOf _).wb _ | exact (zk_Ro_add _ _ _ _ (by omega)).wb _ | exact (zk_Ro_valueAt _ _ _).wb _ | exact (zk_Ma_raise _ _).wb _ | exact (zk_Bu_callProtected).wb _ | exact (zk_Bu_setMetatable).wb _ | exact (zk_Bu_getMetatable).wb _ | exact (zk_Bu_readRaw).wb _ | exact (zk_Bu_writeRaw).wb _ | exact (zk_Bu_measureRaw).wb _ | exact (zk_Bu_compareRaw).wb _ | exact (zk_Bu_next).wb _ | exact (zk_Bu_select).wb _ | exact (zk_Bu_cut _).wb _ | exact (zk_Bu_tellByte).wb _ | exact (zk_Bu_makeOfBytes _).wb _ | exact (zk_Bu_measure).wb _ | exact (zk_Bu_create _).wb _ | exact (zk_Bu_resume).wb _ | exact (zk_Bu_giveWay).wb _ | exact (zk_Bu_tellStatus).wb _ | exact (zk_Bu_tellRunning).wb _ | exact (zk_Bu_wrap _).wb _ | exact (zk_Bu_cleanUp).wb _ | exact zk_GL _ _ | exact zk_AI _ _ _ _ | exact zk_PI (by omega) | intro _)
theorem zk_St_joinOn_L12 (x) : Zk 111 true (M_St_joinOn_L12 x) := by
  unfold M_St_joinOn_L12
  repeat' with_reducible (first | apply zk_B | apply zk_C | exact zk_St_kindOf _ | exact zk_St_isText _ | exact zk_St_valueOf _ | exact zk_St_joined _ _ _ | exact zk_R _ | exact zk_GI _ _ | exact zk_PL (by omega) | exact zk_Pr _ _ | exact zk_PI (by omega) | intro _)
theorem zk_St_joinOn_j95 (ln : Nat × Nat) : Zk 111 true (M_St_joinOn_j95 ln) := by
  unfold M_St_joinOn_j95
  repeat' with_reducible (first | apply zk_B | exact zk_St_forgetJoined | exact zk_R _ | intro _)
theorem zk_St_joinOn_j54 (l1 : Int32) (ln : Nat × Nat) : Zk 111 true (M_St_joinOn_j54 l1 ln) := by
  unfold M_St_joinOn_j54
  repeat' with_reducible (first | apply zk_B | apply zk_C | exact zk_St_kindOf _ | exact zk_St_valueOf _ | exact zk_St_callsEither _ _ _ _ _ | exact zk_Ma_fail _ | exact zk_St_joinOn_j95 _ | exact zk_GI _ _ | exact zk_GL _ _ | exact zk_Pr _ _ | intro _)
theorem zk_St_joinOn (n0 : Nat × Nat) : Zk 111 true (M_St_joinOn n0) := by
  unfold M_St_joinOn
  repeat' with_reducible (first | apply zk_B | exact zk_St_decode | exact zk_St_joinOn_L12 _ | exact zk_St_joinOn_j54 _ _ | exact zk_Ma_fail _ | exact zk_St_set _ _ _ | exact zk_St_forgetJoined | exact zk_R _ | exact zk_GI _ _ | exact zk_GL _ _ | exact zk_Pr _ _ | apply zk_W | exact zk_PI (by omega) | apply zk_E | intro _)
theorem zk_Ma_boot_j161 (ln : Nat × Nat) : Zk 111 true (M_Ma_boot_j161 ln) := by
  unfold M_Ma_boot_j161
  repeat' with_reducible (first | exact zk_R _ | intro _)
theorem zk_Ma_boot (n0 : Nat × Nat) : Zk 100 true (M_Ma_boot n0) := by
  unfold M_Ma_boot
  repeat' with_reducible (first | apply zk_B | apply zk_C | exact (zk_He_restart).wz | exact (zk_Ta_restart).wz | exact (zk_Ro_clear _ _ (by omega)).wz | exact (zk_Ta_make _).wz | exact (zk_Ma_internNames _ _ _).wz | exact (zk_He_makeClosedVariable _ _ _).wz | exact (zk_Ma_boot_j161 _).wz | exact zk_Ma_internConstants _ | exact (zk_Ma_fillGlobals).wz | exact (zk_Ma_beginMain _ _).wz | exact zk_R _ | exact zk_GI _ _ | exact zk_PI (by omega) | intro _)
theorem zk_LM_run_j177 (l2 : Int32) (l3 : Int32) (ln : Nat × Nat) : Zk 111 true (M_LM_run_j177 l2 l3 ln) := by
  unfold M_LM_run_j177
  repeat' with_reducible (first | exact zk_R _ | intro _)
theorem zk_LM_run_L59 (x) : Zk 111 false (M_LM_run_L59 x) := by
  unfold M_LM_run_L59
  repeat' with_reducible (first | apply zk_B | apply zk_C | exact (zk_Ma_enter).wb _ | exact (zk_LM_run_j177 _ _ _).wb _ | exact zk_Bu_perform _ | exact (zk_Ma_give_).wb _ | exact (zk_St_finish).wb _ | exact (zk_St_joinOn _).wb _ | exact (zk_Ma_unwind).wb _ | exact zk_R _ | exact zk_GI _ _ | intro _)
theorem zk_LM_run_j183 (l2 : Int32) (ln : Nat × Nat) : Zk 111 true (M_LM_run_j183 l2 ln) := by
  unfold M_LM_run_j183
  repeat' with_reducible (first | exact zk_R _ | intro _)
theorem zk_LM_run_L36 (x) : Zk 111 false (M_LM_run_L36 x) := by
  unfold M_LM_run_L36
  repeat' with_reducible (first | apply zk_B | apply zk_C | exact (zk_St_step _).wb _ | exact zk_LM_run_L59 _ | exact (zk_LM_run_j183 _ _).wb _ | exact zk_R _ | exact zk_GI _ _ | apply zk_W | intro _)
theorem zk_LM_run_j189 (ln : Nat × Nat) : Zk 111 true (M_LM_run_j189 ln) := by
  unfold M_LM_run_j189
  repeat' with_reducible (first | apply zk_B | exact zk_R _ | exact zk_GI _ _ | intro _)
theorem zk_LM_run (n0 : Nat × Nat) (l1 : Int32) : Zk 111 false (M_LM_run n0 l1) := by
  unfold M_LM_run
  repeat' with_reducible (first | apply zk_B | apply zk_C | exact zk_LM_run_L36 _ | exact (zk_LM_run_j189 _).wb _ | exact zk_GI _ _ | exact zk_F | apply zk_W | intro _)
theorem zk_LM_load (n0 : Nat × Nat) : Zk 100 false (M_LM_load n0) := by
  unfold M_LM_load
  repeat' with_reducible (first | apply zk_B | apply zk_C | exact (zk_Ch_readAll _ _).wb _ | exact (zk_Ch_checkAll).wb _ | exact (zk_Ma_boot _).wb _ | exact zk_R _ | exact zk_GI _ _ | exact zk_F | exact zk_PIw (by omega) | exact zk_PI (by omega) | intro _)
