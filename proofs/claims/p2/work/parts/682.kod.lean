/-! Made by wip/l2n/zgen2.py: programs that leave the frames alone. -/
theorem ko_St_setList_L147 (x) : Kok true true (M_St_setList_L147 x) := by
  unfold M_St_setList_L147
  repeat' with_reducible (first | apply ko_B | apply ko_C | exact ko_Ta_write _ _ _ _ _ | exact ko_R _ | exact ko_GI _ _ | exact ko_AI _ _ _ _ | exact ko_AL _ _ _ _ | intro _)
theorem ko_St_setList_j210 (l3 : Int32) : Kok true false (M_St_setList_j210 l3) := by
  unfold M_St_setList_j210
  repeat' with_reducible (first | apply ko_B | apply ko_C | exact (ko_Ro_clear _ _ (by omega)).wu | exact ko_Ma_fail _ | exact ko_R _ | intro _)
theorem ko_St_setList_j144 (l1 : Int32) (l2 : Int32) (l3 : Int32) (l4 : Int32) : Kok true false (M_St_setList_j144 l1 l2 l3 l4) := by
  unfold M_St_setList_j144
  repeat' with_reducible (first | apply ko_B | exact (ko_St_setList_L147 _).wu | exact ko_St_setList_j210 _ | apply ko_W | intro _)
theorem ko_St_setList_j68 (l1 : Int32) (l2 : Int32) (k0 : Int32) : Kok true false (M_St_setList_j68 l1 l2 k0) := by
  unfold M_St_setList_j68
  repeat' with_reducible (first | apply ko_B | exact (ko_St_valueOf _).wu | exact (ko_St_setList_L83 _).wu | exact ko_St_setList_j144 _ _ _ _ | exact ko_GI _ _ | apply ko_W | intro _)
theorem ko_St_setList_j50 (l1 : Int32) (k0 : Int32) : Kok true false (M_St_setList_j50 l1 k0) := by
  unfold M_St_setList_j50
  repeat' with_reducible (first | apply ko_B | apply ko_C | exact (ko_St_kindOf _).wu | exact ko_St_setList_j68 _ _ _ | exact ko_GI _ _ | intro _)
theorem ko_St_setList_j28 (k0 : Int32) : Kok true false (M_St_setList_j28 k0) := by
  unfold M_St_setList_j28
  repeat' with_reducible (first | apply ko_B | apply ko_C | exact ko_St_setList_j50 _ _ | exact ko_GI _ _ | intro _)
theorem ko_St_setList  : Kok true false (M_St_setList) := by
  unfold M_St_setList
  repeat' with_reducible (first | apply ko_B | apply ko_C | exact ko_St_setList_j28 _ | exact ko_GI _ _ | intro _)
theorem ko_He_openVariable_L11 (x) : Kok true true (M_He_openVariable_L11 x) := by
  unfold M_He_openVariable_L11
  repeat' with_reducible (first | apply ko_B | apply ko_C | exact ko_R _ | exact ko_GI _ _ | exact ko_Pz _ _ _ | intro _)
theorem ko_He_openVariable_j81 (l1 : Int32) (l2 : Int32) (l3 : Int32) (l4 : Int32) (ln : Nat × Nat) : Kok true true (M_He_openVariable_j81 l1 l2 l3 l4 ln) := by
  unfold M_He_openVariable_j81
  repeat' with_reducible (first | apply ko_B | apply ko_C | exact ko_He_make _ _ _ _ | exact ko_R _ | exact ko_GI _ _ | exact ko_Pz _ _ _ | exact ko_PI (by omega) | intro _)
theorem ko_He_openVariable_j59 (l1 : Int32) (l2 : Int32) (l3 : Int32) (l4 : Int32) (ln : Nat × Nat) : Kok true true (M_He_openVariable_j59 l1 l2 l3 l4 ln) := by
  unfold M_He_openVariable_j59
  repeat' with_reducible (first | apply ko_B | apply ko_C | exact ko_He_openVariable_j81 _ _ _ _ _ | exact ko_R _ | exact ko_GI _ _ | exact ko_Pz _ _ _ | intro _)
theorem ko_He_openVariable (n0 : Nat × Nat) (l1 : Int32) (l2 : Int32) : Kok true true (M_He_openVariable n0 l1 l2) := by
  unfold M_He_openVariable
  repeat' with_reducible (first | apply ko_B | exact ko_He_openVariable_L11 _ | exact ko_He_openVariable_j59 _ _ _ _ _ | exact ko_GI _ _ | apply ko_W | intro _)
theorem ko_St_reckonOne_j53 (k0 : Int32) (k1 : Int32) : Kok true true (M_St_reckonOne_j53 k0 k1) := by
  unfold M_St_reckonOne_j53
  repeat' with_reducible (first | apply ko_B | exact ko_St_set _ _ _ | exact ko_R _ | intro _)
theorem ko_St_reckonOne_j173 (k0 : Int64) (k1 : Int32) (k2 : Int32) : Kok true true (M_St_reckonOne_j173 k0 k1 k2) := by
  unfold M_St_reckonOne_j173
  repeat' with_reducible (first | apply ko_B | exact ko_St_set _ _ _ | exact ko_R _ | intro _)
theorem ko_Ma_enter_L2 (x) : Kok true true (M_Ma_enter_L2 x) := by
  unfold M_Ma_enter_L2
  repeat' with_reducible (first | apply ko_B | apply ko_C | exact ko_Ta_findEvent _ _ _ | exact ko_Ro_addFirst _ _ _ _ (by omega) | exact ko_R _ | exact ko_GI _ _ | exact ko_GL _ _ | exact ko_PL | exact ko_AI _ _ _ _ | exact ko_AL _ _ _ _ | exact ko_PI (by omega) | intro _)
theorem ko_Bu_writeRaw  : Kok true false (M_Bu_writeRaw) := by
  unfold M_Bu_writeRaw
  repeat' with_reducible (first | apply ko_B | apply ko_C | exact ko_Bu_hasTable | exact (ko_Ro_valueAt _ _ _).wu | exact (ko_Ro_kindAt _ _ _).wu | exact (ko_Ta_write _ _ _ _ _).wu | exact (ko_Ro_add _ _ _ _ (by omega)).wu | exact ko_Ma_fail _ | exact ko_R _ | intro _)
theorem ko_Bu_wrap_j78 (l2 : Int32) (ln : Nat × Nat) : Kok true false (M_Bu_wrap_j78 l2 ln) := by
  unfold M_Bu_wrap_j78
  repeat' with_reducible (first | apply ko_B | exact ko_Bu_addMade _ _ | exact ko_R _ | intro _)
theorem ko_Ch_checkAll_L23 (x) : Kok true true (M_Ch_checkAll_L23 x) := by
  unfold M_Ch_checkAll_L23
  repeat' with_reducible (first | apply ko_B | apply ko_C | exact ko_Ch_isWellFormed _ _ | exact ko_R _ | exact ko_GI _ _ | intro _)
theorem ko_Ch_checkAll_L6 (x) : Kok true true (M_Ch_checkAll_L6 x) := by
  unfold M_Ch_checkAll_L6
  repeat' with_reducible (first | apply ko_B | apply ko_C | exact ko_Ch_checkAll_L23 _ | exact ko_R _ | exact ko_GI _ _ | exact ko_Pz _ _ _ | apply ko_W | apply ko_E | intro _)
theorem ko_Ta_make (n0 : Nat × Nat) : Kok true true (M_Ta_make n0) := by
  unfold M_Ta_make
  repeat' with_reducible (first | apply ko_B | apply ko_C | exact ko_He_make _ _ _ _ | exact ko_R _ | exact ko_Pz _ _ _ | exact ko_PI (by omega) | intro _)
theorem ko_Ma_fillGlobals_L2 (x) : Kok true true (M_Ma_fillGlobals_L2 x) := by
  unfold M_Ma_fillGlobals_L2
  repeat' with_reducible (first | apply ko_B | apply ko_C | exact ko_Ta_write _ _ _ _ _ | exact ko_R _ | exact ko_GI _ _ | exact ko_AI _ _ _ _ | intro _)
theorem ko_Ma_fillGlobals  : Kok true true (M_Ma_fillGlobals) := by
  unfold M_Ma_fillGlobals
  repeat' with_reducible (first | apply ko_B | exact ko_Ma_fillGlobals_L2 _ | exact ko_R _ | apply ko_W | apply ko_E | intro _)
theorem ko_St_newTable (n0 : Nat × Nat) : Kok true false (M_St_newTable n0) := by
  unfold M_St_newTable
  repeat' with_reducible (first | apply ko_B | apply ko_C | exact (ko_Ta_make _).wu | exact (ko_St_set _ _ _).wu | exact ko_Ma_fail _ | exact ko_R _ | exact ko_GI _ _ | intro _)
theorem ko_St_makeClosure_j84 (l1 : Int32) (l2 : Int32) (l3 : Int32) (ln : Nat × Nat) (k0 : Int32) : Kok true true (M_St_makeClosure_j84 l1 l2 l3 ln k0) := by
  unfold M_St_makeClosure_j84
  repeat' with_reducible (first | apply ko_C | exact ko_R _ | intro _)
theorem ko_St_makeClosure_L33 (x) : Kok true true (M_St_makeClosure_L33 x) := by
  unfold M_St_makeClosure_L33
  repeat' with_reducible (first | apply ko_B | apply ko_C | exact ko_He_openVariable _ _ _ | exact ko_St_makeClosure_j84 _ _ _ _ _ | exact ko_R _ | exact ko_GI _ _ | exact ko_AI _ _ _ _ | exact ko_Pr _ _ | intro _)
theorem ko_St_makeClosure_j216 (l2 : Int32) (l3 : Int32) (l4 : Int32) (l5 : Int32) (ln : Nat × Nat) (k0 : Int32) (k1 : Int32) (k2 : Int32) : Kok true true (M_St_makeClosure_j216 l2 l3 l4 l5 ln k0 k1 k2) := by
  unfold M_St_makeClosure_j216
  repeat' with_reducible (first | apply ko_B | exact ko_R _ | exact ko_SI (by omega) | exact ko_Ln _ _ | intro _)
theorem ko_St_makeClosure_L152 (x) : Kok true true (M_St_makeClosure_L152 x) := by
  unfold M_St_makeClosure_L152
  repeat' with_reducible (first | apply ko_B | apply ko_C | exact ko_He_openVariable _ _ _ | exact ko_St_makeClosure_j216 _ _ _ _ _ _ _ _ | exact ko_St_upvalue _ | exact ko_R _ | exact ko_GI _ _ | exact ko_AI _ _ _ _ | exact ko_Pr _ _ | intro _)
theorem ko_St_makeClosure (n0 : Nat × Nat) : Kok true false (M_St_makeClosure n0) := by
  unfold M_St_makeClosure
  repeat' with_reducible (first | apply ko_B | apply ko_C | exact (ko_St_makeClosure_L33 _).wu | exact ko_Ma_fail _ | exact (ko_He_makeClosure _ _ _).wu | exact (ko_St_makeClosure_L152 _).wu | exact (ko_St_set _ _ _).wu | exact ko_R _ | exact ko_GI _ _ | exact ko_AI _ _ _ _ | exact ko_K _ | exact ko_Pr _ _ | exact ko_Pz _ _ _ | apply ko_W | apply ko_E | intro _)
theorem ko_Arr_copyOf (n0 : Nat × Nat) (l0r : Nat) (l0 : Int32) (l1 : Int32) : Kok true true (M_Arr_copyOf n0 l0r l0 l1) := by
  unfold M_Arr_copyOf
  repeat' with_reducible (first | apply ko_B | apply ko_C | exact ko_Mth_min _ _ | exact ko_R _ | exact ko_K _ | exact ko_Nw _ _ | exact ko_Ln _ _ | exact ko_CI (by omega) | exact ko_S (or_nwR (by omega)) | exact ko_S or_clB | intro _)
theorem ko_Arr_copyOfRangeByte (n0 : Nat × Nat) (l0r : Nat) (l0 : Int32) (l1 : Int32) (l2 : Int32) : Kok true true (M_Arr_copyOfRangeByte n0 l0r l0 l1 l2) := by
  unfold M_Arr_copyOfRangeByte
  repeat' with_reducible (first | apply ko_B | exact ko_Arr_checkLength _ _ | exact ko_Mth_min _ _ | exact ko_R _ | exact ko_K _ | exact ko_Nw _ _ | exact ko_Ln _ _ | exact ko_CI (by omega) | apply ko_L | exact ko_S (or_nwR (by omega)) | intro _)
theorem ko_He_putByte_j67 (ln : Nat × Nat) : Kok true true (M_He_putByte_j67 ln) := by
  unfold M_He_putByte_j67
  repeat' with_reducible (first | apply ko_B | exact ko_R _ | exact ko_GI _ _ | exact ko_PI (by omega) | intro _)
theorem ko_He_putByte_j44 (l1 : Int32) (ln : Nat × Nat) : Kok true true (M_He_putByte_j44 l1 ln) := by
  unfold M_He_putByte_j44
  repeat' with_reducible (first | apply ko_B | apply ko_C | exact ko_He_putByte_j67 _ | exact ko_GI _ _ | exact ko_SI (by omega) | exact ko_Ln _ _ | intro _)
theorem ko_He_putByte (n0 : Nat × Nat) (l1 : Int32) : Kok true true (M_He_putByte n0 l1) := by
  unfold M_He_putByte
  repeat' with_reducible (first | apply ko_B | apply ko_C | exact ko_He_putByte_j44 _ _ | exact ko_Mth_min _ _ | exact ko_Arr_copyOf _ _ _ _ | exact ko_GI _ _ | exact ko_K _ | exact ko_Pr _ _ | exact ko_Ln _ _ | exact ko_S (or_mvB (by omega)) | intro _)
theorem ko_He_putText_L2 (x) : Kok true true (M_He_putText_L2 x) := by
  unfold M_He_putText_L2
  repeat' with_reducible (first | apply ko_B | apply ko_C | exact ko_He_putByte _ _ | exact ko_R _ | exact ko_K _ | intro _)
theorem ko_He_putText (n0 : Nat × Nat) (l1 : Nat) : Kok true true (M_He_putText n0 l1) := by
  unfold M_He_putText
  repeat' with_reducible (first | apply ko_B | exact ko_He_putText_L2 _ | exact ko_R _ | apply ko_W | intro _)
theorem ko_He_putDecimal_L14 (x) : Kok true true (M_He_putDecimal_L14 x) := by
  unfold M_He_putDecimal_L14
  repeat' with_reducible (first | apply ko_B | apply ko_C | exact ko_R _ | exact ko_K _ | apply ko_L | intro _)
theorem ko_He_putDecimal_L43 (x) : Kok true true (M_He_putDecimal_L43 x) := by
  unfold M_He_putDecimal_L43
  repeat' with_reducible (first | apply ko_B | apply ko_C | exact ko_Mth_abs _ | exact ko_He_putByte _ _ | exact ko_R _ | exact ko_K _ | apply ko_L | intro _)
theorem ko_He_putDecimal_j12 (l1 : Int64) (ln : Nat × Nat) : Kok true true (M_He_putDecimal_j12 l1 ln) := by
  unfold M_He_putDecimal_j12
  repeat' with_reducible (first | apply ko_B | exact ko_He_putDecimal_L14 _ | exact ko_He_putDecimal_L43 _ | exact ko_R _ | apply ko_W | intro _)
theorem ko_He_putDecimal (n0 : Nat × Nat) (l1 : Int64) : Kok true true (M_He_putDecimal n0 l1) := by
  unfold M_He_putDecimal
  repeat' with_reducible (first | apply ko_B | apply ko_C | exact ko_He_putDecimal_j12 _ _ | exact ko_He_putByte _ _ | intro _)
theorem ko_He_putBytes_j65 (l2 : Int32) (ln : Nat × Nat) : Kok true true (M_He_putBytes_j65 l2 ln) := by
  unfold M_He_putBytes_j65
  repeat' with_reducible (first | apply ko_B | exact ko_R _ | exact ko_PI (by omega) | intro _)
theorem ko_He_putBytes_j50 (l1 : Int32) (l2 : Int32) (ln : Nat × Nat) : Kok true true (M_He_putBytes_j50 l1 l2 ln) := by
  unfold M_He_putBytes_j50
  repeat' with_reducible (first | apply ko_B | exact ko_He_putBytes_j65 _ _ | exact ko_GI _ _ | exact ko_Ln _ _ | exact ko_CI (by omega) | intro _)
theorem ko_He_putBytes (n0 : Nat × Nat) (l1 : Int32) : Kok true true (M_He_putBytes n0 l1) := by
  unfold M_He_putBytes
  repeat' with_reducible (first | apply ko_B | apply ko_C | exact ko_He_putBytes_j65 _ _ | exact ko_He_putBytes_j50 _ _ _ | exact ko_Mth_max _ _ | exact ko_Mth_min _ _ | exact ko_Arr_copyOf _ _ _ _ | exact ko_GI _ _ | exact ko_K _ | exact ko_Pr _ _ | exact ko_Ln _ _ | apply ko_L | exact ko_S (or_mvB (by omega)) | intro _)
theorem ko_Arr_copyOfRange_j10 (l0r : Nat) (l0 : Int32) (l1 : Int32) (l2 : Int32) (ln : Nat × Nat) : Kok true true (M_Arr_copyOfRange_j10 l0r l0 l1 l2 ln) := by
  unfold M_Arr_copyOfRange_j10
  repeat' with_reducible (first | apply ko_B | exact ko_Arr_copyOfRangeByte _ _ _ _ _ | exact ko_R _ | exact ko_K _ | exact ko_Pr _ _ | intro _)
theorem ko_Arr_copyOfRange (n0 : Nat × Nat) (l0r : Nat) (l0 : Int32) (l1 : Int32) (l2 : Int32) : Kok true true (M_Arr_copyOfRange n0 l0r l0 l1 l2) := by
  unfold M_Arr_copyOfRange
  repeat' with_reducible (first | apply ko_B | apply ko_C | exact ko_Arr_copyOfRange_j10 _ _ _ _ _ | exact ko_R _ | exact ko_Nw _ _ | exact ko_Ln _ _ | exact ko_S or_clB | intro _)
theorem ko_Bu_describe_j135 (l2 : Int64) (ln : Nat × Nat) : Kok true true (M_Bu_describe_j135 l2 ln) := by
  unfold M_Bu_describe_j135
  repeat' with_reducible (first | apply ko_B | exact ko_He_numberOf _ | exact ko_He_putDecimal _ _ | exact ko_R _ | intro _)
theorem ko_Bu_describe_j120 (l2 : Int64) (ln : Nat × Nat) (k0 : Nat) : Kok true true (M_Bu_describe_j120 l2 ln k0) := by
  unfold M_Bu_describe_j120
  repeat' with_reducible (first | apply ko_B | exact ko_He_putText _ _ | exact ko_Bu_describe_j135 _ _ | intro _)
theorem ko_Bu_describe (n0 : Nat × Nat) (l1 : Int32) (l2 : Int64) : Kok true true (M_Bu_describe n0 l1 l2) := by
  unfold M_Bu_describe
  repeat' with_reducible (first | apply ko_B | apply ko_C | exact ko_He_putText _ _ | exact ko_He_putDecimal _ _ | exact ko_Bu_describe_j135 _ _ | exact ko_Bu_describe_j120 _ _ _ | exact ko_R _ | exact ko_PI (by omega) | intro _)
theorem ko_St_putText (n0 : Nat × Nat) (l1 : Int32) (l2 : Int64) : Kok true true (M_St_putText n0 l1 l2) := by
  unfold M_St_putText
  repeat' with_reducible (first | apply ko_B | apply ko_C | exact ko_He_putBytes _ _ | exact ko_He_putDecimal _ _ | exact ko_R _ | exact ko_GI _ _ | exact ko_K _ | exact ko_Pz _ _ _ | intro _)
theorem ko_Bu_print_j108 (l1 : Int32) (ln : Nat × Nat) : Kok true true (M_Bu_print_j108 l1 ln) := by
  unfold M_Bu_print_j108
  repeat' with_reducible (first | exact ko_R _ | intro _)
theorem ko_Bu_print_j23 (l1 : Int32) (ln : Nat × Nat) : Kok true true (M_Bu_print_j23 l1 ln) := by
  unfold M_Bu_print_j23
  repeat' with_reducible (first | apply ko_B | apply ko_C | exact ko_Bu_printBytes _ _ _ | exact ko_Bu_print_j108 _ _ | exact ko_Bu_describe _ _ _ | exact ko_GI _ _ | exact ko_AI _ _ _ _ | exact ko_AL _ _ _ _ | exact ko_K _ | exact ko_Pz _ _ _ | exact ko_Ln _ _ | intro _)
theorem ko_Bu_print_L2 (x) : Kok true true (M_Bu_print_L2 x) := by
  unfold M_Bu_print_L2
  repeat' with_reducible (first | apply ko_B | apply ko_C | exact ko_Bu_print_j23 _ _ | exact ko_Bu_printByte _ | exact ko_R _ | exact ko_GI _ _ | intro _)
theorem ko_Bu_print (n0 : Nat × Nat) : Kok true true (M_Bu_print n0) := by
  unfold M_Bu_print
  repeat' with_reducible (first | apply ko_B | exact ko_Bu_print_L2 _ | exact ko_Bu_printByte _ | exact ko_R _ | apply ko_W | intro _)
theorem ko_He_intern_L15 (x) : Kok true true (M_He_intern_L15 x) := by
  unfold M_He_intern_L15
  repeat' with_reducible (first | apply ko_B | apply ko_C | exact ko_R _ | exact ko_AI _ _ _ _ | exact ko_Ln _ _ | apply ko_L | intro _)
theorem ko_He_intern_j117 (l1r : Nat) (l1 : Int32) (l2 : Int32) (l3 : Int32) (l4 : Int32) (l5 : Int32) (l6 : Int32) (l7 : Int32) (ln : Nat × Nat) : Kok true true (M_He_intern_j117 l1r l1 l2 l3 l4 l5 l6 l7 ln) := by
  unfold M_He_intern_j117
  repeat' with_reducible (first | apply ko_B | exact ko_R _ | exact ko_GI _ _ | exact ko_Pz _ _ _ | intro _)
theorem ko_He_intern_L67 (x) : Kok true true (M_He_intern_L67 x) := by
  unfold M_He_intern_L67
  repeat' with_reducible (first | apply ko_B | apply ko_C | exact ko_He_isSame _ _ _ _ _ | exact ko_He_intern_j117 _ _ _ _ _ _ _ _ _ | exact ko_R _ | exact ko_GI _ _ | exact ko_K _ | exact ko_Pz _ _ _ | intro _)
theorem ko_He_intern_j135 (l1r : Nat) (l1 : Int32) (l2 : Int32) (l3 : Int32) (l4 : Int32) (l5 : Int32) (ln : Nat × Nat) : Kok true true (M_He_intern_j135 l1r l1 l2 l3 l4 l5 ln) := by
  unfold M_He_intern_j135
  repeat' with_reducible (first | apply ko_B | apply ko_C | exact ko_He_make _ _ _ _ | exact ko_Arr_copyOfRange _ _ _ _ _ | exact ko_R _ | exact ko_AI _ _ _ _ | exact ko_SI (by omega) | exact ko_K _ | exact ko_Pr _ _ | exact ko_Pz _ _ _ | exact ko_S (or_mvB (by omega)) | exact ko_PI (by omega) | intro _)
theorem ko_He_intern (n0 : Nat × Nat) (l1r : Nat) (l1 : Int32) (l2 : Int32) (l3 : Int32) : Kok true true (M_He_intern n0 l1r l1 l2 l3) := by
  unfold M_He_intern
  repeat' with_reducible (first | apply ko_B | apply ko_C | exact ko_He_intern_L15 _ | exact ko_He_intern_L67 _ | exact ko_He_intern_j135 _ _ _ _ _ _ _ | exact ko_R _ | exact ko_AI _ _ _ _ | apply ko_L | apply ko_W | apply ko_E | intro _)
theorem ko_Ma_internConstants_j96 (l1 : Int32) (ln : Nat × Nat) : Kok true true (M_Ma_internConstants_j96 l1 ln) := by
  unfold M_Ma_internConstants_j96
  repeat' with_reducible (first | exact ko_R _ | intro _)
theorem ko_Ma_internConstants_L2 (x) : Kok true true (M_Ma_internConstants_L2 x) := by
  unfold M_Ma_internConstants_L2
  repeat' with_reducible (first | apply ko_B | apply ko_C | exact ko_He_intern _ _ _ _ _ | exact ko_Ma_internConstants_j96 _ _ | exact ko_R _ | exact ko_GI _ _ | exact ko_AI _ _ _ _ | exact ko_AL _ _ _ _ | exact ko_SL | exact ko_Pz _ _ _ | exact ko_PI (by omega) | intro _)
theorem ko_Ma_internConstants (n0 : Nat × Nat) : Kok true true (M_Ma_internConstants n0) := by
  unfold M_Ma_internConstants
  repeat' with_reducible (first | apply ko_B | exact ko_Ma_internConstants_L2 _ | exact ko_R _ | apply ko_W | apply ko_E | intro _)
theorem ko_Bu_cut_j73 (l1 : Int32) (l2 : Int64) (ln : Nat × Nat) (k0 : Int64) : Kok true false (M_Bu_cut_j73 l1 l2 ln k0) := by
  unfold M_Bu_cut_j73
  repeat' with_reducible (first | apply ko_B | exact (ko_Mth_max_ _ _).wu | exact (ko_Mth_min_ _ _).wu | exact (ko_Mth_max _ _).wu | exact (ko_He_intern _ _ _ _ _).wu | exact ko_Bu_addMade _ _ | exact ko_R _ | exact ko_Ln _ _ | intro _)
theorem ko_Bu_cut_j42 (l1 : Int32) (ln : Nat × Nat) (k0 : Int64) : Kok true false (M_Bu_cut_j42 l1 ln k0) := by
  unfold M_Bu_cut_j42
  repeat' with_reducible (first | apply ko_B | apply ko_C | exact (ko_Ro_kindAt _ _ _).wu | exact ko_Bu_cut_j73 _ _ _ _ | exact (ko_Ro_valueAt _ _ _).wu | exact (ko_Bu_fromFront _ _).wu | exact ko_Ln _ _ | intro _)
theorem ko_Bu_cut (n0 : Nat × Nat) : Kok true false (M_Bu_cut n0) := by
  unfold M_Bu_cut
  repeat' with_reducible (first | apply ko_B | apply ko_C | exact ko_Bu_hasString _ | exact (ko_Bu_bytesOfFirst).wu | exact (ko_Ro_kindAt _ _ _).wu | exact ko_Bu_cut_j42 _ _ _ | exact (ko_Ro_valueAt _ _ _).wu | exact (ko_Bu_fromFront _ _).wu | exact ko_R _ | exact ko_Pr _ _ | exact ko_Ln _ _ | intro _)
theorem ko_Bu_makeOfBytes_L10 (x) : Kok true true (M_Bu_makeOfBytes_L10 x) := by
  unfold M_Bu_makeOfBytes_L10
  repeat' with_reducible (first | apply ko_B | apply ko_C | exact ko_He_putByte _ _ | exact ko_R _ | exact ko_GI _ _ | exact ko_AI _ _ _ _ | exact ko_AL _ _ _ _ | intro _)
theorem ko_Bu_makeOfBytes_j73 (ln : Nat × Nat) : Kok true false (M_Bu_makeOfBytes_j73 ln) := by
  unfold M_Bu_makeOfBytes_j73
  repeat' with_reducible (first | apply ko_B | exact ko_Ma_fail _ | exact ko_R _ | intro _)
theorem ko_Bu_makeOfBytes (n0 : Nat × Nat) : Kok true false (M_Bu_makeOfBytes n0) := by
  unfold M_Bu_makeOfBytes
  repeat' with_reducible (first | apply ko_B | exact (ko_Bu_makeOfBytes_L10 _).wu | exact ko_Ma_fail _ | exact ko_Bu_makeOfBytes_j73 _ | exact (ko_He_intern _ _ _ _ _).wu | exact ko_Bu_addMade _ _ | exact ko_R _ | exact ko_GI _ _ | apply ko_W | exact ko_PI (by omega) | apply ko_E | intro _)
theorem ko_St_joined (n0 : Nat × Nat) (l1 : Int32) (l2 : Int64) : Kok true true (M_St_joined n0 l1 l2) := by
  unfold M_St_joined
  repeat' with_reducible (first | apply ko_B | exact ko_St_putText _ _ _ | exact ko_He_intern _ _ _ _ _ | exact ko_R _ | exact ko_GI _ _ | exact ko_GL _ _ | exact ko_Pr _ _ | exact ko_PI (by omega) | intro _)
theorem ko_Ma_internNames_j122 (l1 : Nat) (l3 : Int32) (l4 : Int32) (ln : Nat × Nat) : Kok true true (M_Ma_internNames_j122 l1 l3 l4 ln) := by
  unfold M_Ma_internNames_j122
  repeat' with_reducible (first | exact ko_R _ | intro _)
theorem ko_Ma_internNames_L13 (x) : Kok true true (M_Ma_internNames_L13 x) := by
  unfold M_Ma_internNames_L13
  repeat' with_reducible (first | apply ko_B | apply ko_C | exact ko_He_intern _ _ _ _ _ | exact ko_Ma_internNames_j122 _ _ _ _ | exact ko_He_putByte _ _ | exact ko_R _ | exact ko_GI _ _ | exact ko_SI (by omega) | exact ko_K _ | exact ko_Pz _ _ _ | exact ko_PI (by omega) | intro _)
theorem ko_Ma_internNames (n0 : Nat × Nat) (l1 : Nat) (l2 : Int32) : Kok true true (M_Ma_internNames n0 l1 l2) := by
  unfold M_Ma_internNames
  repeat' with_reducible (first | apply ko_B | exact ko_Ma_internNames_L13 _ | exact ko_R _ | apply ko_W | exact ko_PI (by omega) | apply ko_E | intro _)
theorem ko_Bu_perform_j343 (ln : Nat × Nat) : Kok true true (M_Bu_perform_j343 ln) := by
  unfold M_Bu_perform_j343
  repeat' with_reducible (first | apply ko_B | apply ko_C | exact ko_Ro_clear _ _ (by omega) | exact ko_R _ | exact ko_GI _ _ | intro _)
theorem ko_St_joinOn_j95 (ln : Nat × Nat) : Kok true true (M_St_joinOn_j95 ln) := by
  unfold M_St_joinOn_j95
  repeat' with_reducible (first | apply ko_B | exact ko_St_forgetJoined | exact ko_R _ | intro _)
theorem ko_St_joinOn_j54 (l1 : Int32) (ln : Nat × Nat) : Kok true false (M_St_joinOn_j54 l1 ln) := by
  unfold M_St_joinOn_j54
  repeat' with_reducible (first | apply ko_B | apply ko_C | exact (ko_St_kindOf _).wu | exact (ko_St_valueOf _).wu | exact ko_St_callsEither _ _ _ _ _ | exact ko_Ma_fail _ | exact (ko_St_joinOn_j95 _).wu | exact ko_GI _ _ | exact ko_GL _ _ | exact ko_Pr _ _ | intro _)
theorem ko_Ma_boot_j161 (ln : Nat × Nat) : Kok true true (M_Ma_boot_j161 ln) := by
  unfold M_Ma_boot_j161
  repeat' with_reducible (first | exact ko_R _ | intro _)
theorem ko_LM_run_j177 (l2 : Int32) (l3 : Int32) (ln : Nat × Nat) : Kok true true (M_LM_run_j177 l2 l3 ln) := by
  unfold M_LM_run_j177
  repeat' with_reducible (first | exact ko_R _ | intro _)
theorem ko_LM_run_j183 (l2 : Int32) (ln : Nat × Nat) : Kok true true (M_LM_run_j183 l2 ln) := by
  unfold M_LM_run_j183
  repeat' with_reducible (first | exact ko_R _ | intro _)
theorem ko_LM_run_j189 (ln : Nat × Nat) : Kok true true (M_LM_run_j189 ln) := by
  unfold M_LM_run_j189
  repeat' with_reducible (first | apply ko_B | exact ko_R _ | exact ko_GI _ _ | intro _)
