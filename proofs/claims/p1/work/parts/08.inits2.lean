abbrev b_Ma_init : ByteArray := prog_7_method_1_code
def y_Ma_init : MethodName := ⟨R_Ma, "<init>", "(LLuaMachine$Chunk;LLuaMachine$Heap;LLuaMachine$Tables;)V"⟩
abbrev w_Ma_init : List Cond := .code y_Ma_init b_Ma_init 4 none :: wA
theorem k_Ma_init : Cond.code y_Ma_init b_Ma_init 4 none ∈ wA := kinm (show _ ∈ tables_1 from (List.mem_append_right _ (List.mem_append_left _ (List.mem_of_getElem? (l := tables_1_2) (i := 16) (by decide +kernel))))) (by decide +kernel)
theorem d_Ma_init_0 : decode b_Ma_init 0 = .ok (.aload_n 0, 1) := by decide +kernel
theorem d_Ma_init_1 : decode b_Ma_init 1 = .ok (.invokespecial 3, 3) := by decide +kernel
theorem d_Ma_init_4 : decode b_Ma_init 4 = .ok (.aload_n 0, 1) := by decide +kernel
theorem d_Ma_init_5 : decode b_Ma_init 5 = .ok (.new 9, 3) := by decide +kernel
theorem d_Ma_init_8 : decode b_Ma_init 8 = .ok (.dup, 1) := by decide +kernel
theorem d_Ma_init_9 : decode b_Ma_init 9 = .ok (.invokespecial 11, 3) := by decide +kernel
theorem d_Ma_init_12 : decode b_Ma_init 12 = .ok (.putfield 12, 3) := by decide +kernel
theorem d_Ma_init_15 : decode b_Ma_init 15 = .ok (.aload_n 0, 1) := by decide +kernel
theorem d_Ma_init_16 : decode b_Ma_init 16 = .ok (.new 9, 3) := by decide +kernel
theorem d_Ma_init_19 : decode b_Ma_init 19 = .ok (.dup, 1) := by decide +kernel
theorem d_Ma_init_20 : decode b_Ma_init 20 = .ok (.invokespecial 11, 3) := by decide +kernel
theorem d_Ma_init_23 : decode b_Ma_init 23 = .ok (.putfield 18, 3) := by decide +kernel
theorem d_Ma_init_26 : decode b_Ma_init 26 = .ok (.aload_n 0, 1) := by decide +kernel
theorem d_Ma_init_27 : decode b_Ma_init 27 = .ok (.new 9, 3) := by decide +kernel
theorem d_Ma_init_30 : decode b_Ma_init 30 = .ok (.dup, 1) := by decide +kernel
theorem d_Ma_init_31 : decode b_Ma_init 31 = .ok (.invokespecial 11, 3) := by decide +kernel
theorem d_Ma_init_34 : decode b_Ma_init 34 = .ok (.putfield 21, 3) := by decide +kernel
theorem d_Ma_init_37 : decode b_Ma_init 37 = .ok (.aload_n 0, 1) := by decide +kernel
theorem d_Ma_init_38 : decode b_Ma_init 38 = .ok (.new 9, 3) := by decide +kernel
theorem d_Ma_init_41 : decode b_Ma_init 41 = .ok (.dup, 1) := by decide +kernel
theorem d_Ma_init_42 : decode b_Ma_init 42 = .ok (.invokespecial 11, 3) := by decide +kernel
theorem d_Ma_init_45 : decode b_Ma_init 45 = .ok (.putfield 24, 3) := by decide +kernel
theorem d_Ma_init_48 : decode b_Ma_init 48 = .ok (.aload_n 0, 1) := by decide +kernel
theorem d_Ma_init_49 : decode b_Ma_init 49 = .ok (.aload_n 1, 1) := by decide +kernel
theorem d_Ma_init_50 : decode b_Ma_init 50 = .ok (.putfield 27, 3) := by decide +kernel
theorem d_Ma_init_53 : decode b_Ma_init 53 = .ok (.aload_n 0, 1) := by decide +kernel
theorem d_Ma_init_54 : decode b_Ma_init 54 = .ok (.aload_n 2, 1) := by decide +kernel
theorem d_Ma_init_55 : decode b_Ma_init 55 = .ok (.putfield 31, 3) := by decide +kernel
theorem d_Ma_init_58 : decode b_Ma_init 58 = .ok (.aload_n 0, 1) := by decide +kernel
theorem d_Ma_init_59 : decode b_Ma_init 59 = .ok (.aload_n 3, 1) := by decide +kernel
theorem d_Ma_init_60 : decode b_Ma_init 60 = .ok (.putfield 35, 3) := by decide +kernel
theorem d_Ma_init_63 : decode b_Ma_init 63 = .ok (.return_, 1) := by decide +kernel
theorem kw_46 : Cond.methodLink R_Ma 3 objectInit ∈ wA := kinm (show _ ∈ tables_1 from (List.mem_append_right _ (List.mem_append_left _ (List.mem_of_getElem? (l := tables_1_2) (i := 17) (by decide +kernel))))) (by decide +kernel)
theorem kw_47 : Cond.classLink R_Ma 9 R_Ro ∈ wA := kinm (show _ ∈ tables_1 from (List.mem_append_right _ (List.mem_append_left _ (List.mem_of_getElem? (l := tables_1_2) (i := 18) (by decide +kernel))))) (by decide +kernel)
theorem kw_48 : Cond.instantiable R_Ro 3 ∈ wA := kinm (show _ ∈ tables_1 from (List.mem_append_right _ (List.mem_append_left _ (List.mem_of_getElem? (l := tables_1_2) (i := 19) (by decide +kernel))))) (by decide +kernel)
theorem kw_49 : Cond.initialized R_Ro ∈ wA := kinm (show _ ∈ tables_1 from (List.mem_append_left _ (List.mem_of_getElem? (l := tables_1_1) (i := 6) (by decide +kernel)))) (by decide +kernel)
theorem nw_Ma_11 : Cond.methodLinkNest R_Ma 11 y_Ro_init "LuaMachine" ∈ xW := xinm (show _ ∈ tables_1 from (List.mem_append_right _ (List.mem_append_left _ (List.mem_of_getElem? (l := tables_1_2) (i := 20) (by decide +kernel))))) (by decide +kernel)
theorem kw_51 : Cond.instanceMethod y_Ro_init ∈ wA := kinm (show _ ∈ tables_1 from (List.mem_append_right _ (List.mem_append_left _ (List.mem_of_getElem? (l := tables_1_2) (i := 21) (by decide +kernel))))) (by decide +kernel)
theorem kw_52 : Cond.fieldLink R_Ma 12 "LuaMachine$Machine" "args" "LLuaMachine$Row;" ∈ wA := kinm (show _ ∈ tables_1 from (List.mem_append_right _ (List.mem_append_left _ (List.mem_of_getElem? (l := tables_1_2) (i := 58) (by decide +kernel))))) (by decide +kernel)
theorem kw_53 : Cond.fieldLink R_Ma 18 "LuaMachine$Machine" "results" "LLuaMachine$Row;" ∈ wA := kinm (show _ ∈ tables_1 from (List.mem_append_right _ (List.mem_append_left _ (List.mem_of_getElem? (l := tables_1_2) (i := 62) (by decide +kernel))))) (by decide +kernel)
theorem kw_54 : Cond.fieldLink R_Ma 21 "LuaMachine$Machine" "open" "LLuaMachine$Row;" ∈ wA := kinm (show _ ∈ tables_1 from (List.mem_append_right _ (List.mem_append_left _ (List.mem_of_getElem? (l := tables_1_2) (i := 65) (by decide +kernel))))) (by decide +kernel)
theorem kw_55 : Cond.fieldLink R_Ma 24 "LuaMachine$Machine" "last" "LLuaMachine$Row;" ∈ wA := kinm (show _ ∈ tables_1 from (List.mem_append_right _ (List.mem_append_left _ (List.mem_of_getElem? (l := tables_1_2) (i := 69) (by decide +kernel))))) (by decide +kernel)
theorem kw_56 : Cond.fieldLink R_Ma 27 "LuaMachine$Machine" "chunk" "LLuaMachine$Chunk;" ∈ wA := kinm (show _ ∈ tables_1 from (List.mem_append_right _ (List.mem_append_left _ (List.mem_of_getElem? (l := tables_1_2) (i := 50) (by decide +kernel))))) (by decide +kernel)
theorem kw_57 : Cond.fieldLink R_Ma 31 "LuaMachine$Machine" "heap" "LLuaMachine$Heap;" ∈ wA := kinm (show _ ∈ tables_1 from (List.mem_append_right _ (List.mem_append_left _ (List.mem_of_getElem? (l := tables_1_2) (i := 54) (by decide +kernel))))) (by decide +kernel)
theorem kw_58 : Cond.fieldLink R_Ma 35 "LuaMachine$Machine" "tables" "LLuaMachine$Tables;" ∈ wA := kinm (show _ ∈ tables_1 from (List.mem_append_right _ (List.mem_append_left _ (List.mem_of_getElem? (l := tables_1_2) (i := 57) (by decide +kernel))))) (by decide +kernel)
abbrev b_St_init : ByteArray := prog_10_method_1_code
def y_St_init : MethodName := ⟨R_St, "<init>", "(LLuaMachine$Machine;)V"⟩
abbrev w_St_init : List Cond := .code y_St_init b_St_init 2 none :: wA
theorem k_St_init : Cond.code y_St_init b_St_init 2 none ∈ wA := kinm (show _ ∈ tables_1 from (List.mem_append_right _ (List.mem_append_left _ (List.mem_of_getElem? (l := tables_1_2) (i := 138) (by decide +kernel))))) (by decide +kernel)
theorem d_St_init_0 : decode b_St_init 0 = .ok (.aload_n 0, 1) := by decide +kernel
theorem d_St_init_1 : decode b_St_init 1 = .ok (.invokespecial 3, 3) := by decide +kernel
theorem d_St_init_4 : decode b_St_init 4 = .ok (.aload_n 0, 1) := by decide +kernel
theorem d_St_init_5 : decode b_St_init 5 = .ok (.aload_n 1, 1) := by decide +kernel
theorem d_St_init_6 : decode b_St_init 6 = .ok (.putfield 9, 3) := by decide +kernel
theorem d_St_init_9 : decode b_St_init 9 = .ok (.aload_n 0, 1) := by decide +kernel
theorem d_St_init_10 : decode b_St_init 10 = .ok (.aload_n 1, 1) := by decide +kernel
theorem d_St_init_11 : decode b_St_init 11 = .ok (.getfield 15, 3) := by decide +kernel
theorem d_St_init_14 : decode b_St_init 14 = .ok (.putfield 21, 3) := by decide +kernel
theorem d_St_init_17 : decode b_St_init 17 = .ok (.aload_n 0, 1) := by decide +kernel
theorem d_St_init_18 : decode b_St_init 18 = .ok (.aload_n 1, 1) := by decide +kernel
theorem d_St_init_19 : decode b_St_init 19 = .ok (.getfield 22, 3) := by decide +kernel
theorem d_St_init_22 : decode b_St_init 22 = .ok (.putfield 26, 3) := by decide +kernel
theorem d_St_init_25 : decode b_St_init 25 = .ok (.aload_n 0, 1) := by decide +kernel
theorem d_St_init_26 : decode b_St_init 26 = .ok (.aload_n 1, 1) := by decide +kernel
theorem d_St_init_27 : decode b_St_init 27 = .ok (.getfield 27, 3) := by decide +kernel
theorem d_St_init_30 : decode b_St_init 30 = .ok (.putfield 31, 3) := by decide +kernel
theorem d_St_init_33 : decode b_St_init 33 = .ok (.return_, 1) := by decide +kernel
theorem kw_59 : Cond.methodLink R_St 3 objectInit ∈ wA := kinm (show _ ∈ tables_1 from (List.mem_append_right _ (List.mem_append_left _ (List.mem_of_getElem? (l := tables_1_2) (i := 139) (by decide +kernel))))) (by decide +kernel)
theorem kw_60 : Cond.fieldLink R_St 9 "LuaMachine$Steps" "machine" "LLuaMachine$Machine;" ∈ wA := kinm (show _ ∈ tables_1 from (List.mem_append_right _ (List.mem_append_left _ (List.mem_of_getElem? (l := tables_1_2) (i := 140) (by decide +kernel))))) (by decide +kernel)
theorem kw_61 : Cond.fieldLink R_St 15 "LuaMachine$Machine" "heap" "LLuaMachine$Heap;" ∈ wA := kinm (show _ ∈ tables_1 from (List.mem_append_right _ (List.mem_append_left _ (List.mem_of_getElem? (l := tables_1_2) (i := 52) (by decide +kernel))))) (by decide +kernel)
theorem kw_62 : Cond.fieldLink R_St 21 "LuaMachine$Steps" "heap" "LLuaMachine$Heap;" ∈ wA := kinm (show _ ∈ tables_1 from (List.mem_append_right _ (List.mem_append_left _ (List.mem_of_getElem? (l := tables_1_2) (i := 141) (by decide +kernel))))) (by decide +kernel)
theorem kw_63 : Cond.fieldLink R_St 22 "LuaMachine$Machine" "tables" "LLuaMachine$Tables;" ∈ wA := kinm (show _ ∈ tables_1 from (List.mem_append_right _ (List.mem_append_left _ (List.mem_of_getElem? (l := tables_1_2) (i := 55) (by decide +kernel))))) (by decide +kernel)
theorem kw_64 : Cond.fieldLink R_St 26 "LuaMachine$Steps" "tables" "LLuaMachine$Tables;" ∈ wA := kinm (show _ ∈ tables_1 from (List.mem_append_right _ (List.mem_append_left _ (List.mem_of_getElem? (l := tables_1_2) (i := 142) (by decide +kernel))))) (by decide +kernel)
theorem kw_65 : Cond.fieldLink R_St 27 "LuaMachine$Machine" "chunk" "LLuaMachine$Chunk;" ∈ wA := kinm (show _ ∈ tables_1 from (List.mem_append_right _ (List.mem_append_left _ (List.mem_of_getElem? (l := tables_1_2) (i := 49) (by decide +kernel))))) (by decide +kernel)
theorem kw_66 : Cond.fieldLink R_St 31 "LuaMachine$Steps" "chunk" "LLuaMachine$Chunk;" ∈ wA := kinm (show _ ∈ tables_1 from (List.mem_append_right _ (List.mem_append_left _ (List.mem_of_getElem? (l := tables_1_2) (i := 143) (by decide +kernel))))) (by decide +kernel)
abbrev b_Bu_init : ByteArray := prog_2_method_1_code
def y_Bu_init : MethodName := ⟨R_Bu, "<init>", "(LLuaMachine$Machine;)V"⟩
abbrev w_Bu_init : List Cond := .code y_Bu_init b_Bu_init 2 none :: wA
theorem k_Bu_init : Cond.code y_Bu_init b_Bu_init 2 none ∈ wA := kinm (show _ ∈ tables_1 from (List.mem_append_right _ (List.mem_append_left _ (List.mem_of_getElem? (l := tables_1_2) (i := 184) (by decide +kernel))))) (by decide +kernel)
theorem d_Bu_init_0 : decode b_Bu_init 0 = .ok (.aload_n 0, 1) := by decide +kernel
theorem d_Bu_init_1 : decode b_Bu_init 1 = .ok (.invokespecial 3, 3) := by decide +kernel
theorem d_Bu_init_4 : decode b_Bu_init 4 = .ok (.aload_n 0, 1) := by decide +kernel
theorem d_Bu_init_5 : decode b_Bu_init 5 = .ok (.sipush 20000, 3) := by decide +kernel
theorem d_Bu_init_8 : decode b_Bu_init 8 = .ok (.newarray .byte, 2) := by decide +kernel
theorem d_Bu_init_10 : decode b_Bu_init 10 = .ok (.putfield 9, 3) := by decide +kernel
theorem d_Bu_init_13 : decode b_Bu_init 13 = .ok (.aload_n 0, 1) := by decide +kernel
theorem d_Bu_init_14 : decode b_Bu_init 14 = .ok (.aload_n 1, 1) := by decide +kernel
theorem d_Bu_init_15 : decode b_Bu_init 15 = .ok (.putfield 15, 3) := by decide +kernel
theorem d_Bu_init_18 : decode b_Bu_init 18 = .ok (.aload_n 0, 1) := by decide +kernel
theorem d_Bu_init_19 : decode b_Bu_init 19 = .ok (.aload_n 1, 1) := by decide +kernel
theorem d_Bu_init_20 : decode b_Bu_init 20 = .ok (.getfield 19, 3) := by decide +kernel
theorem d_Bu_init_23 : decode b_Bu_init 23 = .ok (.putfield 25, 3) := by decide +kernel
theorem d_Bu_init_26 : decode b_Bu_init 26 = .ok (.aload_n 0, 1) := by decide +kernel
theorem d_Bu_init_27 : decode b_Bu_init 27 = .ok (.aload_n 1, 1) := by decide +kernel
theorem d_Bu_init_28 : decode b_Bu_init 28 = .ok (.getfield 26, 3) := by decide +kernel
theorem d_Bu_init_31 : decode b_Bu_init 31 = .ok (.putfield 30, 3) := by decide +kernel
theorem d_Bu_init_34 : decode b_Bu_init 34 = .ok (.aload_n 0, 1) := by decide +kernel
theorem d_Bu_init_35 : decode b_Bu_init 35 = .ok (.aload_n 1, 1) := by decide +kernel
theorem d_Bu_init_36 : decode b_Bu_init 36 = .ok (.getfield 31, 3) := by decide +kernel
theorem d_Bu_init_39 : decode b_Bu_init 39 = .ok (.putfield 35, 3) := by decide +kernel
theorem d_Bu_init_42 : decode b_Bu_init 42 = .ok (.aload_n 0, 1) := by decide +kernel
theorem d_Bu_init_43 : decode b_Bu_init 43 = .ok (.aload_n 1, 1) := by decide +kernel
theorem d_Bu_init_44 : decode b_Bu_init 44 = .ok (.getfield 36, 3) := by decide +kernel
theorem d_Bu_init_47 : decode b_Bu_init 47 = .ok (.putfield 39, 3) := by decide +kernel
theorem d_Bu_init_50 : decode b_Bu_init 50 = .ok (.return_, 1) := by decide +kernel
theorem kw_67 : Cond.methodLink R_Bu 3 objectInit ∈ wA := kinm (show _ ∈ tables_1 from (List.mem_append_right _ (List.mem_append_left _ (List.mem_of_getElem? (l := tables_1_2) (i := 185) (by decide +kernel))))) (by decide +kernel)
theorem kw_68 : Cond.fieldLink R_Bu 9 "LuaMachine$BuiltIns" "printed" "[B" ∈ wA := kinm (show _ ∈ tables_1 from (List.mem_append_right _ (List.mem_append_left _ (List.mem_of_getElem? (l := tables_1_2) (i := 186) (by decide +kernel))))) (by decide +kernel)
theorem kw_69 : Cond.fieldLink R_Bu 15 "LuaMachine$BuiltIns" "machine" "LLuaMachine$Machine;" ∈ wA := kinm (show _ ∈ tables_1 from (List.mem_append_right _ (List.mem_append_left _ (List.mem_of_getElem? (l := tables_1_2) (i := 190) (by decide +kernel))))) (by decide +kernel)
theorem kw_70 : Cond.fieldLink R_Bu 19 "LuaMachine$Machine" "heap" "LLuaMachine$Heap;" ∈ wA := kinm (show _ ∈ tables_1 from (List.mem_append_right _ (List.mem_append_left _ (List.mem_of_getElem? (l := tables_1_2) (i := 53) (by decide +kernel))))) (by decide +kernel)
theorem kw_71 : Cond.fieldLink R_Bu 25 "LuaMachine$BuiltIns" "heap" "LLuaMachine$Heap;" ∈ wA := kinm (show _ ∈ tables_1 from (List.mem_append_right _ (List.mem_append_left _ (List.mem_of_getElem? (l := tables_1_2) (i := 191) (by decide +kernel))))) (by decide +kernel)
theorem kw_72 : Cond.fieldLink R_Bu 26 "LuaMachine$Machine" "tables" "LLuaMachine$Tables;" ∈ wA := kinm (show _ ∈ tables_1 from (List.mem_append_right _ (List.mem_append_left _ (List.mem_of_getElem? (l := tables_1_2) (i := 56) (by decide +kernel))))) (by decide +kernel)
theorem kw_73 : Cond.fieldLink R_Bu 30 "LuaMachine$BuiltIns" "tables" "LLuaMachine$Tables;" ∈ wA := kinm (show _ ∈ tables_1 from (List.mem_append_right _ (List.mem_append_left _ (List.mem_of_getElem? (l := tables_1_2) (i := 192) (by decide +kernel))))) (by decide +kernel)
theorem kw_74 : Cond.fieldLink R_Bu 31 "LuaMachine$Machine" "args" "LLuaMachine$Row;" ∈ wA := kinm (show _ ∈ tables_1 from (List.mem_append_right _ (List.mem_append_left _ (List.mem_of_getElem? (l := tables_1_2) (i := 59) (by decide +kernel))))) (by decide +kernel)
theorem kw_75 : Cond.fieldLink R_Bu 35 "LuaMachine$BuiltIns" "args" "LLuaMachine$Row;" ∈ wA := kinm (show _ ∈ tables_1 from (List.mem_append_right _ (List.mem_append_left _ (List.mem_of_getElem? (l := tables_1_2) (i := 193) (by decide +kernel))))) (by decide +kernel)
theorem kw_76 : Cond.fieldLink R_Bu 36 "LuaMachine$Machine" "results" "LLuaMachine$Row;" ∈ wA := kinm (show _ ∈ tables_1 from (List.mem_append_right _ (List.mem_append_left _ (List.mem_of_getElem? (l := tables_1_2) (i := 63) (by decide +kernel))))) (by decide +kernel)
theorem kw_77 : Cond.fieldLink R_Bu 39 "LuaMachine$BuiltIns" "results" "LLuaMachine$Row;" ∈ wA := kinm (show _ ∈ tables_1 from (List.mem_append_right _ (List.mem_append_left _ (List.mem_of_getElem? (l := tables_1_2) (i := 194) (by decide +kernel))))) (by decide +kernel)
set_option maxHeartbeats 4000000 in
set_option maxRecDepth 100000 in
theorem c_Ma_init (l : Launch) (dC : Nat → ClassId) (dI : Nat → Nat → Nat) (h0 : Nat) (oc : Nat) (oh : Nat) (ot : Nat) (sz : Nat) : Met l y_Ma_init w_Ma_init ({ frames := 2, cells := 12, slots := 4108, locals := 32 }) (va_Pc [.ref h0, .ref oc, .ref oh, .ref ot] (fun U => U.heap.size = sz ∧ va_P (dC, dI) vwCl [(h0, .inr (4, [.null, .null, .null, .null, .null, .null, .int 0, .null, .int 0, .int 0, .int 0, .null, .int 0, .int 0, .long 0, .int 0, .long 0, .int 0]))] U.heap ∧ va_K (dC, dI) vwCl [] U ∧ va_D (fun _ => True) [(h0, .inr (4, [.null, .null, .null, .null, .null, .null, .int 0, .null, .int 0, .int 0, .int 0, .null, .int 0, .int 0, .long 0, .int 0, .long 0, .int 0]))] ∧ xB U ∧ xZ (va_A [(h0, .inr (4, [.null, .null, .null, .null, .null, .null, .int 0, .null, .int 0, .int 0, .int 0, .null, .int 0, .int 0, .long 0, .int 0, .long 0, .int 0]))] sz) U U.heap)) (va_Qv (fun (_ : Unit) => True) (fun _ t => ∃ (q5 : Nat), ∃ (q16 : Nat), ∃ (q27 : Nat), ∃ (q38 : Nat), va_P (dC, dI) vwCl [(h0, .inr (4, [.ref oc, .ref oh, .ref ot, .ref q5, .ref q16, .ref q27, .int 0, .ref q38, .int 0, .int 0, .int 0, .null, .int 0, .int 0, .long 0, .int 0, .long 0, .int 0]))] t.heap ∧ va_K (dC, dI) vwCl [] t ∧ va_D (va_A [(h0, .inr (4, [.null, .null, .null, .null, .null, .null, .int 0, .null, .int 0, .int 0, .int 0, .null, .int 0, .int 0, .long 0, .int 0, .long 0, .int 0]))] sz) [(h0, .inr (4, [.ref oc, .ref oh, .ref ot, .ref q5, .ref q16, .ref q27, .int 0, .ref q38, .int 0, .int 0, .int 0, .null, .int 0, .int 0, .long 0, .int 0, .long 0, .int 0]))]) (va_A [(h0, .inr (4, [.null, .null, .null, .null, .null, .null, .int 0, .null, .int 0, .int 0, .int 0, .null, .int 0, .int 0, .long 0, .int 0, .long 0, .int 0]))] sz)) 12 4108 (va_A [(h0, .inr (4, [.null, .null, .null, .null, .null, .null, .int 0, .null, .int 0, .int 0, .int 0, .null, .int 0, .int 0, .long 0, .int 0, .long 0, .int 0]))] sz) := by
  refine Met.ofW (cc := b_Ma_init) (maxL := 4) (ret := none) (by decide) rfl ?_
  intro p e s m args below meth c s₁ B hml hv
  obtain ⟨rfl, hsz, hP, hK, hD0, hB, hZ⟩ := hv
  have hx := B.exec
  have hb := B.bytes
  have hr := B.returns
  have hts := atoms_spec (ws := w_Ma_init) B.pre
  have hown : s.vm.findClass R_Ma = some m.cls := findClass_of_methodNamed B.named
  have hlocks := B.notSynchronized
  have hin : meth.name = "<init>" := (name_of_methodNamed B.named B.method).1
  subst hsz
  have hD := hD0.self (sz := s.heap.size)
  generalize hAe : va_A [(h0, .inr (4, [.null, .null, .null, .null, .null, .null, .int 0, .null, .int 0, .int 0, .int 0, .null, .int 0, .int 0, .long 0, .int 0, .long 0, .int 0]))] s.heap.size = A at hD hZ ⊢
  have hA : ∀ q : Nat, s.heap.size ≤ q → A q := fun q h => by rw [← hAe]; exact Or.inr h
  have hS : va_S A s.heap s.heap [] := va_S.rf
  have hl := lv_entry ([.ref h0, .ref oc, .ref oh, .ref ot]) (n := 4) (Nat.le_of_ble_eq_true rfl)
  rw [lg_entry_eq]
  generalize (lg_sl ([.ref h0, .ref oc, .ref oh, .ref ot]) ++ List.replicate (4 - (lg_sl ([.ref h0, .ref oc, .ref oh, .ref ot])).length) Slot.unset).toArray = ls at hl ⊢
  have hl : lv_has ls 4 [(0, .ref h0), (1, .ref oc), (2, .ref oh), (3, .ref ot)] := hl
  have hP : va_P (dC, dI) vwCl [(h0, .inr (4, [.null, .null, .null, .null, .null, .null, .int 0, .null, .int 0, .int 0, .int 0, .null, .int 0, .int 0, .long 0, .int 0, .long 0, .int 0]))] s.heap := hP
  have hD : va_D A [(h0, .inr (4, [.null, .null, .null, .null, .null, .null, .int 0, .null, .int 0, .int 0, .int 0, .null, .int 0, .int 0, .long 0, .int 0, .long 0, .int 0]))] := hD
  refine lv_aload_n hx hb d_Ma_init_0 rfl (lv_at hl 0 rfl) ?_
  refine W.objInit hx hb hown (hts (.methodLink R_Ma 3 objectInit) (List.mem_cons_of_mem _ kw_46)) (hts (.instanceMethod objectInit) (List.mem_cons_of_mem _ kw_1)) (hts (.code objectInit ⟨#[0xb1]⟩ 1 none) (List.mem_cons_of_mem _ kw_2)) rfl (by rw [hml]; exact hl.1) rfl d_Ma_init_1 (Nat.le_of_ble_eq_true rfl) (Nat.le_of_ble_eq_true rfl) ?_
  refine W.eq (g2 := F0 m 4 ls []) rfl ?_
  refine lv_aload_n hx hb d_Ma_init_4 rfl (lv_at hl 0 rfl) ?_
  refine va_new (ci := 7) (fs := [.null, .null, .int 0]) (C := R_Ro) (T := TRo) (N := 3) hx hb hts (fun w h => List.mem_cons_of_mem _ (ic_Ro w h)) tyRo tyRo_ok hown (hts (.classLink R_Ma 9 R_Ro) (List.mem_cons_of_mem _ kw_47)) (hts (.instantiable R_Ro 3) (List.mem_cons_of_mem _ kw_48)) (hts (.initialized R_Ro) (List.mem_cons_of_mem _ kw_49)) hK hP hD hS hA rfl dvRo (Nat.le_of_ble_eq_true rfl) (Nat.le_of_ble_eq_true rfl) d_Ma_init_5 (fun q5 H hP hD hS => ?_)
  have hP : va_P (dC, dI) vwCl [(h0, .inr (4, [.null, .null, .null, .null, .null, .null, .int 0, .null, .int 0, .int 0, .int 0, .null, .int 0, .int 0, .long 0, .int 0, .long 0, .int 0])), (q5, .inr (7, [.null, .null, .int 0]))] H := hP
  have hD : va_D A [(h0, .inr (4, [.null, .null, .null, .null, .null, .null, .int 0, .null, .int 0, .int 0, .int 0, .null, .int 0, .int 0, .long 0, .int 0, .long 0, .int 0])), (q5, .inr (7, [.null, .null, .int 0]))] := hD
  refine W.widen (k := 1) (n := 3) (Nat.le_of_ble_eq_true rfl) (Nat.le_of_ble_eq_true rfl) ?_
  refine lv_dup hx hb d_Ma_init_8 rfl ?_
  have hPc := hP.sub (ws' := [(q5, .inr (7, [.null, .null, .int 0]))]) [1] rfl
  have hDc := hD.sub (ws' := [(q5, .inr (7, [.null, .null, .int 0]))]) [1] (by decide) rfl
  have hKc := hK.sub (tys' := []) [] rfl
  have hFc := va_free (wc := [(q5, .inr (7, [.null, .null, .int 0]))]) hD hS hA [1] rfl
  refine va_callv (va_runIN (As := []) (rest := [.ref q5, .ref h0]) ⟨hx, hb, hml, hown, hts⟩ (c_Ro_init l dC dI q5 H.size ) ⟨va_cnB 0 hts (gC k_Ro_init) rfl rfl rfl (show va_Nw (Cond.methodLinkNest R_Ma 11 y_Ro_init "LuaMachine") s from hB _ nw_Ma_11) (hts (.initialized R_Ro) (List.mem_cons_of_mem _ kw_49)) (by decide +kernel) ⟨(Nat.le_of_ble_eq_true rfl), (Nat.le_of_ble_eq_true rfl)⟩, rfl, (hts (.instanceMethod y_Ro_init) (List.mem_cons_of_mem _ kw_51))⟩ ⟨fun a U g mk q => by obtain ⟨q0, q1, qP, qK, qD, qhB, qhZ⟩ := q; exact ⟨q0, q1, qP, va_K.moved (u := U) (U := U.calling g mk a) (Vm.Alike.refl U.vm) qK, qD, xB.warm (s := U) (U := U.calling g mk a) (State.WarmedH.refl U) qhB, xZ.moved (u := U) (U := U.calling g mk a) (Vm.Alike.refl U.vm) qhZ⟩, fun U hU hW => ⟨rfl, by rw [hU], by rw [hU]; exact hPc, va_K.moved hW.alike hKc, hDc.weaken (fun _ _ _ _ => trivial), xB.warm hW hB, (by rw [hU]; exact xZ.moved hW.alike ((hZ.kept hS.2.1).narrow hFc))⟩⟩ rfl rfl hl.1 rfl (lv_room (Nat.le_of_ble_eq_true rfl)) d_Ma_init_9 ⟨(Nat.le_of_ble_eq_true rfl), (Nat.le_of_ble_eq_true rfl)⟩) hS (fun q _ h => hFc q h) hFc (fun u t H1 locs ht hvm hw hB hz1 hk1 hS => ?_)
  obtain ⟨q8_9, q17_9, hP1, hK1, hD1⟩ := hB
  rw [ht] at hP1
  have hK1 := va_K.moved hvm.symm hK1
  obtain ⟨hP, hD⟩ := va_join (wr := [(h0, .inr (4, [.null, .null, .null, .null, .null, .null, .int 0, .null, .int 0, .int 0, .int 0, .null, .int 0, .int 0, .long 0, .int 0, .long 0, .int 0]))]) (w1 := [(q5, .inr (7, [.ref q8_9, .ref q17_9, .int 0]))]) hP hD [1] [0] rfl rfl (by decide) (by decide) hk1 hFc hP1 hD1
  have hK := (hK.sub (tys' := []) [] rfl).app hK1
  generalize H1 = H at hP hS ⊢
  have hK : va_K (dC, dI) vwCl [] s := hK
  have hP : va_P (dC, dI) vwCl [(h0, .inr (4, [.null, .null, .null, .null, .null, .null, .int 0, .null, .int 0, .int 0, .int 0, .null, .int 0, .int 0, .long 0, .int 0, .long 0, .int 0])), (q5, .inr (7, [.ref q8_9, .ref q17_9, .int 0]))] H := hP
  have hD : va_D A [(h0, .inr (4, [.null, .null, .null, .null, .null, .null, .int 0, .null, .int 0, .int 0, .int 0, .null, .int 0, .int 0, .long 0, .int 0, .long 0, .int 0])), (q5, .inr (7, [.ref q8_9, .ref q17_9, .int 0]))] := hD
  refine W.widen (k := 3) (n := 1027) (Nat.le_of_ble_eq_true rfl) (Nat.le_of_ble_eq_true rfl) ?_
  refine va_putF (D := (dC, dI)) (ci := 4) (v := .ref q5) (ty := (.object "LuaMachine$Row")) (C := R_Ma) (T := TMa) (N := 18) hx hb hts (fun w h => List.mem_cons_of_mem _ (ic_Ma w h)) tyMa tyMa_ok nmMa hown hK hP hD hS 0 rfl rfl 3 (by decide) (hts (.fieldLink R_Ma 12 "LuaMachine$Machine" "args" "LLuaMachine$Row;") (List.mem_cons_of_mem _ kw_52)) (fun _ h9 => h9) rfl hin rfl (tyMa_ok 3 (by decide)) rfl rfl (Nat.le_of_ble_eq_true rfl) d_Ma_init_12 (fun H locs hP hD hS => ?_)
  have hP : va_P (dC, dI) vwCl [(h0, .inr (4, [.null, .null, .null, .ref q5, .null, .null, .int 0, .null, .int 0, .int 0, .int 0, .null, .int 0, .int 0, .long 0, .int 0, .long 0, .int 0])), (q5, .inr (7, [.ref q8_9, .ref q17_9, .int 0]))] H := hP
  have hD : va_D A [(h0, .inr (4, [.null, .null, .null, .ref q5, .null, .null, .int 0, .null, .int 0, .int 0, .int 0, .null, .int 0, .int 0, .long 0, .int 0, .long 0, .int 0])), (q5, .inr (7, [.ref q8_9, .ref q17_9, .int 0]))] := hD
  have hP := hP.sub (ws' := [(h0, .inr (4, [.null, .null, .null, .ref q5, .null, .null, .int 0, .null, .int 0, .int 0, .int 0, .null, .int 0, .int 0, .long 0, .int 0, .long 0, .int 0]))]) [0] rfl
  have hD := hD.sub (ws' := [(h0, .inr (4, [.null, .null, .null, .ref q5, .null, .null, .int 0, .null, .int 0, .int 0, .int 0, .null, .int 0, .int 0, .long 0, .int 0, .long 0, .int 0]))]) [0] (by decide) rfl
  have hK := hK.sub (tys' := []) [] rfl
  refine lv_aload_n hx hb d_Ma_init_15 rfl (lv_at hl 0 rfl) ?_
  refine va_new (ci := 7) (fs := [.null, .null, .int 0]) (C := R_Ro) (T := TRo) (N := 3) hx hb hts (fun w h => List.mem_cons_of_mem _ (ic_Ro w h)) tyRo tyRo_ok hown (hts (.classLink R_Ma 9 R_Ro) (List.mem_cons_of_mem _ kw_47)) (hts (.instantiable R_Ro 3) (List.mem_cons_of_mem _ kw_48)) (hts (.initialized R_Ro) (List.mem_cons_of_mem _ kw_49)) hK hP hD hS hA rfl dvRo (Nat.le_of_ble_eq_true rfl) (Nat.le_of_ble_eq_true rfl) d_Ma_init_16 (fun q16 H hP hD hS => ?_)
  have hP : va_P (dC, dI) vwCl [(h0, .inr (4, [.null, .null, .null, .ref q5, .null, .null, .int 0, .null, .int 0, .int 0, .int 0, .null, .int 0, .int 0, .long 0, .int 0, .long 0, .int 0])), (q16, .inr (7, [.null, .null, .int 0]))] H := hP
  have hD : va_D A [(h0, .inr (4, [.null, .null, .null, .ref q5, .null, .null, .int 0, .null, .int 0, .int 0, .int 0, .null, .int 0, .int 0, .long 0, .int 0, .long 0, .int 0])), (q16, .inr (7, [.null, .null, .int 0]))] := hD
  refine W.widen (k := 4) (n := 1030) (Nat.le_of_ble_eq_true rfl) (Nat.le_of_ble_eq_true rfl) ?_
  refine lv_dup hx hb d_Ma_init_19 rfl ?_
  have hPc := hP.sub (ws' := [(q16, .inr (7, [.null, .null, .int 0]))]) [1] rfl
  have hDc := hD.sub (ws' := [(q16, .inr (7, [.null, .null, .int 0]))]) [1] (by decide) rfl
  have hKc := hK.sub (tys' := []) [] rfl
  have hFc := va_free (wc := [(q16, .inr (7, [.null, .null, .int 0]))]) hD hS hA [1] rfl
  refine va_callv (va_runIN (As := []) (rest := [.ref q16, .ref h0]) ⟨hx, hb, hml, hown, hts⟩ (c_Ro_init l dC dI q16 H.size ) ⟨va_cnB 0 hts (gC k_Ro_init) rfl rfl rfl (show va_Nw (Cond.methodLinkNest R_Ma 11 y_Ro_init "LuaMachine") s from hB _ nw_Ma_11) (hts (.initialized R_Ro) (List.mem_cons_of_mem _ kw_49)) (by decide +kernel) ⟨(Nat.le_of_ble_eq_true rfl), (Nat.le_of_ble_eq_true rfl)⟩, rfl, (hts (.instanceMethod y_Ro_init) (List.mem_cons_of_mem _ kw_51))⟩ ⟨fun a U g mk q => by obtain ⟨q0, q1, qP, qK, qD, qhB, qhZ⟩ := q; exact ⟨q0, q1, qP, va_K.moved (u := U) (U := U.calling g mk a) (Vm.Alike.refl U.vm) qK, qD, xB.warm (s := U) (U := U.calling g mk a) (State.WarmedH.refl U) qhB, xZ.moved (u := U) (U := U.calling g mk a) (Vm.Alike.refl U.vm) qhZ⟩, fun U hU hW => ⟨rfl, by rw [hU], by rw [hU]; exact hPc, va_K.moved hW.alike hKc, hDc.weaken (fun _ _ _ _ => trivial), xB.warm hW hB, (by rw [hU]; exact xZ.moved hW.alike ((hZ.kept hS.2.1).narrow hFc))⟩⟩ rfl rfl hl.1 rfl (lv_room (Nat.le_of_ble_eq_true rfl)) d_Ma_init_20 ⟨(Nat.le_of_ble_eq_true rfl), (Nat.le_of_ble_eq_true rfl)⟩) hS (fun q _ h => hFc q h) hFc (fun u t H1 locs ht hvm hw hB hz1 hk1 hS => ?_)
  obtain ⟨q8_20, q17_20, hP1, hK1, hD1⟩ := hB
  rw [ht] at hP1
  have hK1 := va_K.moved hvm.symm hK1
  obtain ⟨hP, hD⟩ := va_join (wr := [(h0, .inr (4, [.null, .null, .null, .ref q5, .null, .null, .int 0, .null, .int 0, .int 0, .int 0, .null, .int 0, .int 0, .long 0, .int 0, .long 0, .int 0]))]) (w1 := [(q16, .inr (7, [.ref q8_20, .ref q17_20, .int 0]))]) hP hD [1] [0] rfl rfl (by decide) (by decide) hk1 hFc hP1 hD1
  have hK := (hK.sub (tys' := []) [] rfl).app hK1
  generalize H1 = H at hP hS ⊢
  have hK : va_K (dC, dI) vwCl [] s := hK
  have hP : va_P (dC, dI) vwCl [(h0, .inr (4, [.null, .null, .null, .ref q5, .null, .null, .int 0, .null, .int 0, .int 0, .int 0, .null, .int 0, .int 0, .long 0, .int 0, .long 0, .int 0])), (q16, .inr (7, [.ref q8_20, .ref q17_20, .int 0]))] H := hP
  have hD : va_D A [(h0, .inr (4, [.null, .null, .null, .ref q5, .null, .null, .int 0, .null, .int 0, .int 0, .int 0, .null, .int 0, .int 0, .long 0, .int 0, .long 0, .int 0])), (q16, .inr (7, [.ref q8_20, .ref q17_20, .int 0]))] := hD
  refine W.widen (k := 6) (n := 2054) (Nat.le_of_ble_eq_true rfl) (Nat.le_of_ble_eq_true rfl) ?_
  refine va_putF (D := (dC, dI)) (ci := 4) (v := .ref q16) (ty := (.object "LuaMachine$Row")) (C := R_Ma) (T := TMa) (N := 18) hx hb hts (fun w h => List.mem_cons_of_mem _ (ic_Ma w h)) tyMa tyMa_ok nmMa hown hK hP hD hS 0 rfl rfl 4 (by decide) (hts (.fieldLink R_Ma 18 "LuaMachine$Machine" "results" "LLuaMachine$Row;") (List.mem_cons_of_mem _ kw_53)) (fun _ h9 => h9) rfl hin rfl (tyMa_ok 4 (by decide)) rfl rfl (Nat.le_of_ble_eq_true rfl) d_Ma_init_23 (fun H locs hP hD hS => ?_)
  have hP : va_P (dC, dI) vwCl [(h0, .inr (4, [.null, .null, .null, .ref q5, .ref q16, .null, .int 0, .null, .int 0, .int 0, .int 0, .null, .int 0, .int 0, .long 0, .int 0, .long 0, .int 0])), (q16, .inr (7, [.ref q8_20, .ref q17_20, .int 0]))] H := hP
  have hD : va_D A [(h0, .inr (4, [.null, .null, .null, .ref q5, .ref q16, .null, .int 0, .null, .int 0, .int 0, .int 0, .null, .int 0, .int 0, .long 0, .int 0, .long 0, .int 0])), (q16, .inr (7, [.ref q8_20, .ref q17_20, .int 0]))] := hD
  have hP := hP.sub (ws' := [(h0, .inr (4, [.null, .null, .null, .ref q5, .ref q16, .null, .int 0, .null, .int 0, .int 0, .int 0, .null, .int 0, .int 0, .long 0, .int 0, .long 0, .int 0]))]) [0] rfl
  have hD := hD.sub (ws' := [(h0, .inr (4, [.null, .null, .null, .ref q5, .ref q16, .null, .int 0, .null, .int 0, .int 0, .int 0, .null, .int 0, .int 0, .long 0, .int 0, .long 0, .int 0]))]) [0] (by decide) rfl
  have hK := hK.sub (tys' := []) [] rfl
  refine lv_aload_n hx hb d_Ma_init_26 rfl (lv_at hl 0 rfl) ?_
  refine va_new (ci := 7) (fs := [.null, .null, .int 0]) (C := R_Ro) (T := TRo) (N := 3) hx hb hts (fun w h => List.mem_cons_of_mem _ (ic_Ro w h)) tyRo tyRo_ok hown (hts (.classLink R_Ma 9 R_Ro) (List.mem_cons_of_mem _ kw_47)) (hts (.instantiable R_Ro 3) (List.mem_cons_of_mem _ kw_48)) (hts (.initialized R_Ro) (List.mem_cons_of_mem _ kw_49)) hK hP hD hS hA rfl dvRo (Nat.le_of_ble_eq_true rfl) (Nat.le_of_ble_eq_true rfl) d_Ma_init_27 (fun q27 H hP hD hS => ?_)
  have hP : va_P (dC, dI) vwCl [(h0, .inr (4, [.null, .null, .null, .ref q5, .ref q16, .null, .int 0, .null, .int 0, .int 0, .int 0, .null, .int 0, .int 0, .long 0, .int 0, .long 0, .int 0])), (q27, .inr (7, [.null, .null, .int 0]))] H := hP
  have hD : va_D A [(h0, .inr (4, [.null, .null, .null, .ref q5, .ref q16, .null, .int 0, .null, .int 0, .int 0, .int 0, .null, .int 0, .int 0, .long 0, .int 0, .long 0, .int 0])), (q27, .inr (7, [.null, .null, .int 0]))] := hD
  refine W.widen (k := 7) (n := 2057) (Nat.le_of_ble_eq_true rfl) (Nat.le_of_ble_eq_true rfl) ?_
  refine lv_dup hx hb d_Ma_init_30 rfl ?_
  have hPc := hP.sub (ws' := [(q27, .inr (7, [.null, .null, .int 0]))]) [1] rfl
  have hDc := hD.sub (ws' := [(q27, .inr (7, [.null, .null, .int 0]))]) [1] (by decide) rfl
  have hKc := hK.sub (tys' := []) [] rfl
  have hFc := va_free (wc := [(q27, .inr (7, [.null, .null, .int 0]))]) hD hS hA [1] rfl
  refine va_callv (va_runIN (As := []) (rest := [.ref q27, .ref h0]) ⟨hx, hb, hml, hown, hts⟩ (c_Ro_init l dC dI q27 H.size ) ⟨va_cnB 0 hts (gC k_Ro_init) rfl rfl rfl (show va_Nw (Cond.methodLinkNest R_Ma 11 y_Ro_init "LuaMachine") s from hB _ nw_Ma_11) (hts (.initialized R_Ro) (List.mem_cons_of_mem _ kw_49)) (by decide +kernel) ⟨(Nat.le_of_ble_eq_true rfl), (Nat.le_of_ble_eq_true rfl)⟩, rfl, (hts (.instanceMethod y_Ro_init) (List.mem_cons_of_mem _ kw_51))⟩ ⟨fun a U g mk q => by obtain ⟨q0, q1, qP, qK, qD, qhB, qhZ⟩ := q; exact ⟨q0, q1, qP, va_K.moved (u := U) (U := U.calling g mk a) (Vm.Alike.refl U.vm) qK, qD, xB.warm (s := U) (U := U.calling g mk a) (State.WarmedH.refl U) qhB, xZ.moved (u := U) (U := U.calling g mk a) (Vm.Alike.refl U.vm) qhZ⟩, fun U hU hW => ⟨rfl, by rw [hU], by rw [hU]; exact hPc, va_K.moved hW.alike hKc, hDc.weaken (fun _ _ _ _ => trivial), xB.warm hW hB, (by rw [hU]; exact xZ.moved hW.alike ((hZ.kept hS.2.1).narrow hFc))⟩⟩ rfl rfl hl.1 rfl (lv_room (Nat.le_of_ble_eq_true rfl)) d_Ma_init_31 ⟨(Nat.le_of_ble_eq_true rfl), (Nat.le_of_ble_eq_true rfl)⟩) hS (fun q _ h => hFc q h) hFc (fun u t H1 locs ht hvm hw hB hz1 hk1 hS => ?_)
  obtain ⟨q8_31, q17_31, hP1, hK1, hD1⟩ := hB
  rw [ht] at hP1
  have hK1 := va_K.moved hvm.symm hK1
  obtain ⟨hP, hD⟩ := va_join (wr := [(h0, .inr (4, [.null, .null, .null, .ref q5, .ref q16, .null, .int 0, .null, .int 0, .int 0, .int 0, .null, .int 0, .int 0, .long 0, .int 0, .long 0, .int 0]))]) (w1 := [(q27, .inr (7, [.ref q8_31, .ref q17_31, .int 0]))]) hP hD [1] [0] rfl rfl (by decide) (by decide) hk1 hFc hP1 hD1
  have hK := (hK.sub (tys' := []) [] rfl).app hK1
  generalize H1 = H at hP hS ⊢
  have hK : va_K (dC, dI) vwCl [] s := hK
  have hP : va_P (dC, dI) vwCl [(h0, .inr (4, [.null, .null, .null, .ref q5, .ref q16, .null, .int 0, .null, .int 0, .int 0, .int 0, .null, .int 0, .int 0, .long 0, .int 0, .long 0, .int 0])), (q27, .inr (7, [.ref q8_31, .ref q17_31, .int 0]))] H := hP
  have hD : va_D A [(h0, .inr (4, [.null, .null, .null, .ref q5, .ref q16, .null, .int 0, .null, .int 0, .int 0, .int 0, .null, .int 0, .int 0, .long 0, .int 0, .long 0, .int 0])), (q27, .inr (7, [.ref q8_31, .ref q17_31, .int 0]))] := hD
  refine W.widen (k := 9) (n := 3081) (Nat.le_of_ble_eq_true rfl) (Nat.le_of_ble_eq_true rfl) ?_
  refine va_putF (D := (dC, dI)) (ci := 4) (v := .ref q27) (ty := (.object "LuaMachine$Row")) (C := R_Ma) (T := TMa) (N := 18) hx hb hts (fun w h => List.mem_cons_of_mem _ (ic_Ma w h)) tyMa tyMa_ok nmMa hown hK hP hD hS 0 rfl rfl 5 (by decide) (hts (.fieldLink R_Ma 21 "LuaMachine$Machine" "open" "LLuaMachine$Row;") (List.mem_cons_of_mem _ kw_54)) (fun _ h9 => h9) rfl hin rfl (tyMa_ok 5 (by decide)) rfl rfl (Nat.le_of_ble_eq_true rfl) d_Ma_init_34 (fun H locs hP hD hS => ?_)
  have hP : va_P (dC, dI) vwCl [(h0, .inr (4, [.null, .null, .null, .ref q5, .ref q16, .ref q27, .int 0, .null, .int 0, .int 0, .int 0, .null, .int 0, .int 0, .long 0, .int 0, .long 0, .int 0])), (q27, .inr (7, [.ref q8_31, .ref q17_31, .int 0]))] H := hP
  have hD : va_D A [(h0, .inr (4, [.null, .null, .null, .ref q5, .ref q16, .ref q27, .int 0, .null, .int 0, .int 0, .int 0, .null, .int 0, .int 0, .long 0, .int 0, .long 0, .int 0])), (q27, .inr (7, [.ref q8_31, .ref q17_31, .int 0]))] := hD
  have hP := hP.sub (ws' := [(h0, .inr (4, [.null, .null, .null, .ref q5, .ref q16, .ref q27, .int 0, .null, .int 0, .int 0, .int 0, .null, .int 0, .int 0, .long 0, .int 0, .long 0, .int 0]))]) [0] rfl
  have hD := hD.sub (ws' := [(h0, .inr (4, [.null, .null, .null, .ref q5, .ref q16, .ref q27, .int 0, .null, .int 0, .int 0, .int 0, .null, .int 0, .int 0, .long 0, .int 0, .long 0, .int 0]))]) [0] (by decide) rfl
  have hK := hK.sub (tys' := []) [] rfl
  refine lv_aload_n hx hb d_Ma_init_37 rfl (lv_at hl 0 rfl) ?_
  refine va_new (ci := 7) (fs := [.null, .null, .int 0]) (C := R_Ro) (T := TRo) (N := 3) hx hb hts (fun w h => List.mem_cons_of_mem _ (ic_Ro w h)) tyRo tyRo_ok hown (hts (.classLink R_Ma 9 R_Ro) (List.mem_cons_of_mem _ kw_47)) (hts (.instantiable R_Ro 3) (List.mem_cons_of_mem _ kw_48)) (hts (.initialized R_Ro) (List.mem_cons_of_mem _ kw_49)) hK hP hD hS hA rfl dvRo (Nat.le_of_ble_eq_true rfl) (Nat.le_of_ble_eq_true rfl) d_Ma_init_38 (fun q38 H hP hD hS => ?_)
  have hP : va_P (dC, dI) vwCl [(h0, .inr (4, [.null, .null, .null, .ref q5, .ref q16, .ref q27, .int 0, .null, .int 0, .int 0, .int 0, .null, .int 0, .int 0, .long 0, .int 0, .long 0, .int 0])), (q38, .inr (7, [.null, .null, .int 0]))] H := hP
  have hD : va_D A [(h0, .inr (4, [.null, .null, .null, .ref q5, .ref q16, .ref q27, .int 0, .null, .int 0, .int 0, .int 0, .null, .int 0, .int 0, .long 0, .int 0, .long 0, .int 0])), (q38, .inr (7, [.null, .null, .int 0]))] := hD
  refine W.widen (k := 10) (n := 3084) (Nat.le_of_ble_eq_true rfl) (Nat.le_of_ble_eq_true rfl) ?_
  refine lv_dup hx hb d_Ma_init_41 rfl ?_
  have hPc := hP.sub (ws' := [(q38, .inr (7, [.null, .null, .int 0]))]) [1] rfl
  have hDc := hD.sub (ws' := [(q38, .inr (7, [.null, .null, .int 0]))]) [1] (by decide) rfl
  have hKc := hK.sub (tys' := []) [] rfl
  have hFc := va_free (wc := [(q38, .inr (7, [.null, .null, .int 0]))]) hD hS hA [1] rfl
  refine va_callv (va_runIN (As := []) (rest := [.ref q38, .ref h0]) ⟨hx, hb, hml, hown, hts⟩ (c_Ro_init l dC dI q38 H.size ) ⟨va_cnB 0 hts (gC k_Ro_init) rfl rfl rfl (show va_Nw (Cond.methodLinkNest R_Ma 11 y_Ro_init "LuaMachine") s from hB _ nw_Ma_11) (hts (.initialized R_Ro) (List.mem_cons_of_mem _ kw_49)) (by decide +kernel) ⟨(Nat.le_of_ble_eq_true rfl), (Nat.le_of_ble_eq_true rfl)⟩, rfl, (hts (.instanceMethod y_Ro_init) (List.mem_cons_of_mem _ kw_51))⟩ ⟨fun a U g mk q => by obtain ⟨q0, q1, qP, qK, qD, qhB, qhZ⟩ := q; exact ⟨q0, q1, qP, va_K.moved (u := U) (U := U.calling g mk a) (Vm.Alike.refl U.vm) qK, qD, xB.warm (s := U) (U := U.calling g mk a) (State.WarmedH.refl U) qhB, xZ.moved (u := U) (U := U.calling g mk a) (Vm.Alike.refl U.vm) qhZ⟩, fun U hU hW => ⟨rfl, by rw [hU], by rw [hU]; exact hPc, va_K.moved hW.alike hKc, hDc.weaken (fun _ _ _ _ => trivial), xB.warm hW hB, (by rw [hU]; exact xZ.moved hW.alike ((hZ.kept hS.2.1).narrow hFc))⟩⟩ rfl rfl hl.1 rfl (lv_room (Nat.le_of_ble_eq_true rfl)) d_Ma_init_42 ⟨(Nat.le_of_ble_eq_true rfl), (Nat.le_of_ble_eq_true rfl)⟩) hS (fun q _ h => hFc q h) hFc (fun u t H1 locs ht hvm hw hB hz1 hk1 hS => ?_)
  obtain ⟨q8_42, q17_42, hP1, hK1, hD1⟩ := hB
  rw [ht] at hP1
  have hK1 := va_K.moved hvm.symm hK1
  obtain ⟨hP, hD⟩ := va_join (wr := [(h0, .inr (4, [.null, .null, .null, .ref q5, .ref q16, .ref q27, .int 0, .null, .int 0, .int 0, .int 0, .null, .int 0, .int 0, .long 0, .int 0, .long 0, .int 0]))]) (w1 := [(q38, .inr (7, [.ref q8_42, .ref q17_42, .int 0]))]) hP hD [1] [0] rfl rfl (by decide) (by decide) hk1 hFc hP1 hD1
  have hK := (hK.sub (tys' := []) [] rfl).app hK1
  generalize H1 = H at hP hS ⊢
  have hK : va_K (dC, dI) vwCl [] s := hK
  have hP : va_P (dC, dI) vwCl [(h0, .inr (4, [.null, .null, .null, .ref q5, .ref q16, .ref q27, .int 0, .null, .int 0, .int 0, .int 0, .null, .int 0, .int 0, .long 0, .int 0, .long 0, .int 0])), (q38, .inr (7, [.ref q8_42, .ref q17_42, .int 0]))] H := hP
  have hD : va_D A [(h0, .inr (4, [.null, .null, .null, .ref q5, .ref q16, .ref q27, .int 0, .null, .int 0, .int 0, .int 0, .null, .int 0, .int 0, .long 0, .int 0, .long 0, .int 0])), (q38, .inr (7, [.ref q8_42, .ref q17_42, .int 0]))] := hD
  refine W.widen (k := 12) (n := 4108) (Nat.le_of_ble_eq_true rfl) (Nat.le_of_ble_eq_true rfl) ?_
  refine va_putF (D := (dC, dI)) (ci := 4) (v := .ref q38) (ty := (.object "LuaMachine$Row")) (C := R_Ma) (T := TMa) (N := 18) hx hb hts (fun w h => List.mem_cons_of_mem _ (ic_Ma w h)) tyMa tyMa_ok nmMa hown hK hP hD hS 0 rfl rfl 7 (by decide) (hts (.fieldLink R_Ma 24 "LuaMachine$Machine" "last" "LLuaMachine$Row;") (List.mem_cons_of_mem _ kw_55)) (fun _ h9 => h9) rfl hin rfl (tyMa_ok 7 (by decide)) rfl rfl (Nat.le_of_ble_eq_true rfl) d_Ma_init_45 (fun H locs hP hD hS => ?_)
  have hP : va_P (dC, dI) vwCl [(h0, .inr (4, [.null, .null, .null, .ref q5, .ref q16, .ref q27, .int 0, .ref q38, .int 0, .int 0, .int 0, .null, .int 0, .int 0, .long 0, .int 0, .long 0, .int 0])), (q38, .inr (7, [.ref q8_42, .ref q17_42, .int 0]))] H := hP
  have hD : va_D A [(h0, .inr (4, [.null, .null, .null, .ref q5, .ref q16, .ref q27, .int 0, .ref q38, .int 0, .int 0, .int 0, .null, .int 0, .int 0, .long 0, .int 0, .long 0, .int 0])), (q38, .inr (7, [.ref q8_42, .ref q17_42, .int 0]))] := hD
  have hP := hP.sub (ws' := [(h0, .inr (4, [.null, .null, .null, .ref q5, .ref q16, .ref q27, .int 0, .ref q38, .int 0, .int 0, .int 0, .null, .int 0, .int 0, .long 0, .int 0, .long 0, .int 0]))]) [0] rfl
  have hD := hD.sub (ws' := [(h0, .inr (4, [.null, .null, .null, .ref q5, .ref q16, .ref q27, .int 0, .ref q38, .int 0, .int 0, .int 0, .null, .int 0, .int 0, .long 0, .int 0, .long 0, .int 0]))]) [0] (by decide) rfl
  have hK := hK.sub (tys' := []) [] rfl
  refine lv_aload_n hx hb d_Ma_init_48 rfl (lv_at hl 0 rfl) ?_
  refine lv_aload_n hx hb d_Ma_init_49 rfl (lv_at hl 1 rfl) ?_
  refine va_putF (D := (dC, dI)) (ci := 4) (v := .ref oc) (ty := (.object "LuaMachine$Chunk")) (C := R_Ma) (T := TMa) (N := 18) hx hb hts (fun w h => List.mem_cons_of_mem _ (ic_Ma w h)) tyMa tyMa_ok nmMa hown hK hP hD hS 0 rfl rfl 0 (by decide) (hts (.fieldLink R_Ma 27 "LuaMachine$Machine" "chunk" "LLuaMachine$Chunk;") (List.mem_cons_of_mem _ kw_56)) (fun _ h9 => h9) rfl hin rfl (tyMa_ok 0 (by decide)) rfl rfl (Nat.le_of_ble_eq_true rfl) d_Ma_init_50 (fun H locs hP hD hS => ?_)
  have hP : va_P (dC, dI) vwCl [(h0, .inr (4, [.ref oc, .null, .null, .ref q5, .ref q16, .ref q27, .int 0, .ref q38, .int 0, .int 0, .int 0, .null, .int 0, .int 0, .long 0, .int 0, .long 0, .int 0]))] H := hP
  have hD : va_D A [(h0, .inr (4, [.ref oc, .null, .null, .ref q5, .ref q16, .ref q27, .int 0, .ref q38, .int 0, .int 0, .int 0, .null, .int 0, .int 0, .long 0, .int 0, .long 0, .int 0]))] := hD
  refine lv_aload_n hx hb d_Ma_init_53 rfl (lv_at hl 0 rfl) ?_
  refine lv_aload_n hx hb d_Ma_init_54 rfl (lv_at hl 2 rfl) ?_
  refine va_putF (D := (dC, dI)) (ci := 4) (v := .ref oh) (ty := (.object "LuaMachine$Heap")) (C := R_Ma) (T := TMa) (N := 18) hx hb hts (fun w h => List.mem_cons_of_mem _ (ic_Ma w h)) tyMa tyMa_ok nmMa hown hK hP hD hS 0 rfl rfl 1 (by decide) (hts (.fieldLink R_Ma 31 "LuaMachine$Machine" "heap" "LLuaMachine$Heap;") (List.mem_cons_of_mem _ kw_57)) (fun _ h9 => h9) rfl hin rfl (tyMa_ok 1 (by decide)) rfl rfl (Nat.le_of_ble_eq_true rfl) d_Ma_init_55 (fun H locs hP hD hS => ?_)
  have hP : va_P (dC, dI) vwCl [(h0, .inr (4, [.ref oc, .ref oh, .null, .ref q5, .ref q16, .ref q27, .int 0, .ref q38, .int 0, .int 0, .int 0, .null, .int 0, .int 0, .long 0, .int 0, .long 0, .int 0]))] H := hP
  have hD : va_D A [(h0, .inr (4, [.ref oc, .ref oh, .null, .ref q5, .ref q16, .ref q27, .int 0, .ref q38, .int 0, .int 0, .int 0, .null, .int 0, .int 0, .long 0, .int 0, .long 0, .int 0]))] := hD
  refine lv_aload_n hx hb d_Ma_init_58 rfl (lv_at hl 0 rfl) ?_
  refine lv_aload_n hx hb d_Ma_init_59 rfl (lv_at hl 3 rfl) ?_
  refine va_putF (D := (dC, dI)) (ci := 4) (v := .ref ot) (ty := (.object "LuaMachine$Tables")) (C := R_Ma) (T := TMa) (N := 18) hx hb hts (fun w h => List.mem_cons_of_mem _ (ic_Ma w h)) tyMa tyMa_ok nmMa hown hK hP hD hS 0 rfl rfl 2 (by decide) (hts (.fieldLink R_Ma 35 "LuaMachine$Machine" "tables" "LLuaMachine$Tables;") (List.mem_cons_of_mem _ kw_58)) (fun _ h9 => h9) rfl hin rfl (tyMa_ok 2 (by decide)) rfl rfl (Nat.le_of_ble_eq_true rfl) d_Ma_init_60 (fun H locs hP hD hS => ?_)
  have hP : va_P (dC, dI) vwCl [(h0, .inr (4, [.ref oc, .ref oh, .ref ot, .ref q5, .ref q16, .ref q27, .int 0, .ref q38, .int 0, .int 0, .int 0, .null, .int 0, .int 0, .long 0, .int 0, .long 0, .int 0]))] H := hP
  have hD : va_D A [(h0, .inr (4, [.ref oc, .ref oh, .ref ot, .ref q5, .ref q16, .ref q27, .int 0, .ref q38, .int 0, .int 0, .int 0, .null, .int 0, .int 0, .long 0, .int 0, .long 0, .int 0]))] := hD
  have hP9 := hP.sub (ws' := [(h0, .inr (4, [.ref oc, .ref oh, .ref ot, .ref q5, .ref q16, .ref q27, .int 0, .ref q38, .int 0, .int 0, .int 0, .null, .int 0, .int 0, .long 0, .int 0, .long 0, .int 0]))]) [0] rfl
  have hD9 := hD.sub (ws' := [(h0, .inr (4, [.ref oc, .ref oh, .ref ot, .ref q5, .ref q16, .ref q27, .int 0, .ref q38, .int 0, .int 0, .int 0, .null, .int 0, .int 0, .long 0, .int 0, .long 0, .int 0]))]) [0] (by decide) rfl
  have hK9 := hK.sub (tys' := []) [] rfl
  refine W.widen (k := 12) (n := 4108) (Nat.le_of_ble_eq_true rfl) (Nat.le_of_ble_eq_true rfl) ?_
  exact W.vret hx hb hr (fun t ht hW => ⟨⟨(), rfl, trivial, q5, q16, q27, q38, by rw [ht]; exact hP9, va_K.moved hW.alike hK9, hD9⟩, hS.F ht⟩) hS.2.2 d_Ma_init_63

set_option maxHeartbeats 4000000 in
set_option maxRecDepth 100000 in
theorem c_St_init (l : Launch) (dC : Nat → ClassId) (dI : Nat → Nat → Nat) (h0 : Nat) (om : Nat) (om_chunk : Nat) (om_heap : Nat) (om_tables : Nat) (om_args : Nat) (om_results : Nat) (om_open : Nat) (om_openFrom : Int32) (om_last : Nat) (om_ended : Int32) (om_stepCount : Int32) (om_globals : Int32) (om_turn : Int32) (om_calleeKind : Int32) (om_calleeValue : Int64) (om_errorKind : Int32) (om_errorValue : Int64) (om_fatal : Int32) (sz : Nat) : Met l y_St_init w_St_init ({ frames := 1, cells := 0, slots := 0, locals := 12 }) (va_Pc [.ref h0, .ref om] (fun U => U.heap.size = sz ∧ va_P (dC, dI) vwCl [(h0, .inr (5, [.null, .null, .null, .null, .null, .null, .null, .int 0, .int 0, .int 0, .int 0, .int 0, .int 0])), (om, .inr (4, [.ref om_chunk, .ref om_heap, .ref om_tables, .ref om_args, .ref om_results, .ref om_open, .int om_openFrom, .ref om_last, .int om_ended, .int om_stepCount, .int om_globals, .null, .int om_turn, .int om_calleeKind, .long om_calleeValue, .int om_errorKind, .long om_errorValue, .int om_fatal]))] U.heap ∧ va_K (dC, dI) vwCl [] U ∧ va_D (fun _ => True) [(h0, .inr (5, [.null, .null, .null, .null, .null, .null, .null, .int 0, .int 0, .int 0, .int 0, .int 0, .int 0])), (om, .inr (4, [.ref om_chunk, .ref om_heap, .ref om_tables, .ref om_args, .ref om_results, .ref om_open, .int om_openFrom, .ref om_last, .int om_ended, .int om_stepCount, .int om_globals, .null, .int om_turn, .int om_calleeKind, .long om_calleeValue, .int om_errorKind, .long om_errorValue, .int om_fatal]))] ∧ xB U ∧ xZ (va_A [(h0, .inr (5, [.null, .null, .null, .null, .null, .null, .null, .int 0, .int 0, .int 0, .int 0, .int 0, .int 0])), (om, .inr (4, [.ref om_chunk, .ref om_heap, .ref om_tables, .ref om_args, .ref om_results, .ref om_open, .int om_openFrom, .ref om_last, .int om_ended, .int om_stepCount, .int om_globals, .null, .int om_turn, .int om_calleeKind, .long om_calleeValue, .int om_errorKind, .long om_errorValue, .int om_fatal]))] sz) U U.heap)) (va_Qv (fun (_ : Unit) => True) (fun _ t => va_P (dC, dI) vwCl [(h0, .inr (5, [.ref om, .ref om_heap, .ref om_tables, .ref om_chunk, .null, .null, .null, .int 0, .int 0, .int 0, .int 0, .int 0, .int 0])), (om, .inr (4, [.ref om_chunk, .ref om_heap, .ref om_tables, .ref om_args, .ref om_results, .ref om_open, .int om_openFrom, .ref om_last, .int om_ended, .int om_stepCount, .int om_globals, .null, .int om_turn, .int om_calleeKind, .long om_calleeValue, .int om_errorKind, .long om_errorValue, .int om_fatal]))] t.heap ∧ va_K (dC, dI) vwCl [] t ∧ va_D (va_A [(h0, .inr (5, [.null, .null, .null, .null, .null, .null, .null, .int 0, .int 0, .int 0, .int 0, .int 0, .int 0])), (om, .inr (4, [.ref om_chunk, .ref om_heap, .ref om_tables, .ref om_args, .ref om_results, .ref om_open, .int om_openFrom, .ref om_last, .int om_ended, .int om_stepCount, .int om_globals, .null, .int om_turn, .int om_calleeKind, .long om_calleeValue, .int om_errorKind, .long om_errorValue, .int om_fatal]))] sz) [(h0, .inr (5, [.ref om, .ref om_heap, .ref om_tables, .ref om_chunk, .null, .null, .null, .int 0, .int 0, .int 0, .int 0, .int 0, .int 0])), (om, .inr (4, [.ref om_chunk, .ref om_heap, .ref om_tables, .ref om_args, .ref om_results, .ref om_open, .int om_openFrom, .ref om_last, .int om_ended, .int om_stepCount, .int om_globals, .null, .int om_turn, .int om_calleeKind, .long om_calleeValue, .int om_errorKind, .long om_errorValue, .int om_fatal]))]) (va_A [(h0, .inr (5, [.null, .null, .null, .null, .null, .null, .null, .int 0, .int 0, .int 0, .int 0, .int 0, .int 0])), (om, .inr (4, [.ref om_chunk, .ref om_heap, .ref om_tables, .ref om_args, .ref om_results, .ref om_open, .int om_openFrom, .ref om_last, .int om_ended, .int om_stepCount, .int om_globals, .null, .int om_turn, .int om_calleeKind, .long om_calleeValue, .int om_errorKind, .long om_errorValue, .int om_fatal]))] sz)) 0 0 (va_A [(h0, .inr (5, [.null, .null, .null, .null, .null, .null, .null, .int 0, .int 0, .int 0, .int 0, .int 0, .int 0])), (om, .inr (4, [.ref om_chunk, .ref om_heap, .ref om_tables, .ref om_args, .ref om_results, .ref om_open, .int om_openFrom, .ref om_last, .int om_ended, .int om_stepCount, .int om_globals, .null, .int om_turn, .int om_calleeKind, .long om_calleeValue, .int om_errorKind, .long om_errorValue, .int om_fatal]))] sz) := by
  refine Met.ofW (cc := b_St_init) (maxL := 2) (ret := none) (by decide) rfl ?_
  intro p e s m args below meth c s₁ B hml hv
  obtain ⟨rfl, hsz, hP, hK, hD0, hB, hZ⟩ := hv
  have hx := B.exec
  have hb := B.bytes
  have hr := B.returns
  have hts := atoms_spec (ws := w_St_init) B.pre
  have hown : s.vm.findClass R_St = some m.cls := findClass_of_methodNamed B.named
  have hlocks := B.notSynchronized
  have hin : meth.name = "<init>" := (name_of_methodNamed B.named B.method).1
  subst hsz
  have hD := hD0.self (sz := s.heap.size)
  generalize hAe : va_A [(h0, .inr (5, [.null, .null, .null, .null, .null, .null, .null, .int 0, .int 0, .int 0, .int 0, .int 0, .int 0])), (om, .inr (4, [.ref om_chunk, .ref om_heap, .ref om_tables, .ref om_args, .ref om_results, .ref om_open, .int om_openFrom, .ref om_last, .int om_ended, .int om_stepCount, .int om_globals, .null, .int om_turn, .int om_calleeKind, .long om_calleeValue, .int om_errorKind, .long om_errorValue, .int om_fatal]))] s.heap.size = A at hD hZ ⊢
  have hA : ∀ q : Nat, s.heap.size ≤ q → A q := fun q h => by rw [← hAe]; exact Or.inr h
  have hS : va_S A s.heap s.heap [] := va_S.rf
  have hl := lv_entry ([.ref h0, .ref om]) (n := 2) (Nat.le_of_ble_eq_true rfl)
  rw [lg_entry_eq]
  generalize (lg_sl ([.ref h0, .ref om]) ++ List.replicate (2 - (lg_sl ([.ref h0, .ref om])).length) Slot.unset).toArray = ls at hl ⊢
  have hl : lv_has ls 2 [(0, .ref h0), (1, .ref om)] := hl
  have hP : va_P (dC, dI) vwCl [(h0, .inr (5, [.null, .null, .null, .null, .null, .null, .null, .int 0, .int 0, .int 0, .int 0, .int 0, .int 0])), (om, .inr (4, [.ref om_chunk, .ref om_heap, .ref om_tables, .ref om_args, .ref om_results, .ref om_open, .int om_openFrom, .ref om_last, .int om_ended, .int om_stepCount, .int om_globals, .null, .int om_turn, .int om_calleeKind, .long om_calleeValue, .int om_errorKind, .long om_errorValue, .int om_fatal]))] s.heap := hP
  have hD : va_D A [(h0, .inr (5, [.null, .null, .null, .null, .null, .null, .null, .int 0, .int 0, .int 0, .int 0, .int 0, .int 0])), (om, .inr (4, [.ref om_chunk, .ref om_heap, .ref om_tables, .ref om_args, .ref om_results, .ref om_open, .int om_openFrom, .ref om_last, .int om_ended, .int om_stepCount, .int om_globals, .null, .int om_turn, .int om_calleeKind, .long om_calleeValue, .int om_errorKind, .long om_errorValue, .int om_fatal]))] := hD
  refine lv_aload_n hx hb d_St_init_0 rfl (lv_at hl 0 rfl) ?_
  refine W.objInit hx hb hown (hts (.methodLink R_St 3 objectInit) (List.mem_cons_of_mem _ kw_59)) (hts (.instanceMethod objectInit) (List.mem_cons_of_mem _ kw_1)) (hts (.code objectInit ⟨#[0xb1]⟩ 1 none) (List.mem_cons_of_mem _ kw_2)) rfl (by rw [hml]; exact hl.1) rfl d_St_init_1 (Nat.le_of_ble_eq_true rfl) (Nat.le_of_ble_eq_true rfl) ?_
  refine W.eq (g2 := F0 m 4 ls []) rfl ?_
  refine lv_aload_n hx hb d_St_init_4 rfl (lv_at hl 0 rfl) ?_
  refine lv_aload_n hx hb d_St_init_5 rfl (lv_at hl 1 rfl) ?_
  refine va_putF (D := (dC, dI)) (ci := 5) (v := .ref om) (ty := (.object "LuaMachine$Machine")) (C := R_St) (T := TSt) (N := 13) hx hb hts (fun w h => List.mem_cons_of_mem _ (ic_St w h)) tySt tySt_ok nmSt hown hK hP hD hS 0 rfl rfl 0 (by decide) (hts (.fieldLink R_St 9 "LuaMachine$Steps" "machine" "LLuaMachine$Machine;") (List.mem_cons_of_mem _ kw_60)) (fun _ h9 => h9) rfl hin rfl (tySt_ok 0 (by decide)) rfl rfl (Nat.le_of_ble_eq_true rfl) d_St_init_6 (fun H locs hP hD hS => ?_)
  have hP : va_P (dC, dI) vwCl [(h0, .inr (5, [.ref om, .null, .null, .null, .null, .null, .null, .int 0, .int 0, .int 0, .int 0, .int 0, .int 0])), (om, .inr (4, [.ref om_chunk, .ref om_heap, .ref om_tables, .ref om_args, .ref om_results, .ref om_open, .int om_openFrom, .ref om_last, .int om_ended, .int om_stepCount, .int om_globals, .null, .int om_turn, .int om_calleeKind, .long om_calleeValue, .int om_errorKind, .long om_errorValue, .int om_fatal]))] H := hP
  have hD : va_D A [(h0, .inr (5, [.ref om, .null, .null, .null, .null, .null, .null, .int 0, .int 0, .int 0, .int 0, .int 0, .int 0])), (om, .inr (4, [.ref om_chunk, .ref om_heap, .ref om_tables, .ref om_args, .ref om_results, .ref om_open, .int om_openFrom, .ref om_last, .int om_ended, .int om_stepCount, .int om_globals, .null, .int om_turn, .int om_calleeKind, .long om_calleeValue, .int om_errorKind, .long om_errorValue, .int om_fatal]))] := hD
  refine lv_aload_n hx hb d_St_init_9 rfl (lv_at hl 0 rfl) ?_
  refine lv_aload_n hx hb d_St_init_10 rfl (lv_at hl 1 rfl) ?_
  refine va_get (D := (dC, dI)) (ci := 4) (v := .ref om_heap) (C := R_Ma) (T := TMa) (N := 18) hx hb hts (fun w h => List.mem_cons_of_mem _ (ic_Ma w h)) hown hK hP 1 rfl rfl 1 (by decide) (hts (.fieldLink R_St 15 "LuaMachine$Machine" "heap" "LLuaMachine$Heap;") (List.mem_cons_of_mem _ kw_61)) (fun _ h9 => h9) rfl d_St_init_11 ?_
  refine va_putF (D := (dC, dI)) (ci := 5) (v := .ref om_heap) (ty := (.object "LuaMachine$Heap")) (C := R_St) (T := TSt) (N := 13) hx hb hts (fun w h => List.mem_cons_of_mem _ (ic_St w h)) tySt tySt_ok nmSt hown hK hP hD hS 0 rfl rfl 1 (by decide) (hts (.fieldLink R_St 21 "LuaMachine$Steps" "heap" "LLuaMachine$Heap;") (List.mem_cons_of_mem _ kw_62)) (fun _ h9 => h9) rfl hin rfl (tySt_ok 1 (by decide)) rfl rfl (Nat.le_of_ble_eq_true rfl) d_St_init_14 (fun H locs hP hD hS => ?_)
  have hP : va_P (dC, dI) vwCl [(h0, .inr (5, [.ref om, .ref om_heap, .null, .null, .null, .null, .null, .int 0, .int 0, .int 0, .int 0, .int 0, .int 0])), (om, .inr (4, [.ref om_chunk, .ref om_heap, .ref om_tables, .ref om_args, .ref om_results, .ref om_open, .int om_openFrom, .ref om_last, .int om_ended, .int om_stepCount, .int om_globals, .null, .int om_turn, .int om_calleeKind, .long om_calleeValue, .int om_errorKind, .long om_errorValue, .int om_fatal]))] H := hP
  have hD : va_D A [(h0, .inr (5, [.ref om, .ref om_heap, .null, .null, .null, .null, .null, .int 0, .int 0, .int 0, .int 0, .int 0, .int 0])), (om, .inr (4, [.ref om_chunk, .ref om_heap, .ref om_tables, .ref om_args, .ref om_results, .ref om_open, .int om_openFrom, .ref om_last, .int om_ended, .int om_stepCount, .int om_globals, .null, .int om_turn, .int om_calleeKind, .long om_calleeValue, .int om_errorKind, .long om_errorValue, .int om_fatal]))] := hD
  refine lv_aload_n hx hb d_St_init_17 rfl (lv_at hl 0 rfl) ?_
  refine lv_aload_n hx hb d_St_init_18 rfl (lv_at hl 1 rfl) ?_
  refine va_get (D := (dC, dI)) (ci := 4) (v := .ref om_tables) (C := R_Ma) (T := TMa) (N := 18) hx hb hts (fun w h => List.mem_cons_of_mem _ (ic_Ma w h)) hown hK hP 1 rfl rfl 2 (by decide) (hts (.fieldLink R_St 22 "LuaMachine$Machine" "tables" "LLuaMachine$Tables;") (List.mem_cons_of_mem _ kw_63)) (fun _ h9 => h9) rfl d_St_init_19 ?_
  refine va_putF (D := (dC, dI)) (ci := 5) (v := .ref om_tables) (ty := (.object "LuaMachine$Tables")) (C := R_St) (T := TSt) (N := 13) hx hb hts (fun w h => List.mem_cons_of_mem _ (ic_St w h)) tySt tySt_ok nmSt hown hK hP hD hS 0 rfl rfl 2 (by decide) (hts (.fieldLink R_St 26 "LuaMachine$Steps" "tables" "LLuaMachine$Tables;") (List.mem_cons_of_mem _ kw_64)) (fun _ h9 => h9) rfl hin rfl (tySt_ok 2 (by decide)) rfl rfl (Nat.le_of_ble_eq_true rfl) d_St_init_22 (fun H locs hP hD hS => ?_)
  have hP : va_P (dC, dI) vwCl [(h0, .inr (5, [.ref om, .ref om_heap, .ref om_tables, .null, .null, .null, .null, .int 0, .int 0, .int 0, .int 0, .int 0, .int 0])), (om, .inr (4, [.ref om_chunk, .ref om_heap, .ref om_tables, .ref om_args, .ref om_results, .ref om_open, .int om_openFrom, .ref om_last, .int om_ended, .int om_stepCount, .int om_globals, .null, .int om_turn, .int om_calleeKind, .long om_calleeValue, .int om_errorKind, .long om_errorValue, .int om_fatal]))] H := hP
  have hD : va_D A [(h0, .inr (5, [.ref om, .ref om_heap, .ref om_tables, .null, .null, .null, .null, .int 0, .int 0, .int 0, .int 0, .int 0, .int 0])), (om, .inr (4, [.ref om_chunk, .ref om_heap, .ref om_tables, .ref om_args, .ref om_results, .ref om_open, .int om_openFrom, .ref om_last, .int om_ended, .int om_stepCount, .int om_globals, .null, .int om_turn, .int om_calleeKind, .long om_calleeValue, .int om_errorKind, .long om_errorValue, .int om_fatal]))] := hD
  refine lv_aload_n hx hb d_St_init_25 rfl (lv_at hl 0 rfl) ?_
  refine lv_aload_n hx hb d_St_init_26 rfl (lv_at hl 1 rfl) ?_
  refine va_get (D := (dC, dI)) (ci := 4) (v := .ref om_chunk) (C := R_Ma) (T := TMa) (N := 18) hx hb hts (fun w h => List.mem_cons_of_mem _ (ic_Ma w h)) hown hK hP 1 rfl rfl 0 (by decide) (hts (.fieldLink R_St 27 "LuaMachine$Machine" "chunk" "LLuaMachine$Chunk;") (List.mem_cons_of_mem _ kw_65)) (fun _ h9 => h9) rfl d_St_init_27 ?_
  refine va_putF (D := (dC, dI)) (ci := 5) (v := .ref om_chunk) (ty := (.object "LuaMachine$Chunk")) (C := R_St) (T := TSt) (N := 13) hx hb hts (fun w h => List.mem_cons_of_mem _ (ic_St w h)) tySt tySt_ok nmSt hown hK hP hD hS 0 rfl rfl 3 (by decide) (hts (.fieldLink R_St 31 "LuaMachine$Steps" "chunk" "LLuaMachine$Chunk;") (List.mem_cons_of_mem _ kw_66)) (fun _ h9 => h9) rfl hin rfl (tySt_ok 3 (by decide)) rfl rfl (Nat.le_of_ble_eq_true rfl) d_St_init_30 (fun H locs hP hD hS => ?_)
  have hP : va_P (dC, dI) vwCl [(h0, .inr (5, [.ref om, .ref om_heap, .ref om_tables, .ref om_chunk, .null, .null, .null, .int 0, .int 0, .int 0, .int 0, .int 0, .int 0])), (om, .inr (4, [.ref om_chunk, .ref om_heap, .ref om_tables, .ref om_args, .ref om_results, .ref om_open, .int om_openFrom, .ref om_last, .int om_ended, .int om_stepCount, .int om_globals, .null, .int om_turn, .int om_calleeKind, .long om_calleeValue, .int om_errorKind, .long om_errorValue, .int om_fatal]))] H := hP
  have hD : va_D A [(h0, .inr (5, [.ref om, .ref om_heap, .ref om_tables, .ref om_chunk, .null, .null, .null, .int 0, .int 0, .int 0, .int 0, .int 0, .int 0])), (om, .inr (4, [.ref om_chunk, .ref om_heap, .ref om_tables, .ref om_args, .ref om_results, .ref om_open, .int om_openFrom, .ref om_last, .int om_ended, .int om_stepCount, .int om_globals, .null, .int om_turn, .int om_calleeKind, .long om_calleeValue, .int om_errorKind, .long om_errorValue, .int om_fatal]))] := hD
  have hP9 := hP.sub (ws' := [(h0, .inr (5, [.ref om, .ref om_heap, .ref om_tables, .ref om_chunk, .null, .null, .null, .int 0, .int 0, .int 0, .int 0, .int 0, .int 0])), (om, .inr (4, [.ref om_chunk, .ref om_heap, .ref om_tables, .ref om_args, .ref om_results, .ref om_open, .int om_openFrom, .ref om_last, .int om_ended, .int om_stepCount, .int om_globals, .null, .int om_turn, .int om_calleeKind, .long om_calleeValue, .int om_errorKind, .long om_errorValue, .int om_fatal]))]) [0, 1] rfl
  have hD9 := hD.sub (ws' := [(h0, .inr (5, [.ref om, .ref om_heap, .ref om_tables, .ref om_chunk, .null, .null, .null, .int 0, .int 0, .int 0, .int 0, .int 0, .int 0])), (om, .inr (4, [.ref om_chunk, .ref om_heap, .ref om_tables, .ref om_args, .ref om_results, .ref om_open, .int om_openFrom, .ref om_last, .int om_ended, .int om_stepCount, .int om_globals, .null, .int om_turn, .int om_calleeKind, .long om_calleeValue, .int om_errorKind, .long om_errorValue, .int om_fatal]))]) [0, 1] (by decide) rfl
  have hK9 := hK.sub (tys' := []) [] rfl
  refine W.widen (k := 0) (n := 0) (Nat.le_of_ble_eq_true rfl) (Nat.le_of_ble_eq_true rfl) ?_
  exact W.vret hx hb hr (fun t ht hW => ⟨⟨(), rfl, trivial, by rw [ht]; exact hP9, va_K.moved hW.alike hK9, hD9⟩, hS.F ht⟩) hS.2.2 d_St_init_33

set_option maxHeartbeats 4000000 in
set_option maxRecDepth 100000 in
theorem c_Bu_init (l : Launch) (dC : Nat → ClassId) (dI : Nat → Nat → Nat) (h0 : Nat) (om : Nat) (om_chunk : Nat) (om_heap : Nat) (om_tables : Nat) (om_args : Nat) (om_results : Nat) (om_open : Nat) (om_openFrom : Int32) (om_last : Nat) (om_ended : Int32) (om_stepCount : Int32) (om_globals : Int32) (om_turn : Int32) (om_calleeKind : Int32) (om_calleeValue : Int64) (om_errorKind : Int32) (om_errorValue : Int64) (om_fatal : Int32) (sz : Nat) : Met l y_Bu_init w_Bu_init ({ frames := 1, cells := 1, slots := 20000, locals := 12 }) (va_Pc [.ref h0, .ref om] (fun U => U.heap.size = sz ∧ va_P (dC, dI) vwCl [(h0, .inr (6, [.null, .int 0, .null, .null, .null, .null, .null])), (om, .inr (4, [.ref om_chunk, .ref om_heap, .ref om_tables, .ref om_args, .ref om_results, .ref om_open, .int om_openFrom, .ref om_last, .int om_ended, .int om_stepCount, .int om_globals, .null, .int om_turn, .int om_calleeKind, .long om_calleeValue, .int om_errorKind, .long om_errorValue, .int om_fatal]))] U.heap ∧ va_K (dC, dI) vwCl [] U ∧ va_D (fun _ => True) [(h0, .inr (6, [.null, .int 0, .null, .null, .null, .null, .null])), (om, .inr (4, [.ref om_chunk, .ref om_heap, .ref om_tables, .ref om_args, .ref om_results, .ref om_open, .int om_openFrom, .ref om_last, .int om_ended, .int om_stepCount, .int om_globals, .null, .int om_turn, .int om_calleeKind, .long om_calleeValue, .int om_errorKind, .long om_errorValue, .int om_fatal]))] ∧ xB U ∧ xZ (va_A [(h0, .inr (6, [.null, .int 0, .null, .null, .null, .null, .null])), (om, .inr (4, [.ref om_chunk, .ref om_heap, .ref om_tables, .ref om_args, .ref om_results, .ref om_open, .int om_openFrom, .ref om_last, .int om_ended, .int om_stepCount, .int om_globals, .null, .int om_turn, .int om_calleeKind, .long om_calleeValue, .int om_errorKind, .long om_errorValue, .int om_fatal]))] sz) U U.heap)) (va_Qv (fun (_ : Unit) => True) (fun _ t => ∃ (q8 : Nat), va_P (dC, dI) vwCl [(h0, .inr (6, [.ref q8, .int 0, .ref om, .ref om_heap, .ref om_tables, .ref om_args, .ref om_results])), (om, .inr (4, [.ref om_chunk, .ref om_heap, .ref om_tables, .ref om_args, .ref om_results, .ref om_open, .int om_openFrom, .ref om_last, .int om_ended, .int om_stepCount, .int om_globals, .null, .int om_turn, .int om_calleeKind, .long om_calleeValue, .int om_errorKind, .long om_errorValue, .int om_fatal]))] t.heap ∧ va_K (dC, dI) vwCl [] t ∧ va_D (va_A [(h0, .inr (6, [.null, .int 0, .null, .null, .null, .null, .null])), (om, .inr (4, [.ref om_chunk, .ref om_heap, .ref om_tables, .ref om_args, .ref om_results, .ref om_open, .int om_openFrom, .ref om_last, .int om_ended, .int om_stepCount, .int om_globals, .null, .int om_turn, .int om_calleeKind, .long om_calleeValue, .int om_errorKind, .long om_errorValue, .int om_fatal]))] sz) [(h0, .inr (6, [.ref q8, .int 0, .ref om, .ref om_heap, .ref om_tables, .ref om_args, .ref om_results])), (om, .inr (4, [.ref om_chunk, .ref om_heap, .ref om_tables, .ref om_args, .ref om_results, .ref om_open, .int om_openFrom, .ref om_last, .int om_ended, .int om_stepCount, .int om_globals, .null, .int om_turn, .int om_calleeKind, .long om_calleeValue, .int om_errorKind, .long om_errorValue, .int om_fatal]))]) (va_A [(h0, .inr (6, [.null, .int 0, .null, .null, .null, .null, .null])), (om, .inr (4, [.ref om_chunk, .ref om_heap, .ref om_tables, .ref om_args, .ref om_results, .ref om_open, .int om_openFrom, .ref om_last, .int om_ended, .int om_stepCount, .int om_globals, .null, .int om_turn, .int om_calleeKind, .long om_calleeValue, .int om_errorKind, .long om_errorValue, .int om_fatal]))] sz)) 1 20000 (va_A [(h0, .inr (6, [.null, .int 0, .null, .null, .null, .null, .null])), (om, .inr (4, [.ref om_chunk, .ref om_heap, .ref om_tables, .ref om_args, .ref om_results, .ref om_open, .int om_openFrom, .ref om_last, .int om_ended, .int om_stepCount, .int om_globals, .null, .int om_turn, .int om_calleeKind, .long om_calleeValue, .int om_errorKind, .long om_errorValue, .int om_fatal]))] sz) := by
  refine Met.ofW (cc := b_Bu_init) (maxL := 2) (ret := none) (by decide) rfl ?_
  intro p e s m args below meth c s₁ B hml hv
  obtain ⟨rfl, hsz, hP, hK, hD0, hB, hZ⟩ := hv
  have hx := B.exec
  have hb := B.bytes
  have hr := B.returns
  have hts := atoms_spec (ws := w_Bu_init) B.pre
  have hown : s.vm.findClass R_Bu = some m.cls := findClass_of_methodNamed B.named
  have hlocks := B.notSynchronized
  have hin : meth.name = "<init>" := (name_of_methodNamed B.named B.method).1
  subst hsz
  have hD := hD0.self (sz := s.heap.size)
  generalize hAe : va_A [(h0, .inr (6, [.null, .int 0, .null, .null, .null, .null, .null])), (om, .inr (4, [.ref om_chunk, .ref om_heap, .ref om_tables, .ref om_args, .ref om_results, .ref om_open, .int om_openFrom, .ref om_last, .int om_ended, .int om_stepCount, .int om_globals, .null, .int om_turn, .int om_calleeKind, .long om_calleeValue, .int om_errorKind, .long om_errorValue, .int om_fatal]))] s.heap.size = A at hD hZ ⊢
  have hA : ∀ q : Nat, s.heap.size ≤ q → A q := fun q h => by rw [← hAe]; exact Or.inr h
  have hS : va_S A s.heap s.heap [] := va_S.rf
  have hl := lv_entry ([.ref h0, .ref om]) (n := 2) (Nat.le_of_ble_eq_true rfl)
  rw [lg_entry_eq]
  generalize (lg_sl ([.ref h0, .ref om]) ++ List.replicate (2 - (lg_sl ([.ref h0, .ref om])).length) Slot.unset).toArray = ls at hl ⊢
  have hl : lv_has ls 2 [(0, .ref h0), (1, .ref om)] := hl
  have hP : va_P (dC, dI) vwCl [(h0, .inr (6, [.null, .int 0, .null, .null, .null, .null, .null])), (om, .inr (4, [.ref om_chunk, .ref om_heap, .ref om_tables, .ref om_args, .ref om_results, .ref om_open, .int om_openFrom, .ref om_last, .int om_ended, .int om_stepCount, .int om_globals, .null, .int om_turn, .int om_calleeKind, .long om_calleeValue, .int om_errorKind, .long om_errorValue, .int om_fatal]))] s.heap := hP
  have hD : va_D A [(h0, .inr (6, [.null, .int 0, .null, .null, .null, .null, .null])), (om, .inr (4, [.ref om_chunk, .ref om_heap, .ref om_tables, .ref om_args, .ref om_results, .ref om_open, .int om_openFrom, .ref om_last, .int om_ended, .int om_stepCount, .int om_globals, .null, .int om_turn, .int om_calleeKind, .long om_calleeValue, .int om_errorKind, .long om_errorValue, .int om_fatal]))] := hD
  refine lv_aload_n hx hb d_Bu_init_0 rfl (lv_at hl 0 rfl) ?_
  refine W.objInit hx hb hown (hts (.methodLink R_Bu 3 objectInit) (List.mem_cons_of_mem _ kw_67)) (hts (.instanceMethod objectInit) (List.mem_cons_of_mem _ kw_1)) (hts (.code objectInit ⟨#[0xb1]⟩ 1 none) (List.mem_cons_of_mem _ kw_2)) rfl (by rw [hml]; exact hl.1) rfl d_Bu_init_1 (Nat.le_of_ble_eq_true rfl) (Nat.le_of_ble_eq_true rfl) ?_
  refine W.eq (g2 := F0 m 4 ls []) rfl ?_
  refine lv_aload_n hx hb d_Bu_init_4 rfl (lv_at hl 0 rfl) ?_
  refine lv_sipush (v := 20000) hx hb d_Bu_init_5 (by decide) ?_
  refine va_newa (atype := .byte) (a0 := (20000, .inl (fun _ => 0))) hx hb (hts (.arrayClass .byte) (List.mem_cons_of_mem _ kw_9)) (ty := .byte) rfl hK hP hD hS hA (fun _ => rfl) (by decide) (by decide) (by decide) (Nat.le_of_ble_eq_true rfl) (Nat.le_of_ble_eq_true rfl) d_Bu_init_8 (fun q8 k8 H hK hP hD hS => ?_)
  have hK : va_K (dC, dI) vwCl [(k8, .byte)] s := hK
  have hP : va_P (dC, dI) vwCl [(h0, .inr (6, [.null, .int 0, .null, .null, .null, .null, .null])), (om, .inr (4, [.ref om_chunk, .ref om_heap, .ref om_tables, .ref om_args, .ref om_results, .ref om_open, .int om_openFrom, .ref om_last, .int om_ended, .int om_stepCount, .int om_globals, .null, .int om_turn, .int om_calleeKind, .long om_calleeValue, .int om_errorKind, .long om_errorValue, .int om_fatal])), (q8, .inl (k8, 20000, .inl (fun _ => 0)))] H := hP
  have hD : va_D A [(h0, .inr (6, [.null, .int 0, .null, .null, .null, .null, .null])), (om, .inr (4, [.ref om_chunk, .ref om_heap, .ref om_tables, .ref om_args, .ref om_results, .ref om_open, .int om_openFrom, .ref om_last, .int om_ended, .int om_stepCount, .int om_globals, .null, .int om_turn, .int om_calleeKind, .long om_calleeValue, .int om_errorKind, .long om_errorValue, .int om_fatal])), (q8, .inl (k8, 20000, .inl (fun _ => 0)))] := hD
  refine W.widen (k := 1) (n := 20000) (Nat.le_of_ble_eq_true rfl) (Nat.le_of_ble_eq_true rfl) ?_
  refine va_putF (D := (dC, dI)) (ci := 6) (v := .ref q8) (ty := (.array .byte)) (C := R_Bu) (T := TBu) (N := 7) hx hb hts (fun w h => List.mem_cons_of_mem _ (ic_Bu w h)) tyBu tyBu_ok nmBu hown hK hP hD hS 0 rfl rfl 0 (by decide) (hts (.fieldLink R_Bu 9 "LuaMachine$BuiltIns" "printed" "[B") (List.mem_cons_of_mem _ kw_68)) (fun _ h9 => h9) rfl hin rfl (tyBu_ok 0 (by decide)) rfl rfl (Nat.le_of_ble_eq_true rfl) d_Bu_init_10 (fun H locs hP hD hS => ?_)
  have hP : va_P (dC, dI) vwCl [(h0, .inr (6, [.ref q8, .int 0, .null, .null, .null, .null, .null])), (om, .inr (4, [.ref om_chunk, .ref om_heap, .ref om_tables, .ref om_args, .ref om_results, .ref om_open, .int om_openFrom, .ref om_last, .int om_ended, .int om_stepCount, .int om_globals, .null, .int om_turn, .int om_calleeKind, .long om_calleeValue, .int om_errorKind, .long om_errorValue, .int om_fatal])), (q8, .inl (k8, 20000, .inl (fun _ => 0)))] H := hP
  have hD : va_D A [(h0, .inr (6, [.ref q8, .int 0, .null, .null, .null, .null, .null])), (om, .inr (4, [.ref om_chunk, .ref om_heap, .ref om_tables, .ref om_args, .ref om_results, .ref om_open, .int om_openFrom, .ref om_last, .int om_ended, .int om_stepCount, .int om_globals, .null, .int om_turn, .int om_calleeKind, .long om_calleeValue, .int om_errorKind, .long om_errorValue, .int om_fatal])), (q8, .inl (k8, 20000, .inl (fun _ => 0)))] := hD
  refine lv_aload_n hx hb d_Bu_init_13 rfl (lv_at hl 0 rfl) ?_
  refine lv_aload_n hx hb d_Bu_init_14 rfl (lv_at hl 1 rfl) ?_
  refine va_putF (D := (dC, dI)) (ci := 6) (v := .ref om) (ty := (.object "LuaMachine$Machine")) (C := R_Bu) (T := TBu) (N := 7) hx hb hts (fun w h => List.mem_cons_of_mem _ (ic_Bu w h)) tyBu tyBu_ok nmBu hown hK hP hD hS 0 rfl rfl 2 (by decide) (hts (.fieldLink R_Bu 15 "LuaMachine$BuiltIns" "machine" "LLuaMachine$Machine;") (List.mem_cons_of_mem _ kw_69)) (fun _ h9 => h9) rfl hin rfl (tyBu_ok 2 (by decide)) rfl rfl (Nat.le_of_ble_eq_true rfl) d_Bu_init_15 (fun H locs hP hD hS => ?_)
  have hP : va_P (dC, dI) vwCl [(h0, .inr (6, [.ref q8, .int 0, .ref om, .null, .null, .null, .null])), (om, .inr (4, [.ref om_chunk, .ref om_heap, .ref om_tables, .ref om_args, .ref om_results, .ref om_open, .int om_openFrom, .ref om_last, .int om_ended, .int om_stepCount, .int om_globals, .null, .int om_turn, .int om_calleeKind, .long om_calleeValue, .int om_errorKind, .long om_errorValue, .int om_fatal])), (q8, .inl (k8, 20000, .inl (fun _ => 0)))] H := hP
  have hD : va_D A [(h0, .inr (6, [.ref q8, .int 0, .ref om, .null, .null, .null, .null])), (om, .inr (4, [.ref om_chunk, .ref om_heap, .ref om_tables, .ref om_args, .ref om_results, .ref om_open, .int om_openFrom, .ref om_last, .int om_ended, .int om_stepCount, .int om_globals, .null, .int om_turn, .int om_calleeKind, .long om_calleeValue, .int om_errorKind, .long om_errorValue, .int om_fatal])), (q8, .inl (k8, 20000, .inl (fun _ => 0)))] := hD
  refine lv_aload_n hx hb d_Bu_init_18 rfl (lv_at hl 0 rfl) ?_
  refine lv_aload_n hx hb d_Bu_init_19 rfl (lv_at hl 1 rfl) ?_
  refine va_get (D := (dC, dI)) (ci := 4) (v := .ref om_heap) (C := R_Ma) (T := TMa) (N := 18) hx hb hts (fun w h => List.mem_cons_of_mem _ (ic_Ma w h)) hown hK hP 1 rfl rfl 1 (by decide) (hts (.fieldLink R_Bu 19 "LuaMachine$Machine" "heap" "LLuaMachine$Heap;") (List.mem_cons_of_mem _ kw_70)) (fun _ h9 => h9) rfl d_Bu_init_20 ?_
  refine va_putF (D := (dC, dI)) (ci := 6) (v := .ref om_heap) (ty := (.object "LuaMachine$Heap")) (C := R_Bu) (T := TBu) (N := 7) hx hb hts (fun w h => List.mem_cons_of_mem _ (ic_Bu w h)) tyBu tyBu_ok nmBu hown hK hP hD hS 0 rfl rfl 3 (by decide) (hts (.fieldLink R_Bu 25 "LuaMachine$BuiltIns" "heap" "LLuaMachine$Heap;") (List.mem_cons_of_mem _ kw_71)) (fun _ h9 => h9) rfl hin rfl (tyBu_ok 3 (by decide)) rfl rfl (Nat.le_of_ble_eq_true rfl) d_Bu_init_23 (fun H locs hP hD hS => ?_)
  have hP : va_P (dC, dI) vwCl [(h0, .inr (6, [.ref q8, .int 0, .ref om, .ref om_heap, .null, .null, .null])), (om, .inr (4, [.ref om_chunk, .ref om_heap, .ref om_tables, .ref om_args, .ref om_results, .ref om_open, .int om_openFrom, .ref om_last, .int om_ended, .int om_stepCount, .int om_globals, .null, .int om_turn, .int om_calleeKind, .long om_calleeValue, .int om_errorKind, .long om_errorValue, .int om_fatal])), (q8, .inl (k8, 20000, .inl (fun _ => 0)))] H := hP
  have hD : va_D A [(h0, .inr (6, [.ref q8, .int 0, .ref om, .ref om_heap, .null, .null, .null])), (om, .inr (4, [.ref om_chunk, .ref om_heap, .ref om_tables, .ref om_args, .ref om_results, .ref om_open, .int om_openFrom, .ref om_last, .int om_ended, .int om_stepCount, .int om_globals, .null, .int om_turn, .int om_calleeKind, .long om_calleeValue, .int om_errorKind, .long om_errorValue, .int om_fatal])), (q8, .inl (k8, 20000, .inl (fun _ => 0)))] := hD
  refine lv_aload_n hx hb d_Bu_init_26 rfl (lv_at hl 0 rfl) ?_
  refine lv_aload_n hx hb d_Bu_init_27 rfl (lv_at hl 1 rfl) ?_
  refine va_get (D := (dC, dI)) (ci := 4) (v := .ref om_tables) (C := R_Ma) (T := TMa) (N := 18) hx hb hts (fun w h => List.mem_cons_of_mem _ (ic_Ma w h)) hown hK hP 1 rfl rfl 2 (by decide) (hts (.fieldLink R_Bu 26 "LuaMachine$Machine" "tables" "LLuaMachine$Tables;") (List.mem_cons_of_mem _ kw_72)) (fun _ h9 => h9) rfl d_Bu_init_28 ?_
  refine va_putF (D := (dC, dI)) (ci := 6) (v := .ref om_tables) (ty := (.object "LuaMachine$Tables")) (C := R_Bu) (T := TBu) (N := 7) hx hb hts (fun w h => List.mem_cons_of_mem _ (ic_Bu w h)) tyBu tyBu_ok nmBu hown hK hP hD hS 0 rfl rfl 4 (by decide) (hts (.fieldLink R_Bu 30 "LuaMachine$BuiltIns" "tables" "LLuaMachine$Tables;") (List.mem_cons_of_mem _ kw_73)) (fun _ h9 => h9) rfl hin rfl (tyBu_ok 4 (by decide)) rfl rfl (Nat.le_of_ble_eq_true rfl) d_Bu_init_31 (fun H locs hP hD hS => ?_)
  have hP : va_P (dC, dI) vwCl [(h0, .inr (6, [.ref q8, .int 0, .ref om, .ref om_heap, .ref om_tables, .null, .null])), (om, .inr (4, [.ref om_chunk, .ref om_heap, .ref om_tables, .ref om_args, .ref om_results, .ref om_open, .int om_openFrom, .ref om_last, .int om_ended, .int om_stepCount, .int om_globals, .null, .int om_turn, .int om_calleeKind, .long om_calleeValue, .int om_errorKind, .long om_errorValue, .int om_fatal])), (q8, .inl (k8, 20000, .inl (fun _ => 0)))] H := hP
  have hD : va_D A [(h0, .inr (6, [.ref q8, .int 0, .ref om, .ref om_heap, .ref om_tables, .null, .null])), (om, .inr (4, [.ref om_chunk, .ref om_heap, .ref om_tables, .ref om_args, .ref om_results, .ref om_open, .int om_openFrom, .ref om_last, .int om_ended, .int om_stepCount, .int om_globals, .null, .int om_turn, .int om_calleeKind, .long om_calleeValue, .int om_errorKind, .long om_errorValue, .int om_fatal])), (q8, .inl (k8, 20000, .inl (fun _ => 0)))] := hD
  refine lv_aload_n hx hb d_Bu_init_34 rfl (lv_at hl 0 rfl) ?_
  refine lv_aload_n hx hb d_Bu_init_35 rfl (lv_at hl 1 rfl) ?_
  refine va_get (D := (dC, dI)) (ci := 4) (v := .ref om_args) (C := R_Ma) (T := TMa) (N := 18) hx hb hts (fun w h => List.mem_cons_of_mem _ (ic_Ma w h)) hown hK hP 1 rfl rfl 3 (by decide) (hts (.fieldLink R_Bu 31 "LuaMachine$Machine" "args" "LLuaMachine$Row;") (List.mem_cons_of_mem _ kw_74)) (fun _ h9 => h9) rfl d_Bu_init_36 ?_
  refine va_putF (D := (dC, dI)) (ci := 6) (v := .ref om_args) (ty := (.object "LuaMachine$Row")) (C := R_Bu) (T := TBu) (N := 7) hx hb hts (fun w h => List.mem_cons_of_mem _ (ic_Bu w h)) tyBu tyBu_ok nmBu hown hK hP hD hS 0 rfl rfl 5 (by decide) (hts (.fieldLink R_Bu 35 "LuaMachine$BuiltIns" "args" "LLuaMachine$Row;") (List.mem_cons_of_mem _ kw_75)) (fun _ h9 => h9) rfl hin rfl (tyBu_ok 5 (by decide)) rfl rfl (Nat.le_of_ble_eq_true rfl) d_Bu_init_39 (fun H locs hP hD hS => ?_)
  have hP : va_P (dC, dI) vwCl [(h0, .inr (6, [.ref q8, .int 0, .ref om, .ref om_heap, .ref om_tables, .ref om_args, .null])), (om, .inr (4, [.ref om_chunk, .ref om_heap, .ref om_tables, .ref om_args, .ref om_results, .ref om_open, .int om_openFrom, .ref om_last, .int om_ended, .int om_stepCount, .int om_globals, .null, .int om_turn, .int om_calleeKind, .long om_calleeValue, .int om_errorKind, .long om_errorValue, .int om_fatal])), (q8, .inl (k8, 20000, .inl (fun _ => 0)))] H := hP
  have hD : va_D A [(h0, .inr (6, [.ref q8, .int 0, .ref om, .ref om_heap, .ref om_tables, .ref om_args, .null])), (om, .inr (4, [.ref om_chunk, .ref om_heap, .ref om_tables, .ref om_args, .ref om_results, .ref om_open, .int om_openFrom, .ref om_last, .int om_ended, .int om_stepCount, .int om_globals, .null, .int om_turn, .int om_calleeKind, .long om_calleeValue, .int om_errorKind, .long om_errorValue, .int om_fatal])), (q8, .inl (k8, 20000, .inl (fun _ => 0)))] := hD
  refine lv_aload_n hx hb d_Bu_init_42 rfl (lv_at hl 0 rfl) ?_
  refine lv_aload_n hx hb d_Bu_init_43 rfl (lv_at hl 1 rfl) ?_
  refine va_get (D := (dC, dI)) (ci := 4) (v := .ref om_results) (C := R_Ma) (T := TMa) (N := 18) hx hb hts (fun w h => List.mem_cons_of_mem _ (ic_Ma w h)) hown hK hP 1 rfl rfl 4 (by decide) (hts (.fieldLink R_Bu 36 "LuaMachine$Machine" "results" "LLuaMachine$Row;") (List.mem_cons_of_mem _ kw_76)) (fun _ h9 => h9) rfl d_Bu_init_44 ?_
  refine va_putF (D := (dC, dI)) (ci := 6) (v := .ref om_results) (ty := (.object "LuaMachine$Row")) (C := R_Bu) (T := TBu) (N := 7) hx hb hts (fun w h => List.mem_cons_of_mem _ (ic_Bu w h)) tyBu tyBu_ok nmBu hown hK hP hD hS 0 rfl rfl 6 (by decide) (hts (.fieldLink R_Bu 39 "LuaMachine$BuiltIns" "results" "LLuaMachine$Row;") (List.mem_cons_of_mem _ kw_77)) (fun _ h9 => h9) rfl hin rfl (tyBu_ok 6 (by decide)) rfl rfl (Nat.le_of_ble_eq_true rfl) d_Bu_init_47 (fun H locs hP hD hS => ?_)
  have hP : va_P (dC, dI) vwCl [(h0, .inr (6, [.ref q8, .int 0, .ref om, .ref om_heap, .ref om_tables, .ref om_args, .ref om_results])), (om, .inr (4, [.ref om_chunk, .ref om_heap, .ref om_tables, .ref om_args, .ref om_results, .ref om_open, .int om_openFrom, .ref om_last, .int om_ended, .int om_stepCount, .int om_globals, .null, .int om_turn, .int om_calleeKind, .long om_calleeValue, .int om_errorKind, .long om_errorValue, .int om_fatal])), (q8, .inl (k8, 20000, .inl (fun _ => 0)))] H := hP
  have hD : va_D A [(h0, .inr (6, [.ref q8, .int 0, .ref om, .ref om_heap, .ref om_tables, .ref om_args, .ref om_results])), (om, .inr (4, [.ref om_chunk, .ref om_heap, .ref om_tables, .ref om_args, .ref om_results, .ref om_open, .int om_openFrom, .ref om_last, .int om_ended, .int om_stepCount, .int om_globals, .null, .int om_turn, .int om_calleeKind, .long om_calleeValue, .int om_errorKind, .long om_errorValue, .int om_fatal])), (q8, .inl (k8, 20000, .inl (fun _ => 0)))] := hD
  have hP9 := hP.sub (ws' := [(h0, .inr (6, [.ref q8, .int 0, .ref om, .ref om_heap, .ref om_tables, .ref om_args, .ref om_results])), (om, .inr (4, [.ref om_chunk, .ref om_heap, .ref om_tables, .ref om_args, .ref om_results, .ref om_open, .int om_openFrom, .ref om_last, .int om_ended, .int om_stepCount, .int om_globals, .null, .int om_turn, .int om_calleeKind, .long om_calleeValue, .int om_errorKind, .long om_errorValue, .int om_fatal]))]) [0, 1] rfl
  have hD9 := hD.sub (ws' := [(h0, .inr (6, [.ref q8, .int 0, .ref om, .ref om_heap, .ref om_tables, .ref om_args, .ref om_results])), (om, .inr (4, [.ref om_chunk, .ref om_heap, .ref om_tables, .ref om_args, .ref om_results, .ref om_open, .int om_openFrom, .ref om_last, .int om_ended, .int om_stepCount, .int om_globals, .null, .int om_turn, .int om_calleeKind, .long om_calleeValue, .int om_errorKind, .long om_errorValue, .int om_fatal]))]) [0, 1] (by decide) rfl
  have hK9 := hK.sub (tys' := []) [] rfl
  refine W.widen (k := 1) (n := 20000) (Nat.le_of_ble_eq_true rfl) (Nat.le_of_ble_eq_true rfl) ?_
  exact W.vret hx hb hr (fun t ht hW => ⟨⟨(), rfl, trivial, q8, by rw [ht]; exact hP9, va_K.moved hW.alike hK9, hD9⟩, hS.F ht⟩) hS.2.2 d_Bu_init_50

