abbrev b_Pr_init : ByteArray := prog_8_method_1_code
def y_Pr_init : MethodName := ⟨R_Pr, "<init>", "()V"⟩
abbrev w_Pr_init : List Cond := .code y_Pr_init b_Pr_init 1 none :: wA
theorem k_Pr_init : Cond.code y_Pr_init b_Pr_init 1 none ∈ wA := kinm (show _ ∈ tables_1 from (List.mem_append_right _ (List.mem_append_right _ (List.mem_append_left _ (List.mem_of_getElem? (l := tables_1_3) (i := 129) (by decide +kernel)))))) (by decide +kernel)
theorem d_Pr_init_0 : decode b_Pr_init 0 = .ok (.aload_n 0, 1) := by decide +kernel
theorem d_Pr_init_1 : decode b_Pr_init 1 = .ok (.invokespecial 1, 3) := by decide +kernel
theorem d_Pr_init_4 : decode b_Pr_init 4 = .ok (.return_, 1) := by decide +kernel
theorem kw_143 : Cond.methodLink R_Pr 1 objectInit ∈ wA := kinm (show _ ∈ tables_1 from (List.mem_append_right _ (List.mem_append_right _ (List.mem_append_left _ (List.mem_of_getElem? (l := tables_1_3) (i := 130) (by decide +kernel)))))) (by decide +kernel)
abbrev b_Ch_begin : ByteArray := prog_3_method_3_code
def y_Ch_begin : MethodName := ⟨R_Ch, "begin", "(I)V"⟩
abbrev w_Ch_begin : List Cond := .code y_Ch_begin b_Ch_begin 2 none :: wA
theorem k_Ch_begin : Cond.code y_Ch_begin b_Ch_begin 2 none ∈ wA := kinm (show _ ∈ tables_1 from (List.mem_append_right _ (List.mem_append_right _ (List.mem_append_left _ (List.mem_of_getElem? (l := tables_1_3) (i := 113) (by decide +kernel)))))) (by decide +kernel)
theorem d_Ch_begin_0 : decode b_Ch_begin 0 = .ok (.aload_n 0, 1) := by decide +kernel
theorem d_Ch_begin_1 : decode b_Ch_begin 1 = .ok (.iload_n 1, 1) := by decide +kernel
theorem d_Ch_begin_2 : decode b_Ch_begin 2 = .ok (.putfield 60, 3) := by decide +kernel
theorem d_Ch_begin_5 : decode b_Ch_begin 5 = .ok (.aload_n 0, 1) := by decide +kernel
theorem d_Ch_begin_6 : decode b_Ch_begin 6 = .ok (.iconst 0, 1) := by decide +kernel
theorem d_Ch_begin_7 : decode b_Ch_begin 7 = .ok (.putfield 57, 3) := by decide +kernel
theorem d_Ch_begin_10 : decode b_Ch_begin 10 = .ok (.aload_n 0, 1) := by decide +kernel
theorem d_Ch_begin_11 : decode b_Ch_begin 11 = .ok (.iconst 0, 1) := by decide +kernel
theorem d_Ch_begin_12 : decode b_Ch_begin 12 = .ok (.putfield 72, 3) := by decide +kernel
theorem d_Ch_begin_15 : decode b_Ch_begin 15 = .ok (.aload_n 0, 1) := by decide +kernel
theorem d_Ch_begin_16 : decode b_Ch_begin 16 = .ok (.iconst (-1), 1) := by decide +kernel
theorem d_Ch_begin_17 : decode b_Ch_begin 17 = .ok (.putfield 45, 3) := by decide +kernel
theorem d_Ch_begin_20 : decode b_Ch_begin 20 = .ok (.aload_n 0, 1) := by decide +kernel
theorem d_Ch_begin_21 : decode b_Ch_begin 21 = .ok (.iconst 0, 1) := by decide +kernel
theorem d_Ch_begin_22 : decode b_Ch_begin 22 = .ok (.putfield 75, 3) := by decide +kernel
theorem d_Ch_begin_25 : decode b_Ch_begin 25 = .ok (.aload_n 0, 1) := by decide +kernel
theorem d_Ch_begin_26 : decode b_Ch_begin 26 = .ok (.iconst 0, 1) := by decide +kernel
theorem d_Ch_begin_27 : decode b_Ch_begin 27 = .ok (.putfield 78, 3) := by decide +kernel
theorem d_Ch_begin_30 : decode b_Ch_begin 30 = .ok (.aload_n 0, 1) := by decide +kernel
theorem d_Ch_begin_31 : decode b_Ch_begin 31 = .ok (.iconst 0, 1) := by decide +kernel
theorem d_Ch_begin_32 : decode b_Ch_begin 32 = .ok (.putfield 81, 3) := by decide +kernel
theorem d_Ch_begin_35 : decode b_Ch_begin 35 = .ok (.aload_n 0, 1) := by decide +kernel
theorem d_Ch_begin_36 : decode b_Ch_begin 36 = .ok (.iconst 0, 1) := by decide +kernel
theorem d_Ch_begin_37 : decode b_Ch_begin 37 = .ok (.putfield 84, 3) := by decide +kernel
theorem d_Ch_begin_40 : decode b_Ch_begin 40 = .ok (.return_, 1) := by decide +kernel
theorem kw_144 : Cond.fieldLink R_Ch 60 "LuaMachine$Chunk" "length" "I" ∈ wA := kinm (show _ ∈ tables_1 from (List.mem_append_left _ (List.mem_of_getElem? (l := tables_1_1) (i := 79) (by decide +kernel)))) (by decide +kernel)
theorem kw_145 : Cond.fieldLink R_Ch 57 "LuaMachine$Chunk" "at" "I" ∈ wA := kinm (show _ ∈ tables_1 from (List.mem_append_left _ (List.mem_of_getElem? (l := tables_1_1) (i := 80) (by decide +kernel)))) (by decide +kernel)
theorem kw_146 : Cond.fieldLink R_Ch 72 "LuaMachine$Chunk" "faultFound" "I" ∈ wA := kinm (show _ ∈ tables_1 from (List.mem_append_left _ (List.mem_of_getElem? (l := tables_1_1) (i := 81) (by decide +kernel)))) (by decide +kernel)
theorem kw_147 : Cond.fieldLink R_Ch 75 "LuaMachine$Chunk" "prototypeCount" "I" ∈ wA := kinm (show _ ∈ tables_1 from (List.mem_append_left _ (List.mem_of_getElem? (l := tables_1_1) (i := 73) (by decide +kernel)))) (by decide +kernel)
theorem kw_148 : Cond.fieldLink R_Ch 78 "LuaMachine$Chunk" "constantCount" "I" ∈ wA := kinm (show _ ∈ tables_1 from (List.mem_append_left _ (List.mem_of_getElem? (l := tables_1_1) (i := 75) (by decide +kernel)))) (by decide +kernel)
theorem kw_149 : Cond.fieldLink R_Ch 81 "LuaMachine$Chunk" "codeCount" "I" ∈ wA := kinm (show _ ∈ tables_1 from (List.mem_append_left _ (List.mem_of_getElem? (l := tables_1_1) (i := 77) (by decide +kernel)))) (by decide +kernel)
theorem kw_150 : Cond.fieldLink R_Ch 84 "LuaMachine$Chunk" "upvalueCount" "I" ∈ wA := kinm (show _ ∈ tables_1 from (List.mem_append_left _ (List.mem_of_getElem? (l := tables_1_1) (i := 78) (by decide +kernel)))) (by decide +kernel)
abbrev b_Ch_withoutFullOnes : ByteArray := prog_3_method_4_code
def y_Ch_withoutFullOnes : MethodName := ⟨R_Ch, "withoutFullOnes", "(I)I"⟩
abbrev w_Ch_withoutFullOnes : List Cond := .code y_Ch_withoutFullOnes b_Ch_withoutFullOnes 3 (some .int) :: wA
theorem k_Ch_withoutFullOnes : Cond.code y_Ch_withoutFullOnes b_Ch_withoutFullOnes 3 (some .int) ∈ wA := kinm (show _ ∈ tables_1 from (List.mem_append_right _ (List.mem_append_right _ (List.mem_append_left _ (List.mem_of_getElem? (l := tables_1_3) (i := 117) (by decide +kernel)))))) (by decide +kernel)
theorem d_Ch_withoutFullOnes_0 : decode b_Ch_withoutFullOnes 0 = .ok (.iload_n 1, 1) := by decide +kernel
theorem d_Ch_withoutFullOnes_1 : decode b_Ch_withoutFullOnes 1 = .ok (.istore_n 2, 1) := by decide +kernel
theorem d_Ch_withoutFullOnes_2 : decode b_Ch_withoutFullOnes 2 = .ok (.iload_n 2, 1) := by decide +kernel
theorem d_Ch_withoutFullOnes_3 : decode b_Ch_withoutFullOnes 3 = .ok (.ifCond .le 20, 3) := by decide +kernel
theorem d_Ch_withoutFullOnes_6 : decode b_Ch_withoutFullOnes 6 = .ok (.aload_n 0, 1) := by decide +kernel
theorem d_Ch_withoutFullOnes_7 : decode b_Ch_withoutFullOnes 7 = .ok (.getfield 42, 3) := by decide +kernel
theorem d_Ch_withoutFullOnes_10 : decode b_Ch_withoutFullOnes 10 = .ok (.iload_n 2, 1) := by decide +kernel
theorem d_Ch_withoutFullOnes_11 : decode b_Ch_withoutFullOnes 11 = .ok (.iconst 1, 1) := by decide +kernel
theorem d_Ch_withoutFullOnes_12 : decode b_Ch_withoutFullOnes 12 = .ok (.isub, 1) := by decide +kernel
theorem d_Ch_withoutFullOnes_13 : decode b_Ch_withoutFullOnes 13 = .ok (.iaload, 1) := by decide +kernel
theorem d_Ch_withoutFullOnes_14 : decode b_Ch_withoutFullOnes 14 = .ok (.ifCond .ne 9, 3) := by decide +kernel
theorem d_Ch_withoutFullOnes_17 : decode b_Ch_withoutFullOnes 17 = .ok (.iinc 2 (-1), 3) := by decide +kernel
theorem d_Ch_withoutFullOnes_20 : decode b_Ch_withoutFullOnes 20 = .ok (.goto (-18), 3) := by decide +kernel
theorem d_Ch_withoutFullOnes_23 : decode b_Ch_withoutFullOnes 23 = .ok (.iload_n 2, 1) := by decide +kernel
theorem d_Ch_withoutFullOnes_24 : decode b_Ch_withoutFullOnes 24 = .ok (.ireturn, 1) := by decide +kernel
abbrev b_Ch_refuse : ByteArray := prog_3_method_5_code
def y_Ch_refuse : MethodName := ⟨R_Ch, "refuse", "(II)Z"⟩
abbrev w_Ch_refuse : List Cond := .code y_Ch_refuse b_Ch_refuse 3 (some .boolean) :: wA
theorem k_Ch_refuse : Cond.code y_Ch_refuse b_Ch_refuse 3 (some .boolean) ∈ wA := kinm (show _ ∈ tables_1 from (List.mem_append_right _ (List.mem_append_right _ (List.mem_append_left _ (List.mem_of_getElem? (l := tables_1_3) (i := 121) (by decide +kernel)))))) (by decide +kernel)
theorem d_Ch_refuse_0 : decode b_Ch_refuse 0 = .ok (.aload_n 0, 1) := by decide +kernel
theorem d_Ch_refuse_1 : decode b_Ch_refuse 1 = .ok (.iload_n 1, 1) := by decide +kernel
theorem d_Ch_refuse_2 : decode b_Ch_refuse 2 = .ok (.putfield 72, 3) := by decide +kernel
theorem d_Ch_refuse_5 : decode b_Ch_refuse 5 = .ok (.aload_n 0, 1) := by decide +kernel
theorem d_Ch_refuse_6 : decode b_Ch_refuse 6 = .ok (.iload_n 2, 1) := by decide +kernel
theorem d_Ch_refuse_7 : decode b_Ch_refuse 7 = .ok (.putfield 45, 3) := by decide +kernel
theorem d_Ch_refuse_10 : decode b_Ch_refuse 10 = .ok (.iconst 0, 1) := by decide +kernel
theorem d_Ch_refuse_11 : decode b_Ch_refuse 11 = .ok (.ireturn, 1) := by decide +kernel
abbrev b_Ch_readNumber : ByteArray := prog_3_method_7_code
def y_Ch_readNumber : MethodName := ⟨R_Ch, "readNumber", "(I)I"⟩
abbrev w_Ch_readNumber : List Cond := .code y_Ch_readNumber b_Ch_readNumber 4 (some .int) :: wA
theorem k_Ch_readNumber : Cond.code y_Ch_readNumber b_Ch_readNumber 4 (some .int) ∈ wA := kinm (show _ ∈ tables_1 from (List.mem_append_right _ (List.mem_append_right _ (List.mem_append_left _ (List.mem_of_getElem? (l := tables_1_3) (i := 188) (by decide +kernel)))))) (by decide +kernel)
theorem d_Ch_readNumber_0 : decode b_Ch_readNumber 0 = .ok (.aload_n 0, 1) := by decide +kernel
theorem d_Ch_readNumber_1 : decode b_Ch_readNumber 1 = .ok (.getfield 57, 3) := by decide +kernel
theorem d_Ch_readNumber_4 : decode b_Ch_readNumber 4 = .ok (.iload_n 1, 1) := by decide +kernel
theorem d_Ch_readNumber_5 : decode b_Ch_readNumber 5 = .ok (.iadd, 1) := by decide +kernel
theorem d_Ch_readNumber_6 : decode b_Ch_readNumber 6 = .ok (.aload_n 0, 1) := by decide +kernel
theorem d_Ch_readNumber_7 : decode b_Ch_readNumber 7 = .ok (.getfield 60, 3) := by decide +kernel
theorem d_Ch_readNumber_10 : decode b_Ch_readNumber 10 = .ok (.if_icmp .le 15, 3) := by decide +kernel
theorem d_Ch_readNumber_13 : decode b_Ch_readNumber 13 = .ok (.aload_n 0, 1) := by decide +kernel
theorem d_Ch_readNumber_14 : decode b_Ch_readNumber 14 = .ok (.iconst 1, 1) := by decide +kernel
theorem d_Ch_readNumber_15 : decode b_Ch_readNumber 15 = .ok (.aload_n 0, 1) := by decide +kernel
theorem d_Ch_readNumber_16 : decode b_Ch_readNumber 16 = .ok (.getfield 57, 3) := by decide +kernel
theorem d_Ch_readNumber_19 : decode b_Ch_readNumber 19 = .ok (.invokevirtual 63, 3) := by decide +kernel
theorem d_Ch_readNumber_22 : decode b_Ch_readNumber 22 = .ok (.pop, 1) := by decide +kernel
theorem d_Ch_readNumber_23 : decode b_Ch_readNumber 23 = .ok (.iconst (-1), 1) := by decide +kernel
theorem d_Ch_readNumber_24 : decode b_Ch_readNumber 24 = .ok (.ireturn, 1) := by decide +kernel
theorem d_Ch_readNumber_25 : decode b_Ch_readNumber 25 = .ok (.iconst 0, 1) := by decide +kernel
theorem d_Ch_readNumber_26 : decode b_Ch_readNumber 26 = .ok (.istore_n 2, 1) := by decide +kernel
theorem d_Ch_readNumber_27 : decode b_Ch_readNumber 27 = .ok (.iconst 0, 1) := by decide +kernel
theorem d_Ch_readNumber_28 : decode b_Ch_readNumber 28 = .ok (.istore_n 3, 1) := by decide +kernel
theorem d_Ch_readNumber_29 : decode b_Ch_readNumber 29 = .ok (.iload_n 3, 1) := by decide +kernel
theorem d_Ch_readNumber_30 : decode b_Ch_readNumber 30 = .ok (.iload_n 1, 1) := by decide +kernel
theorem d_Ch_readNumber_31 : decode b_Ch_readNumber 31 = .ok (.if_icmp .ge 30, 3) := by decide +kernel
theorem d_Ch_readNumber_34 : decode b_Ch_readNumber 34 = .ok (.iload_n 2, 1) := by decide +kernel
theorem d_Ch_readNumber_35 : decode b_Ch_readNumber 35 = .ok (.bipush 8, 2) := by decide +kernel
theorem d_Ch_readNumber_37 : decode b_Ch_readNumber 37 = .ok (.ishl, 1) := by decide +kernel
theorem d_Ch_readNumber_38 : decode b_Ch_readNumber 38 = .ok (.aload_n 0, 1) := by decide +kernel
theorem d_Ch_readNumber_39 : decode b_Ch_readNumber 39 = .ok (.getfield 36, 3) := by decide +kernel
theorem d_Ch_readNumber_42 : decode b_Ch_readNumber 42 = .ok (.aload_n 0, 1) := by decide +kernel
theorem d_Ch_readNumber_43 : decode b_Ch_readNumber 43 = .ok (.getfield 57, 3) := by decide +kernel
theorem d_Ch_readNumber_46 : decode b_Ch_readNumber 46 = .ok (.iload_n 3, 1) := by decide +kernel
theorem d_Ch_readNumber_47 : decode b_Ch_readNumber 47 = .ok (.iadd, 1) := by decide +kernel
theorem d_Ch_readNumber_48 : decode b_Ch_readNumber 48 = .ok (.baload, 1) := by decide +kernel
theorem d_Ch_readNumber_49 : decode b_Ch_readNumber 49 = .ok (.sipush 255, 3) := by decide +kernel
theorem d_Ch_readNumber_52 : decode b_Ch_readNumber 52 = .ok (.iand, 1) := by decide +kernel
theorem d_Ch_readNumber_53 : decode b_Ch_readNumber 53 = .ok (.ior, 1) := by decide +kernel
theorem d_Ch_readNumber_54 : decode b_Ch_readNumber 54 = .ok (.istore_n 2, 1) := by decide +kernel
theorem d_Ch_readNumber_55 : decode b_Ch_readNumber 55 = .ok (.iinc 3 1, 3) := by decide +kernel
theorem d_Ch_readNumber_58 : decode b_Ch_readNumber 58 = .ok (.goto (-29), 3) := by decide +kernel
theorem d_Ch_readNumber_61 : decode b_Ch_readNumber 61 = .ok (.aload_n 0, 1) := by decide +kernel
theorem d_Ch_readNumber_62 : decode b_Ch_readNumber 62 = .ok (.dup, 1) := by decide +kernel
theorem d_Ch_readNumber_63 : decode b_Ch_readNumber 63 = .ok (.getfield 57, 3) := by decide +kernel
theorem d_Ch_readNumber_66 : decode b_Ch_readNumber 66 = .ok (.iload_n 1, 1) := by decide +kernel
theorem d_Ch_readNumber_67 : decode b_Ch_readNumber 67 = .ok (.iadd, 1) := by decide +kernel
theorem d_Ch_readNumber_68 : decode b_Ch_readNumber 68 = .ok (.putfield 57, 3) := by decide +kernel
theorem d_Ch_readNumber_71 : decode b_Ch_readNumber 71 = .ok (.iload_n 2, 1) := by decide +kernel
theorem d_Ch_readNumber_72 : decode b_Ch_readNumber 72 = .ok (.ireturn, 1) := by decide +kernel
theorem kw_151 : Cond.methodLink R_Ch 63 y_Ch_refuse ∈ wA := kinm (show _ ∈ tables_1 from (List.mem_append_right _ (List.mem_append_right _ (List.mem_append_left _ (List.mem_of_getElem? (l := tables_1_3) (i := 118) (by decide +kernel)))))) (by decide +kernel)
theorem kw_152 : Cond.instanceMethod y_Ch_refuse ∈ wA := kinm (show _ ∈ tables_1 from (List.mem_append_right _ (List.mem_append_right _ (List.mem_append_left _ (List.mem_of_getElem? (l := tables_1_3) (i := 120) (by decide +kernel)))))) (by decide +kernel)
theorem kw_153 : Cond.selects R_Ch y_Ch_refuse y_Ch_refuse ∈ wA := kinp 4 (by decide +kernel) (by decide +kernel)
abbrev b_Ch_readHead : ByteArray := prog_3_method_8_code
def y_Ch_readHead : MethodName := ⟨R_Ch, "readHead", "(LLuaMachine$Prototype;)Z"⟩
abbrev w_Ch_readHead : List Cond := .code y_Ch_readHead b_Ch_readHead 3 (some .boolean) :: wA
set_option maxRecDepth 20000 in
theorem k_Ch_readHead : Cond.code y_Ch_readHead b_Ch_readHead 3 (some .boolean) ∈ wA := kinm (show _ ∈ tables_1 from (List.mem_append_right _ (List.mem_append_right _ (List.mem_append_left _ (List.mem_of_getElem? (l := tables_1_3) (i := 184) rfl))))) rfl
theorem d_Ch_readHead_0 : decode b_Ch_readHead 0 = .ok (.aload_n 1, 1) := by decide +kernel
theorem d_Ch_readHead_1 : decode b_Ch_readHead 1 = .ok (.getfield 88, 3) := by decide +kernel
theorem d_Ch_readHead_4 : decode b_Ch_readHead 4 = .ok (.ifCond .ge 7, 3) := by decide +kernel
theorem d_Ch_readHead_7 : decode b_Ch_readHead 7 = .ok (.iconst 1, 1) := by decide +kernel
theorem d_Ch_readHead_8 : decode b_Ch_readHead 8 = .ok (.goto 4, 3) := by decide +kernel
theorem d_Ch_readHead_11 : decode b_Ch_readHead 11 = .ok (.iconst 0, 1) := by decide +kernel
theorem d_Ch_readHead_12 : decode b_Ch_readHead 12 = .ok (.istore_n 2, 1) := by decide +kernel
theorem d_Ch_readHead_13 : decode b_Ch_readHead 13 = .ok (.aload_n 1, 1) := by decide +kernel
theorem d_Ch_readHead_14 : decode b_Ch_readHead 14 = .ok (.aload_n 0, 1) := by decide +kernel
theorem d_Ch_readHead_15 : decode b_Ch_readHead 15 = .ok (.iconst 1, 1) := by decide +kernel
theorem d_Ch_readHead_16 : decode b_Ch_readHead 16 = .ok (.invokevirtual 104, 3) := by decide +kernel
theorem d_Ch_readHead_19 : decode b_Ch_readHead 19 = .ok (.putfield 107, 3) := by decide +kernel
theorem d_Ch_readHead_22 : decode b_Ch_readHead 22 = .ok (.aload_n 1, 1) := by decide +kernel
theorem d_Ch_readHead_23 : decode b_Ch_readHead 23 = .ok (.getfield 107, 3) := by decide +kernel
theorem d_Ch_readHead_26 : decode b_Ch_readHead 26 = .ok (.ifCond .ge 5, 3) := by decide +kernel
theorem d_Ch_readHead_29 : decode b_Ch_readHead 29 = .ok (.iconst 0, 1) := by decide +kernel
theorem d_Ch_readHead_30 : decode b_Ch_readHead 30 = .ok (.ireturn, 1) := by decide +kernel
theorem d_Ch_readHead_31 : decode b_Ch_readHead 31 = .ok (.aload_n 1, 1) := by decide +kernel
theorem d_Ch_readHead_32 : decode b_Ch_readHead 32 = .ok (.aload_n 0, 1) := by decide +kernel
theorem d_Ch_readHead_33 : decode b_Ch_readHead 33 = .ok (.iconst 1, 1) := by decide +kernel
theorem d_Ch_readHead_34 : decode b_Ch_readHead 34 = .ok (.invokevirtual 104, 3) := by decide +kernel
theorem d_Ch_readHead_37 : decode b_Ch_readHead 37 = .ok (.putfield 110, 3) := by decide +kernel
theorem d_Ch_readHead_40 : decode b_Ch_readHead 40 = .ok (.aload_n 1, 1) := by decide +kernel
theorem d_Ch_readHead_41 : decode b_Ch_readHead 41 = .ok (.getfield 110, 3) := by decide +kernel
theorem d_Ch_readHead_44 : decode b_Ch_readHead 44 = .ok (.ifCond .ge 5, 3) := by decide +kernel
theorem d_Ch_readHead_47 : decode b_Ch_readHead 47 = .ok (.iconst 0, 1) := by decide +kernel
theorem d_Ch_readHead_48 : decode b_Ch_readHead 48 = .ok (.ireturn, 1) := by decide +kernel
theorem d_Ch_readHead_49 : decode b_Ch_readHead 49 = .ok (.aload_n 1, 1) := by decide +kernel
theorem d_Ch_readHead_50 : decode b_Ch_readHead 50 = .ok (.getfield 110, 3) := by decide +kernel
theorem d_Ch_readHead_53 : decode b_Ch_readHead 53 = .ok (.iconst 1, 1) := by decide +kernel
theorem d_Ch_readHead_54 : decode b_Ch_readHead 54 = .ok (.if_icmp .gt 14, 3) := by decide +kernel
theorem d_Ch_readHead_57 : decode b_Ch_readHead 57 = .ok (.iload_n 2, 1) := by decide +kernel
theorem d_Ch_readHead_58 : decode b_Ch_readHead 58 = .ok (.ifCond .eq 22, 3) := by decide +kernel
theorem d_Ch_readHead_61 : decode b_Ch_readHead 61 = .ok (.aload_n 1, 1) := by decide +kernel
theorem d_Ch_readHead_62 : decode b_Ch_readHead 62 = .ok (.getfield 110, 3) := by decide +kernel
theorem d_Ch_readHead_65 : decode b_Ch_readHead 65 = .ok (.ifCond .ne 15, 3) := by decide +kernel
theorem d_Ch_readHead_68 : decode b_Ch_readHead 68 = .ok (.aload_n 0, 1) := by decide +kernel
theorem d_Ch_readHead_69 : decode b_Ch_readHead 69 = .ok (.iconst 2, 1) := by decide +kernel
theorem d_Ch_readHead_70 : decode b_Ch_readHead 70 = .ok (.aload_n 0, 1) := by decide +kernel
theorem d_Ch_readHead_71 : decode b_Ch_readHead 71 = .ok (.getfield 57, 3) := by decide +kernel
theorem d_Ch_readHead_74 : decode b_Ch_readHead 74 = .ok (.iconst 1, 1) := by decide +kernel
theorem d_Ch_readHead_75 : decode b_Ch_readHead 75 = .ok (.isub, 1) := by decide +kernel
theorem d_Ch_readHead_76 : decode b_Ch_readHead 76 = .ok (.invokevirtual 63, 3) := by decide +kernel
theorem d_Ch_readHead_79 : decode b_Ch_readHead 79 = .ok (.ireturn, 1) := by decide +kernel
theorem d_Ch_readHead_80 : decode b_Ch_readHead 80 = .ok (.aload_n 1, 1) := by decide +kernel
theorem d_Ch_readHead_81 : decode b_Ch_readHead 81 = .ok (.aload_n 0, 1) := by decide +kernel
theorem d_Ch_readHead_82 : decode b_Ch_readHead 82 = .ok (.iconst 1, 1) := by decide +kernel
theorem d_Ch_readHead_83 : decode b_Ch_readHead 83 = .ok (.invokevirtual 104, 3) := by decide +kernel
theorem d_Ch_readHead_86 : decode b_Ch_readHead 86 = .ok (.putfield 113, 3) := by decide +kernel
theorem d_Ch_readHead_89 : decode b_Ch_readHead 89 = .ok (.aload_n 1, 1) := by decide +kernel
theorem d_Ch_readHead_90 : decode b_Ch_readHead 90 = .ok (.getfield 113, 3) := by decide +kernel
theorem d_Ch_readHead_93 : decode b_Ch_readHead 93 = .ok (.ifCond .ge 5, 3) := by decide +kernel
theorem d_Ch_readHead_96 : decode b_Ch_readHead 96 = .ok (.iconst 0, 1) := by decide +kernel
theorem d_Ch_readHead_97 : decode b_Ch_readHead 97 = .ok (.ireturn, 1) := by decide +kernel
theorem d_Ch_readHead_98 : decode b_Ch_readHead 98 = .ok (.aload_n 1, 1) := by decide +kernel
theorem d_Ch_readHead_99 : decode b_Ch_readHead 99 = .ok (.getfield 113, 3) := by decide +kernel
theorem d_Ch_readHead_102 : decode b_Ch_readHead 102 = .ok (.iconst 2, 1) := by decide +kernel
theorem d_Ch_readHead_103 : decode b_Ch_readHead 103 = .ok (.if_icmp .lt 24, 3) := by decide +kernel
theorem d_Ch_readHead_106 : decode b_Ch_readHead 106 = .ok (.aload_n 1, 1) := by decide +kernel
theorem d_Ch_readHead_107 : decode b_Ch_readHead 107 = .ok (.getfield 113, 3) := by decide +kernel
theorem d_Ch_readHead_110 : decode b_Ch_readHead 110 = .ok (.sipush 250, 3) := by decide +kernel
theorem d_Ch_readHead_113 : decode b_Ch_readHead 113 = .ok (.if_icmp .gt 14, 3) := by decide +kernel
theorem d_Ch_readHead_116 : decode b_Ch_readHead 116 = .ok (.aload_n 1, 1) := by decide +kernel
theorem d_Ch_readHead_117 : decode b_Ch_readHead 117 = .ok (.getfield 113, 3) := by decide +kernel
theorem d_Ch_readHead_120 : decode b_Ch_readHead 120 = .ok (.aload_n 1, 1) := by decide +kernel
theorem d_Ch_readHead_121 : decode b_Ch_readHead 121 = .ok (.getfield 107, 3) := by decide +kernel
theorem d_Ch_readHead_124 : decode b_Ch_readHead 124 = .ok (.if_icmp .ge 15, 3) := by decide +kernel
theorem d_Ch_readHead_127 : decode b_Ch_readHead 127 = .ok (.aload_n 0, 1) := by decide +kernel
theorem d_Ch_readHead_128 : decode b_Ch_readHead 128 = .ok (.iconst 2, 1) := by decide +kernel
theorem d_Ch_readHead_129 : decode b_Ch_readHead 129 = .ok (.aload_n 0, 1) := by decide +kernel
theorem d_Ch_readHead_130 : decode b_Ch_readHead 130 = .ok (.getfield 57, 3) := by decide +kernel
theorem d_Ch_readHead_133 : decode b_Ch_readHead 133 = .ok (.iconst 1, 1) := by decide +kernel
theorem d_Ch_readHead_134 : decode b_Ch_readHead 134 = .ok (.isub, 1) := by decide +kernel
theorem d_Ch_readHead_135 : decode b_Ch_readHead 135 = .ok (.invokevirtual 63, 3) := by decide +kernel
theorem d_Ch_readHead_138 : decode b_Ch_readHead 138 = .ok (.ireturn, 1) := by decide +kernel
theorem d_Ch_readHead_139 : decode b_Ch_readHead 139 = .ok (.aload_n 1, 1) := by decide +kernel
theorem d_Ch_readHead_140 : decode b_Ch_readHead 140 = .ok (.aload_n 0, 1) := by decide +kernel
theorem d_Ch_readHead_141 : decode b_Ch_readHead 141 = .ok (.iconst 1, 1) := by decide +kernel
theorem d_Ch_readHead_142 : decode b_Ch_readHead 142 = .ok (.invokevirtual 104, 3) := by decide +kernel
theorem d_Ch_readHead_145 : decode b_Ch_readHead 145 = .ok (.putfield 116, 3) := by decide +kernel
theorem d_Ch_readHead_148 : decode b_Ch_readHead 148 = .ok (.aload_n 1, 1) := by decide +kernel
theorem d_Ch_readHead_149 : decode b_Ch_readHead 149 = .ok (.getfield 116, 3) := by decide +kernel
theorem d_Ch_readHead_152 : decode b_Ch_readHead 152 = .ok (.ifCond .ge 5, 3) := by decide +kernel
theorem d_Ch_readHead_155 : decode b_Ch_readHead 155 = .ok (.iconst 0, 1) := by decide +kernel
theorem d_Ch_readHead_156 : decode b_Ch_readHead 156 = .ok (.ireturn, 1) := by decide +kernel
theorem d_Ch_readHead_157 : decode b_Ch_readHead 157 = .ok (.aload_n 1, 1) := by decide +kernel
theorem d_Ch_readHead_158 : decode b_Ch_readHead 158 = .ok (.getfield 116, 3) := by decide +kernel
theorem d_Ch_readHead_161 : decode b_Ch_readHead 161 = .ok (.bipush 60, 2) := by decide +kernel
theorem d_Ch_readHead_163 : decode b_Ch_readHead 163 = .ok (.if_icmp .gt 15, 3) := by decide +kernel
theorem d_Ch_readHead_166 : decode b_Ch_readHead 166 = .ok (.iload_n 2, 1) := by decide +kernel
theorem d_Ch_readHead_167 : decode b_Ch_readHead 167 = .ok (.ifCond .eq 23, 3) := by decide +kernel
theorem d_Ch_readHead_170 : decode b_Ch_readHead 170 = .ok (.aload_n 1, 1) := by decide +kernel
theorem d_Ch_readHead_171 : decode b_Ch_readHead 171 = .ok (.getfield 116, 3) := by decide +kernel
theorem d_Ch_readHead_174 : decode b_Ch_readHead 174 = .ok (.iconst 1, 1) := by decide +kernel
theorem d_Ch_readHead_175 : decode b_Ch_readHead 175 = .ok (.if_icmp .eq 15, 3) := by decide +kernel
theorem d_Ch_readHead_178 : decode b_Ch_readHead 178 = .ok (.aload_n 0, 1) := by decide +kernel
theorem d_Ch_readHead_179 : decode b_Ch_readHead 179 = .ok (.iconst 2, 1) := by decide +kernel
theorem d_Ch_readHead_180 : decode b_Ch_readHead 180 = .ok (.aload_n 0, 1) := by decide +kernel
theorem d_Ch_readHead_181 : decode b_Ch_readHead 181 = .ok (.getfield 57, 3) := by decide +kernel
theorem d_Ch_readHead_184 : decode b_Ch_readHead 184 = .ok (.iconst 1, 1) := by decide +kernel
theorem d_Ch_readHead_185 : decode b_Ch_readHead 185 = .ok (.isub, 1) := by decide +kernel
theorem d_Ch_readHead_186 : decode b_Ch_readHead 186 = .ok (.invokevirtual 63, 3) := by decide +kernel
theorem d_Ch_readHead_189 : decode b_Ch_readHead 189 = .ok (.ireturn, 1) := by decide +kernel
theorem d_Ch_readHead_190 : decode b_Ch_readHead 190 = .ok (.iconst 1, 1) := by decide +kernel
theorem d_Ch_readHead_191 : decode b_Ch_readHead 191 = .ok (.ireturn, 1) := by decide +kernel
theorem kw_154 : Cond.fieldLink R_Ch 88 "LuaMachine$Prototype" "around" "I" ∈ wA := kinm (show _ ∈ tables_1 from (List.mem_append_right _ (List.mem_append_right _ (List.mem_append_left _ (List.mem_of_getElem? (l := tables_1_3) (i := 153) (by decide +kernel)))))) (by decide +kernel)
theorem kw_155 : Cond.methodLink R_Ch 104 y_Ch_readNumber ∈ wA := kinm (show _ ∈ tables_1 from (List.mem_append_right _ (List.mem_append_right _ (List.mem_append_left _ (List.mem_of_getElem? (l := tables_1_3) (i := 185) (by decide +kernel)))))) (by decide +kernel)
theorem kw_156 : Cond.instanceMethod y_Ch_readNumber ∈ wA := kinm (show _ ∈ tables_1 from (List.mem_append_right _ (List.mem_append_right _ (List.mem_append_left _ (List.mem_of_getElem? (l := tables_1_3) (i := 187) (by decide +kernel)))))) (by decide +kernel)
theorem kw_157 : Cond.selects R_Ch y_Ch_readNumber y_Ch_readNumber ∈ wA := kinp 7 (by decide +kernel) (by decide +kernel)
theorem kw_158 : Cond.fieldLink R_Ch 107 "LuaMachine$Prototype" "parameters" "I" ∈ wA := kinm (show _ ∈ tables_1 from (List.mem_append_right _ (List.mem_append_right _ (List.mem_append_left _ (List.mem_of_getElem? (l := tables_1_3) (i := 131) (by decide +kernel)))))) (by decide +kernel)
abbrev b_Ch_readPrototype : ByteArray := prog_3_method_6_code
def y_Ch_readPrototype : MethodName := ⟨R_Ch, "readPrototype", "(II)Z"⟩
abbrev w_Ch_readPrototype : List Cond := .code y_Ch_readPrototype b_Ch_readPrototype 4 (some .boolean) :: wA
theorem k_Ch_readPrototype : Cond.code y_Ch_readPrototype b_Ch_readPrototype 4 (some .boolean) ∈ wA := kinm (show _ ∈ tables_1 from (List.mem_append_right _ (List.mem_append_right _ (List.mem_append_left _ (List.mem_of_getElem? (l := tables_1_3) (i := 125) (by decide +kernel)))))) (by decide +kernel)
theorem d_Ch_readPrototype_0 : decode b_Ch_readPrototype 0 = .ok (.aload_n 0, 1) := by decide +kernel
theorem d_Ch_readPrototype_1 : decode b_Ch_readPrototype 1 = .ok (.getfield 11, 3) := by decide +kernel
theorem d_Ch_readPrototype_4 : decode b_Ch_readPrototype 4 = .ok (.iload_n 1, 1) := by decide +kernel
theorem d_Ch_readPrototype_5 : decode b_Ch_readPrototype 5 = .ok (.aaload, 1) := by decide +kernel
theorem d_Ch_readPrototype_6 : decode b_Ch_readPrototype 6 = .ok (.ifnonnull 16, 3) := by decide +kernel
theorem d_Ch_readPrototype_9 : decode b_Ch_readPrototype 9 = .ok (.aload_n 0, 1) := by decide +kernel
theorem d_Ch_readPrototype_10 : decode b_Ch_readPrototype 10 = .ok (.getfield 11, 3) := by decide +kernel
theorem d_Ch_readPrototype_13 : decode b_Ch_readPrototype 13 = .ok (.iload_n 1, 1) := by decide +kernel
theorem d_Ch_readPrototype_14 : decode b_Ch_readPrototype 14 = .ok (.new 9, 3) := by decide +kernel
theorem d_Ch_readPrototype_17 : decode b_Ch_readPrototype 17 = .ok (.dup, 1) := by decide +kernel
theorem d_Ch_readPrototype_18 : decode b_Ch_readPrototype 18 = .ok (.invokespecial 87, 3) := by decide +kernel
theorem d_Ch_readPrototype_21 : decode b_Ch_readPrototype 21 = .ok (.aastore, 1) := by decide +kernel
theorem d_Ch_readPrototype_22 : decode b_Ch_readPrototype 22 = .ok (.aload_n 0, 1) := by decide +kernel
theorem d_Ch_readPrototype_23 : decode b_Ch_readPrototype 23 = .ok (.getfield 11, 3) := by decide +kernel
theorem d_Ch_readPrototype_26 : decode b_Ch_readPrototype 26 = .ok (.iload_n 1, 1) := by decide +kernel
theorem d_Ch_readPrototype_27 : decode b_Ch_readPrototype 27 = .ok (.aaload, 1) := by decide +kernel
theorem d_Ch_readPrototype_28 : decode b_Ch_readPrototype 28 = .ok (.astore_n 3, 1) := by decide +kernel
theorem d_Ch_readPrototype_29 : decode b_Ch_readPrototype 29 = .ok (.aload_n 3, 1) := by decide +kernel
theorem d_Ch_readPrototype_30 : decode b_Ch_readPrototype 30 = .ok (.iload_n 2, 1) := by decide +kernel
theorem d_Ch_readPrototype_31 : decode b_Ch_readPrototype 31 = .ok (.putfield 88, 3) := by decide +kernel
theorem d_Ch_readPrototype_34 : decode b_Ch_readPrototype 34 = .ok (.aload_n 0, 1) := by decide +kernel
theorem d_Ch_readPrototype_35 : decode b_Ch_readPrototype 35 = .ok (.iload_n 1, 1) := by decide +kernel
theorem d_Ch_readPrototype_36 : decode b_Ch_readPrototype 36 = .ok (.iconst 1, 1) := by decide +kernel
theorem d_Ch_readPrototype_37 : decode b_Ch_readPrototype 37 = .ok (.iadd, 1) := by decide +kernel
theorem d_Ch_readPrototype_38 : decode b_Ch_readPrototype 38 = .ok (.putfield 75, 3) := by decide +kernel
theorem d_Ch_readPrototype_41 : decode b_Ch_readPrototype 41 = .ok (.aload_n 0, 1) := by decide +kernel
theorem d_Ch_readPrototype_42 : decode b_Ch_readPrototype 42 = .ok (.aload_n 3, 1) := by decide +kernel
theorem d_Ch_readPrototype_43 : decode b_Ch_readPrototype 43 = .ok (.invokevirtual 91, 3) := by decide +kernel
theorem d_Ch_readPrototype_46 : decode b_Ch_readPrototype 46 = .ok (.ifCond .eq 27, 3) := by decide +kernel
theorem d_Ch_readPrototype_49 : decode b_Ch_readPrototype 49 = .ok (.aload_n 0, 1) := by decide +kernel
theorem d_Ch_readPrototype_50 : decode b_Ch_readPrototype 50 = .ok (.aload_n 3, 1) := by decide +kernel
theorem d_Ch_readPrototype_51 : decode b_Ch_readPrototype 51 = .ok (.invokevirtual 95, 3) := by decide +kernel
theorem d_Ch_readPrototype_54 : decode b_Ch_readPrototype 54 = .ok (.ifCond .eq 19, 3) := by decide +kernel
theorem d_Ch_readPrototype_57 : decode b_Ch_readPrototype 57 = .ok (.aload_n 0, 1) := by decide +kernel
theorem d_Ch_readPrototype_58 : decode b_Ch_readPrototype 58 = .ok (.aload_n 3, 1) := by decide +kernel
theorem d_Ch_readPrototype_59 : decode b_Ch_readPrototype 59 = .ok (.invokevirtual 98, 3) := by decide +kernel
theorem d_Ch_readPrototype_62 : decode b_Ch_readPrototype 62 = .ok (.ifCond .eq 11, 3) := by decide +kernel
theorem d_Ch_readPrototype_65 : decode b_Ch_readPrototype 65 = .ok (.aload_n 0, 1) := by decide +kernel
theorem d_Ch_readPrototype_66 : decode b_Ch_readPrototype 66 = .ok (.aload_n 3, 1) := by decide +kernel
theorem d_Ch_readPrototype_67 : decode b_Ch_readPrototype 67 = .ok (.invokevirtual 101, 3) := by decide +kernel
theorem d_Ch_readPrototype_70 : decode b_Ch_readPrototype 70 = .ok (.ifCond .ne 5, 3) := by decide +kernel
theorem d_Ch_readPrototype_73 : decode b_Ch_readPrototype 73 = .ok (.iconst 0, 1) := by decide +kernel
theorem d_Ch_readPrototype_74 : decode b_Ch_readPrototype 74 = .ok (.ireturn, 1) := by decide +kernel
theorem d_Ch_readPrototype_75 : decode b_Ch_readPrototype 75 = .ok (.aload_n 3, 1) := by decide +kernel
theorem d_Ch_readPrototype_76 : decode b_Ch_readPrototype 76 = .ok (.aload_n 0, 1) := by decide +kernel
theorem d_Ch_readPrototype_77 : decode b_Ch_readPrototype 77 = .ok (.iconst 1, 1) := by decide +kernel
theorem d_Ch_readPrototype_78 : decode b_Ch_readPrototype 78 = .ok (.invokevirtual 104, 3) := by decide +kernel
theorem d_Ch_readPrototype_81 : decode b_Ch_readPrototype 81 = .ok (.putfield 70, 3) := by decide +kernel
theorem d_Ch_readPrototype_84 : decode b_Ch_readPrototype 84 = .ok (.aload_n 3, 1) := by decide +kernel
theorem d_Ch_readPrototype_85 : decode b_Ch_readPrototype 85 = .ok (.getfield 70, 3) := by decide +kernel
theorem d_Ch_readPrototype_88 : decode b_Ch_readPrototype 88 = .ok (.ifCond .lt 7, 3) := by decide +kernel
theorem d_Ch_readPrototype_91 : decode b_Ch_readPrototype 91 = .ok (.iconst 1, 1) := by decide +kernel
theorem d_Ch_readPrototype_92 : decode b_Ch_readPrototype 92 = .ok (.goto 4, 3) := by decide +kernel
theorem d_Ch_readPrototype_95 : decode b_Ch_readPrototype 95 = .ok (.iconst 0, 1) := by decide +kernel
theorem d_Ch_readPrototype_96 : decode b_Ch_readPrototype 96 = .ok (.ireturn, 1) := by decide +kernel
theorem kw_159 : Cond.instantiable R_Pr 13 ∈ wA := kinm (show _ ∈ tables_1 from (List.mem_append_right _ (List.mem_append_right _ (List.mem_append_left _ (List.mem_of_getElem? (l := tables_1_3) (i := 126) (by decide +kernel)))))) (by decide +kernel)
theorem kw_160 : Cond.initialized R_Pr ∈ wA := kinm (show _ ∈ tables_1 from (List.mem_append_left _ (List.mem_of_getElem? (l := tables_1_1) (i := 17) (by decide +kernel)))) (by decide +kernel)
theorem nw_Ch_87 : Cond.methodLinkNest R_Ch 87 y_Pr_init "LuaMachine" ∈ xW := xinm (show _ ∈ tables_1 from (List.mem_append_right _ (List.mem_append_right _ (List.mem_append_left _ (List.mem_of_getElem? (l := tables_1_3) (i := 127) (by decide +kernel)))))) (by decide +kernel)
theorem kw_162 : Cond.instanceMethod y_Pr_init ∈ wA := kinm (show _ ∈ tables_1 from (List.mem_append_right _ (List.mem_append_right _ (List.mem_append_left _ (List.mem_of_getElem? (l := tables_1_3) (i := 128) (by decide +kernel)))))) (by decide +kernel)
theorem kw_163 : Cond.methodLink R_Ch 91 y_Ch_readHead ∈ wA := kinm (show _ ∈ tables_1 from (List.mem_append_right _ (List.mem_append_right _ (List.mem_append_left _ (List.mem_of_getElem? (l := tables_1_3) (i := 181) (by decide +kernel)))))) (by decide +kernel)
theorem kw_164 : Cond.instanceMethod y_Ch_readHead ∈ wA := kinm (show _ ∈ tables_1 from (List.mem_append_right _ (List.mem_append_right _ (List.mem_append_left _ (List.mem_of_getElem? (l := tables_1_3) (i := 183) (by decide +kernel)))))) (by decide +kernel)
theorem kw_165 : Cond.selects R_Ch y_Ch_readHead y_Ch_readHead ∈ wA := kinp 6 (by decide +kernel) (by decide +kernel)
abbrev b_Ch_readAll : ByteArray := prog_3_method_2_code
def y_Ch_readAll : MethodName := ⟨R_Ch, "readAll", "(I)Z"⟩
abbrev w_Ch_readAll : List Cond := .code y_Ch_readAll b_Ch_readAll 4 (some .boolean) :: wA
set_option maxRecDepth 20000 in
theorem k_Ch_readAll : Cond.code y_Ch_readAll b_Ch_readAll 4 (some .boolean) ∈ wA := kinm (show _ ∈ tables_1 from (List.mem_append_right _ (List.mem_append_right _ (List.mem_append_left _ (List.mem_of_getElem? (l := tables_1_3) (i := 109) rfl))))) rfl
theorem d_Ch_readAll_0 : decode b_Ch_readAll 0 = .ok (.aload_n 0, 1) := by decide +kernel
theorem d_Ch_readAll_1 : decode b_Ch_readAll 1 = .ok (.iload_n 1, 1) := by decide +kernel
theorem d_Ch_readAll_2 : decode b_Ch_readAll 2 = .ok (.invokevirtual 49, 3) := by decide +kernel
theorem d_Ch_readAll_5 : decode b_Ch_readAll 5 = .ok (.iconst 0, 1) := by decide +kernel
theorem d_Ch_readAll_6 : decode b_Ch_readAll 6 = .ok (.istore_n 2, 1) := by decide +kernel
theorem d_Ch_readAll_7 : decode b_Ch_readAll 7 = .ok (.iconst 0, 1) := by decide +kernel
theorem d_Ch_readAll_8 : decode b_Ch_readAll 8 = .ok (.istore_n 3, 1) := by decide +kernel
theorem d_Ch_readAll_9 : decode b_Ch_readAll 9 = .ok (.iload_n 3, 1) := by decide +kernel
theorem d_Ch_readAll_10 : decode b_Ch_readAll 10 = .ok (.sipush 250, 3) := by decide +kernel
theorem d_Ch_readAll_13 : decode b_Ch_readAll 13 = .ok (.if_icmp .gt 142, 3) := by decide +kernel
theorem d_Ch_readAll_16 : decode b_Ch_readAll 16 = .ok (.aload_n 0, 1) := by decide +kernel
theorem d_Ch_readAll_17 : decode b_Ch_readAll 17 = .ok (.iload_n 2, 1) := by decide +kernel
theorem d_Ch_readAll_18 : decode b_Ch_readAll 18 = .ok (.invokevirtual 53, 3) := by decide +kernel
theorem d_Ch_readAll_21 : decode b_Ch_readAll 21 = .ok (.istore_n 2, 1) := by decide +kernel
theorem d_Ch_readAll_22 : decode b_Ch_readAll 22 = .ok (.iload_n 3, 1) := by decide +kernel
theorem d_Ch_readAll_23 : decode b_Ch_readAll 23 = .ok (.ifCond .le 36, 3) := by decide +kernel
theorem d_Ch_readAll_26 : decode b_Ch_readAll 26 = .ok (.iload_n 2, 1) := by decide +kernel
theorem d_Ch_readAll_27 : decode b_Ch_readAll 27 = .ok (.ifCond .ne 32, 3) := by decide +kernel
theorem d_Ch_readAll_30 : decode b_Ch_readAll 30 = .ok (.aload_n 0, 1) := by decide +kernel
theorem d_Ch_readAll_31 : decode b_Ch_readAll 31 = .ok (.getfield 57, 3) := by decide +kernel
theorem d_Ch_readAll_34 : decode b_Ch_readAll 34 = .ok (.aload_n 0, 1) := by decide +kernel
theorem d_Ch_readAll_35 : decode b_Ch_readAll 35 = .ok (.getfield 60, 3) := by decide +kernel
theorem d_Ch_readAll_38 : decode b_Ch_readAll 38 = .ok (.if_icmp .eq 15, 3) := by decide +kernel
theorem d_Ch_readAll_41 : decode b_Ch_readAll 41 = .ok (.aload_n 0, 1) := by decide +kernel
theorem d_Ch_readAll_42 : decode b_Ch_readAll 42 = .ok (.iconst 5, 1) := by decide +kernel
theorem d_Ch_readAll_43 : decode b_Ch_readAll 43 = .ok (.aload_n 0, 1) := by decide +kernel
theorem d_Ch_readAll_44 : decode b_Ch_readAll 44 = .ok (.getfield 57, 3) := by decide +kernel
theorem d_Ch_readAll_47 : decode b_Ch_readAll 47 = .ok (.invokevirtual 63, 3) := by decide +kernel
theorem d_Ch_readAll_50 : decode b_Ch_readAll 50 = .ok (.ifCond .eq 7, 3) := by decide +kernel
theorem d_Ch_readAll_53 : decode b_Ch_readAll 53 = .ok (.iconst 1, 1) := by decide +kernel
theorem d_Ch_readAll_54 : decode b_Ch_readAll 54 = .ok (.goto 4, 3) := by decide +kernel
theorem d_Ch_readAll_57 : decode b_Ch_readAll 57 = .ok (.iconst 0, 1) := by decide +kernel
theorem d_Ch_readAll_58 : decode b_Ch_readAll 58 = .ok (.ireturn, 1) := by decide +kernel
theorem d_Ch_readAll_59 : decode b_Ch_readAll 59 = .ok (.iload_n 3, 1) := by decide +kernel
theorem d_Ch_readAll_60 : decode b_Ch_readAll 60 = .ok (.sipush 250, 3) := by decide +kernel
theorem d_Ch_readAll_63 : decode b_Ch_readAll 63 = .ok (.if_icmp .eq 9, 3) := by decide +kernel
theorem d_Ch_readAll_66 : decode b_Ch_readAll 66 = .ok (.iload_n 2, 1) := by decide +kernel
theorem d_Ch_readAll_67 : decode b_Ch_readAll 67 = .ok (.bipush 20, 2) := by decide +kernel
theorem d_Ch_readAll_69 : decode b_Ch_readAll 69 = .ok (.if_icmp .ne 13, 3) := by decide +kernel
theorem d_Ch_readAll_72 : decode b_Ch_readAll 72 = .ok (.aload_n 0, 1) := by decide +kernel
theorem d_Ch_readAll_73 : decode b_Ch_readAll 73 = .ok (.iconst 3, 1) := by decide +kernel
theorem d_Ch_readAll_74 : decode b_Ch_readAll 74 = .ok (.aload_n 0, 1) := by decide +kernel
theorem d_Ch_readAll_75 : decode b_Ch_readAll 75 = .ok (.getfield 57, 3) := by decide +kernel
theorem d_Ch_readAll_78 : decode b_Ch_readAll 78 = .ok (.invokevirtual 63, 3) := by decide +kernel
theorem d_Ch_readAll_81 : decode b_Ch_readAll 81 = .ok (.ireturn, 1) := by decide +kernel
theorem d_Ch_readAll_82 : decode b_Ch_readAll 82 = .ok (.aload_n 0, 1) := by decide +kernel
theorem d_Ch_readAll_83 : decode b_Ch_readAll 83 = .ok (.iload_n 3, 1) := by decide +kernel
theorem d_Ch_readAll_84 : decode b_Ch_readAll 84 = .ok (.iload_n 2, 1) := by decide +kernel
theorem d_Ch_readAll_85 : decode b_Ch_readAll 85 = .ok (.ifCond .ne 7, 3) := by decide +kernel
theorem d_Ch_readAll_88 : decode b_Ch_readAll 88 = .ok (.iconst (-1), 1) := by decide +kernel
theorem d_Ch_readAll_89 : decode b_Ch_readAll 89 = .ok (.goto 11, 3) := by decide +kernel
theorem d_Ch_readAll_92 : decode b_Ch_readAll 92 = .ok (.aload_n 0, 1) := by decide +kernel
theorem d_Ch_readAll_93 : decode b_Ch_readAll 93 = .ok (.getfield 39, 3) := by decide +kernel
theorem d_Ch_readAll_96 : decode b_Ch_readAll 96 = .ok (.iload_n 2, 1) := by decide +kernel
theorem d_Ch_readAll_97 : decode b_Ch_readAll 97 = .ok (.iconst 1, 1) := by decide +kernel
theorem d_Ch_readAll_98 : decode b_Ch_readAll 98 = .ok (.isub, 1) := by decide +kernel
theorem d_Ch_readAll_99 : decode b_Ch_readAll 99 = .ok (.iaload, 1) := by decide +kernel
theorem d_Ch_readAll_100 : decode b_Ch_readAll 100 = .ok (.invokevirtual 67, 3) := by decide +kernel
theorem d_Ch_readAll_103 : decode b_Ch_readAll 103 = .ok (.ifCond .ne 5, 3) := by decide +kernel
theorem d_Ch_readAll_106 : decode b_Ch_readAll 106 = .ok (.iconst 0, 1) := by decide +kernel
theorem d_Ch_readAll_107 : decode b_Ch_readAll 107 = .ok (.ireturn, 1) := by decide +kernel
theorem d_Ch_readAll_108 : decode b_Ch_readAll 108 = .ok (.iload_n 2, 1) := by decide +kernel
theorem d_Ch_readAll_109 : decode b_Ch_readAll 109 = .ok (.ifCond .le 15, 3) := by decide +kernel
theorem d_Ch_readAll_112 : decode b_Ch_readAll 112 = .ok (.aload_n 0, 1) := by decide +kernel
theorem d_Ch_readAll_113 : decode b_Ch_readAll 113 = .ok (.getfield 42, 3) := by decide +kernel
theorem d_Ch_readAll_116 : decode b_Ch_readAll 116 = .ok (.iload_n 2, 1) := by decide +kernel
theorem d_Ch_readAll_117 : decode b_Ch_readAll 117 = .ok (.iconst 1, 1) := by decide +kernel
theorem d_Ch_readAll_118 : decode b_Ch_readAll 118 = .ok (.isub, 1) := by decide +kernel
theorem d_Ch_readAll_119 : decode b_Ch_readAll 119 = .ok (.dup2, 1) := by decide +kernel
theorem d_Ch_readAll_120 : decode b_Ch_readAll 120 = .ok (.iaload, 1) := by decide +kernel
theorem d_Ch_readAll_121 : decode b_Ch_readAll 121 = .ok (.iconst 1, 1) := by decide +kernel
theorem d_Ch_readAll_122 : decode b_Ch_readAll 122 = .ok (.isub, 1) := by decide +kernel
theorem d_Ch_readAll_123 : decode b_Ch_readAll 123 = .ok (.iastore, 1) := by decide +kernel
theorem d_Ch_readAll_124 : decode b_Ch_readAll 124 = .ok (.aload_n 0, 1) := by decide +kernel
theorem d_Ch_readAll_125 : decode b_Ch_readAll 125 = .ok (.getfield 39, 3) := by decide +kernel
theorem d_Ch_readAll_128 : decode b_Ch_readAll 128 = .ok (.iload_n 2, 1) := by decide +kernel
theorem d_Ch_readAll_129 : decode b_Ch_readAll 129 = .ok (.iload_n 3, 1) := by decide +kernel
theorem d_Ch_readAll_130 : decode b_Ch_readAll 130 = .ok (.iastore, 1) := by decide +kernel
theorem d_Ch_readAll_131 : decode b_Ch_readAll 131 = .ok (.aload_n 0, 1) := by decide +kernel
theorem d_Ch_readAll_132 : decode b_Ch_readAll 132 = .ok (.getfield 42, 3) := by decide +kernel
theorem d_Ch_readAll_135 : decode b_Ch_readAll 135 = .ok (.iload_n 2, 1) := by decide +kernel
theorem d_Ch_readAll_136 : decode b_Ch_readAll 136 = .ok (.aload_n 0, 1) := by decide +kernel
theorem d_Ch_readAll_137 : decode b_Ch_readAll 137 = .ok (.getfield 11, 3) := by decide +kernel
theorem d_Ch_readAll_140 : decode b_Ch_readAll 140 = .ok (.iload_n 3, 1) := by decide +kernel
theorem d_Ch_readAll_141 : decode b_Ch_readAll 141 = .ok (.aaload, 1) := by decide +kernel
theorem d_Ch_readAll_142 : decode b_Ch_readAll 142 = .ok (.getfield 70, 3) := by decide +kernel
theorem d_Ch_readAll_145 : decode b_Ch_readAll 145 = .ok (.iastore, 1) := by decide +kernel
theorem d_Ch_readAll_146 : decode b_Ch_readAll 146 = .ok (.iinc 2 1, 3) := by decide +kernel
theorem d_Ch_readAll_149 : decode b_Ch_readAll 149 = .ok (.iinc 3 1, 3) := by decide +kernel
theorem d_Ch_readAll_152 : decode b_Ch_readAll 152 = .ok (.goto (-143), 3) := by decide +kernel
theorem d_Ch_readAll_155 : decode b_Ch_readAll 155 = .ok (.iconst 0, 1) := by decide +kernel
theorem d_Ch_readAll_156 : decode b_Ch_readAll 156 = .ok (.ireturn, 1) := by decide +kernel
theorem kw_166 : Cond.methodLink R_Ch 49 y_Ch_begin ∈ wA := kinm (show _ ∈ tables_1 from (List.mem_append_right _ (List.mem_append_right _ (List.mem_append_left _ (List.mem_of_getElem? (l := tables_1_3) (i := 110) (by decide +kernel)))))) (by decide +kernel)
theorem kw_167 : Cond.instanceMethod y_Ch_begin ∈ wA := kinm (show _ ∈ tables_1 from (List.mem_append_right _ (List.mem_append_right _ (List.mem_append_left _ (List.mem_of_getElem? (l := tables_1_3) (i := 112) (by decide +kernel)))))) (by decide +kernel)
theorem kw_168 : Cond.selects R_Ch y_Ch_begin y_Ch_begin ∈ wA := kinp 2 (by decide +kernel) (by decide +kernel)
theorem kw_169 : Cond.methodLink R_Ch 53 y_Ch_withoutFullOnes ∈ wA := kinm (show _ ∈ tables_1 from (List.mem_append_right _ (List.mem_append_right _ (List.mem_append_left _ (List.mem_of_getElem? (l := tables_1_3) (i := 114) (by decide +kernel)))))) (by decide +kernel)
theorem kw_170 : Cond.instanceMethod y_Ch_withoutFullOnes ∈ wA := kinm (show _ ∈ tables_1 from (List.mem_append_right _ (List.mem_append_right _ (List.mem_append_left _ (List.mem_of_getElem? (l := tables_1_3) (i := 116) (by decide +kernel)))))) (by decide +kernel)
theorem kw_171 : Cond.selects R_Ch y_Ch_withoutFullOnes y_Ch_withoutFullOnes ∈ wA := kinp 3 (by decide +kernel) (by decide +kernel)
theorem kw_172 : Cond.methodLink R_Ch 67 y_Ch_readPrototype ∈ wA := kinm (show _ ∈ tables_1 from (List.mem_append_right _ (List.mem_append_right _ (List.mem_append_left _ (List.mem_of_getElem? (l := tables_1_3) (i := 122) (by decide +kernel)))))) (by decide +kernel)
theorem kw_173 : Cond.instanceMethod y_Ch_readPrototype ∈ wA := kinm (show _ ∈ tables_1 from (List.mem_append_right _ (List.mem_append_right _ (List.mem_append_left _ (List.mem_of_getElem? (l := tables_1_3) (i := 124) (by decide +kernel)))))) (by decide +kernel)
theorem kw_174 : Cond.selects R_Ch y_Ch_readPrototype y_Ch_readPrototype ∈ wA := kinp 5 (by decide +kernel) (by decide +kernel)
abbrev b_LM_load : ByteArray := prog_1_method_5_code
def y_LM_load : MethodName := ⟨R_LM, "load", "()I"⟩
abbrev w_LM_load : List Cond := .code y_LM_load b_LM_load 2 (some .int) :: wA
theorem k_LM_load : Cond.code y_LM_load b_LM_load 2 (some .int) ∈ wA := kinm (show _ ∈ tables_1 from (List.mem_append_right _ (List.mem_append_right _ (List.mem_append_left _ (List.mem_of_getElem? (l := tables_1_3) (i := 105) (by decide +kernel)))))) (by decide +kernel)
theorem d_LM_load_0 : decode b_LM_load 0 = .ok (.aload_n 0, 1) := by decide +kernel
theorem d_LM_load_1 : decode b_LM_load 1 = .ok (.getfield 58, 3) := by decide +kernel
theorem d_LM_load_4 : decode b_LM_load 4 = .ok (.istore_n 1, 1) := by decide +kernel
theorem d_LM_load_5 : decode b_LM_load 5 = .ok (.aload_n 0, 1) := by decide +kernel
theorem d_LM_load_6 : decode b_LM_load 6 = .ok (.iconst 0, 1) := by decide +kernel
theorem d_LM_load_7 : decode b_LM_load 7 = .ok (.putfield 58, 3) := by decide +kernel
theorem d_LM_load_10 : decode b_LM_load 10 = .ok (.aload_n 0, 1) := by decide +kernel
theorem d_LM_load_11 : decode b_LM_load 11 = .ok (.iconst 0, 1) := by decide +kernel
theorem d_LM_load_12 : decode b_LM_load 12 = .ok (.putfield 77, 3) := by decide +kernel
theorem d_LM_load_15 : decode b_LM_load 15 = .ok (.aload_n 0, 1) := by decide +kernel
theorem d_LM_load_16 : decode b_LM_load 16 = .ok (.getfield 10, 3) := by decide +kernel
theorem d_LM_load_19 : decode b_LM_load 19 = .ok (.iload_n 1, 1) := by decide +kernel
theorem d_LM_load_20 : decode b_LM_load 20 = .ok (.invokevirtual 81, 3) := by decide +kernel
theorem d_LM_load_23 : decode b_LM_load 23 = .ok (.ifCond .eq 13, 3) := by decide +kernel
theorem d_LM_load_26 : decode b_LM_load 26 = .ok (.aload_n 0, 1) := by decide +kernel
theorem d_LM_load_27 : decode b_LM_load 27 = .ok (.getfield 10, 3) := by decide +kernel
theorem d_LM_load_30 : decode b_LM_load 30 = .ok (.invokevirtual 85, 3) := by decide +kernel
theorem d_LM_load_33 : decode b_LM_load 33 = .ok (.ifCond .ne 11, 3) := by decide +kernel
theorem d_LM_load_36 : decode b_LM_load 36 = .ok (.new 89, 3) := by decide +kernel
theorem d_LM_load_39 : decode b_LM_load 39 = .ok (.dup, 1) := by decide +kernel
theorem d_LM_load_40 : decode b_LM_load 40 = .ok (.invokespecial 91, 3) := by decide +kernel
theorem d_LM_load_43 : decode b_LM_load 43 = .ok (.athrow, 1) := by decide +kernel
theorem d_LM_load_44 : decode b_LM_load 44 = .ok (.aload_n 0, 1) := by decide +kernel
theorem d_LM_load_45 : decode b_LM_load 45 = .ok (.getfield 54, 3) := by decide +kernel
theorem d_LM_load_48 : decode b_LM_load 48 = .ok (.iconst 0, 1) := by decide +kernel
theorem d_LM_load_49 : decode b_LM_load 49 = .ok (.putfield 92, 3) := by decide +kernel
theorem d_LM_load_52 : decode b_LM_load 52 = .ok (.aload_n 0, 1) := by decide +kernel
theorem d_LM_load_53 : decode b_LM_load 53 = .ok (.getfield 33, 3) := by decide +kernel
theorem d_LM_load_56 : decode b_LM_load 56 = .ok (.invokevirtual 95, 3) := by decide +kernel
theorem d_LM_load_59 : decode b_LM_load 59 = .ok (.ifCond .ne 11, 3) := by decide +kernel
theorem d_LM_load_62 : decode b_LM_load 62 = .ok (.new 63, 3) := by decide +kernel
theorem d_LM_load_65 : decode b_LM_load 65 = .ok (.dup, 1) := by decide +kernel
theorem d_LM_load_66 : decode b_LM_load 66 = .ok (.invokespecial 65, 3) := by decide +kernel
theorem d_LM_load_69 : decode b_LM_load 69 = .ok (.athrow, 1) := by decide +kernel
theorem d_LM_load_70 : decode b_LM_load 70 = .ok (.aload_n 0, 1) := by decide +kernel
theorem d_LM_load_71 : decode b_LM_load 71 = .ok (.iconst 1, 1) := by decide +kernel
theorem d_LM_load_72 : decode b_LM_load 72 = .ok (.putfield 77, 3) := by decide +kernel
theorem d_LM_load_75 : decode b_LM_load 75 = .ok (.aload_n 0, 1) := by decide +kernel
theorem d_LM_load_76 : decode b_LM_load 76 = .ok (.getfield 10, 3) := by decide +kernel
theorem d_LM_load_79 : decode b_LM_load 79 = .ok (.getfield 98, 3) := by decide +kernel
theorem d_LM_load_82 : decode b_LM_load 82 = .ok (.ireturn, 1) := by decide +kernel
theorem kw_175 : Cond.methodLink R_LM 81 y_Ch_readAll ∈ wA := kinm (show _ ∈ tables_1 from (List.mem_append_right _ (List.mem_append_right _ (List.mem_append_left _ (List.mem_of_getElem? (l := tables_1_3) (i := 106) (by decide +kernel)))))) (by decide +kernel)
theorem kw_176 : Cond.instanceMethod y_Ch_readAll ∈ wA := kinm (show _ ∈ tables_1 from (List.mem_append_right _ (List.mem_append_right _ (List.mem_append_left _ (List.mem_of_getElem? (l := tables_1_3) (i := 107) (by decide +kernel)))))) (by decide +kernel)
theorem kw_177 : Cond.selects R_Ch y_Ch_readAll y_Ch_readAll ∈ wA := kinm (show _ ∈ tables_1 from (List.mem_append_right _ (List.mem_append_right _ (List.mem_append_left _ (List.mem_of_getElem? (l := tables_1_3) (i := 108) (by decide +kernel)))))) (by decide +kernel)
theorem kw_178 : Cond.classLink R_LM 89 "java/lang/UnsupportedOperationException" ∈ wA := kinm (show _ ∈ tables_1 from (List.mem_append_right _ (List.mem_append_right _ (List.mem_append_right _ (List.mem_append_left _ (List.mem_of_getElem? (l := tables_1_4) (i := 55) (by decide +kernel))))))) (by decide +kernel)
theorem kw_179 : Cond.initialized "java/lang/UnsupportedOperationException" ∈ wA := kinm (show _ ∈ tables_1 from (List.mem_append_left _ (List.mem_of_getElem? (l := tables_1_1) (i := 23) (by decide +kernel)))) (by decide +kernel)
theorem kw_180 : Cond.instantiable "java/lang/UnsupportedOperationException" 6 ∈ wA := kinm (show _ ∈ tables_1 from (List.mem_append_right _ (List.mem_append_right _ (List.mem_append_right _ (List.mem_append_left _ (List.mem_of_getElem? (l := tables_1_4) (i := 56) (by decide +kernel))))))) (by decide +kernel)
set_option maxRecDepth 20000 in
theorem xo_UnsupportedOperationException : ∀ w ∈ (Bundle.ownAtoms0 R_LM 91 "java/lang/UnsupportedOperationException" ["java/lang/RuntimeException", "java/lang/Exception"]).filter goodWord, w ∈ wA := by decide +kernel
set_option maxRecDepth 20000 in
theorem xn_UnsupportedOperationException : ∀ w ∈ (Bundle.ownAtoms0 R_LM 91 "java/lang/UnsupportedOperationException" ["java/lang/RuntimeException", "java/lang/Exception"]).filter (fun w => !goodWord w), w ∈ xFour ∨ (w ∈ xW ∧ w.onTables = true) := by decide +kernel
set_option maxHeartbeats 4000000 in
set_option maxRecDepth 100000 in
theorem c_Pr_init (l : Launch) (dC : Nat → ClassId) (dI : Nat → Nat → Nat) (h0 : Nat) (sz : Nat) : Met l y_Pr_init w_Pr_init ({ frames := 1, cells := 0, slots := 0, locals := 12 }) (va_Pc [.ref h0] (fun U => U.heap.size = sz ∧ va_P (dC, dI) vwCl [(h0, .inr (8, [.int 0, .int 0, .int 0, .int 0, .int 0, .int 0, .int 0, .int 0, .int 0, .int 0, .int 0, .int 0, .int 0]))] U.heap ∧ va_K (dC, dI) vwCl [] U ∧ va_D (fun _ => True) [(h0, .inr (8, [.int 0, .int 0, .int 0, .int 0, .int 0, .int 0, .int 0, .int 0, .int 0, .int 0, .int 0, .int 0, .int 0]))] ∧ xB U ∧ xZ (va_A [(h0, .inr (8, [.int 0, .int 0, .int 0, .int 0, .int 0, .int 0, .int 0, .int 0, .int 0, .int 0, .int 0, .int 0, .int 0]))] sz) U U.heap)) (va_Qv (fun (_ : Unit) => True) (fun _ t => va_P (dC, dI) vwCl [(h0, .inr (8, [.int 0, .int 0, .int 0, .int 0, .int 0, .int 0, .int 0, .int 0, .int 0, .int 0, .int 0, .int 0, .int 0]))] t.heap ∧ va_K (dC, dI) vwCl [] t ∧ va_D (va_A [(h0, .inr (8, [.int 0, .int 0, .int 0, .int 0, .int 0, .int 0, .int 0, .int 0, .int 0, .int 0, .int 0, .int 0, .int 0]))] sz) [(h0, .inr (8, [.int 0, .int 0, .int 0, .int 0, .int 0, .int 0, .int 0, .int 0, .int 0, .int 0, .int 0, .int 0, .int 0]))]) (va_A [(h0, .inr (8, [.int 0, .int 0, .int 0, .int 0, .int 0, .int 0, .int 0, .int 0, .int 0, .int 0, .int 0, .int 0, .int 0]))] sz)) 0 0 (va_A [(h0, .inr (8, [.int 0, .int 0, .int 0, .int 0, .int 0, .int 0, .int 0, .int 0, .int 0, .int 0, .int 0, .int 0, .int 0]))] sz) := by
  refine Met.ofW (cc := b_Pr_init) (maxL := 1) (ret := none) (by decide) rfl ?_
  intro p e s m args below meth c s₁ B hml hv
  obtain ⟨rfl, hsz, hP, hK, hD0, hB, hZ⟩ := hv
  have hx := B.exec
  have hb := B.bytes
  have hr := B.returns
  have hts := atoms_spec (ws := w_Pr_init) B.pre
  have hown : s.vm.findClass R_Pr = some m.cls := findClass_of_methodNamed B.named
  have hlocks := B.notSynchronized
  have hin : meth.name = "<init>" := (name_of_methodNamed B.named B.method).1
  subst hsz
  have hD := hD0.self (sz := s.heap.size)
  generalize hAe : va_A [(h0, .inr (8, [.int 0, .int 0, .int 0, .int 0, .int 0, .int 0, .int 0, .int 0, .int 0, .int 0, .int 0, .int 0, .int 0]))] s.heap.size = A at hD hZ ⊢
  have hA : ∀ q : Nat, s.heap.size ≤ q → A q := fun q h => by rw [← hAe]; exact Or.inr h
  have hS : va_S A s.heap s.heap [] := va_S.rf
  have hl := lv_entry ([.ref h0]) (n := 1) (Nat.le_of_ble_eq_true rfl)
  rw [lg_entry_eq]
  generalize (lg_sl ([.ref h0]) ++ List.replicate (1 - (lg_sl ([.ref h0])).length) Slot.unset).toArray = ls at hl ⊢
  have hl : lv_has ls 1 [(0, .ref h0)] := hl
  have hP : va_P (dC, dI) vwCl [(h0, .inr (8, [.int 0, .int 0, .int 0, .int 0, .int 0, .int 0, .int 0, .int 0, .int 0, .int 0, .int 0, .int 0, .int 0]))] s.heap := hP
  have hD : va_D A [(h0, .inr (8, [.int 0, .int 0, .int 0, .int 0, .int 0, .int 0, .int 0, .int 0, .int 0, .int 0, .int 0, .int 0, .int 0]))] := hD
  refine lv_aload_n hx hb d_Pr_init_0 rfl (lv_at hl 0 rfl) ?_
  refine W.objInit hx hb hown (hts (.methodLink R_Pr 1 objectInit) (List.mem_cons_of_mem _ kw_143)) (hts (.instanceMethod objectInit) (List.mem_cons_of_mem _ kw_1)) (hts (.code objectInit ⟨#[0xb1]⟩ 1 none) (List.mem_cons_of_mem _ kw_2)) rfl (by rw [hml]; exact hl.1) rfl d_Pr_init_1 (Nat.le_of_ble_eq_true rfl) (Nat.le_of_ble_eq_true rfl) ?_
  refine W.eq (g2 := F0 m 4 ls []) rfl ?_
  have hP9 := hP.sub (ws' := [(h0, .inr (8, [.int 0, .int 0, .int 0, .int 0, .int 0, .int 0, .int 0, .int 0, .int 0, .int 0, .int 0, .int 0, .int 0]))]) [0] rfl
  have hD9 := hD.sub (ws' := [(h0, .inr (8, [.int 0, .int 0, .int 0, .int 0, .int 0, .int 0, .int 0, .int 0, .int 0, .int 0, .int 0, .int 0, .int 0]))]) [0] (by decide) rfl
  have hK9 := hK.sub (tys' := []) [] rfl
  refine W.widen (k := 0) (n := 0) (Nat.le_of_ble_eq_true rfl) (Nat.le_of_ble_eq_true rfl) ?_
  exact W.vret hx hb hr (fun t ht hW => ⟨⟨(), rfl, trivial, by rw [ht]; exact hP9, va_K.moved hW.alike hK9, hD9⟩, hS.F ht⟩) hS.2.2 d_Pr_init_4

set_option maxHeartbeats 4000000 in
set_option maxRecDepth 100000 in
theorem c_Ch_begin (l : Launch) (dC : Nat → ClassId) (dI : Nat → Nat → Nat) (h0 : Nat) (h0_prototypes : Nat) (h0_children : Nat) (h0_code : Nat) (h0_constantKinds : Nat) (h0_constantValues : Nat) (h0_upvalues : Nat) (h0_tape : Nat) (h0_open : Nat) (h0_left : Nat) (h0_prototypeCount : Int32) (h0_constantCount : Int32) (h0_codeCount : Int32) (h0_upvalueCount : Int32) (h0_length : Int32) (h0_at : Int32) (h0_faultFound : Int32) (h0_faultPlace : Int32) (n : Int32) (sz : Nat) : Met l y_Ch_begin w_Ch_begin ({ frames := 0, cells := 0, slots := 0, locals := 0 }) (va_Pc [.ref h0, .int n] (fun U => U.heap.size = sz ∧ va_P (dC, dI) vwCl [(h0, .inr (1, [.ref h0_prototypes, .ref h0_children, .ref h0_code, .ref h0_constantKinds, .ref h0_constantValues, .ref h0_upvalues, .ref h0_tape, .ref h0_open, .ref h0_left, .int h0_prototypeCount, .int h0_constantCount, .int h0_codeCount, .int h0_upvalueCount, .int h0_length, .int h0_at, .int h0_faultFound, .int h0_faultPlace]))] U.heap ∧ va_K (dC, dI) vwCl [] U ∧ va_D (fun _ => True) [(h0, .inr (1, [.ref h0_prototypes, .ref h0_children, .ref h0_code, .ref h0_constantKinds, .ref h0_constantValues, .ref h0_upvalues, .ref h0_tape, .ref h0_open, .ref h0_left, .int h0_prototypeCount, .int h0_constantCount, .int h0_codeCount, .int h0_upvalueCount, .int h0_length, .int h0_at, .int h0_faultFound, .int h0_faultPlace]))] ∧ xB U ∧ xZ (va_A [(h0, .inr (1, [.ref h0_prototypes, .ref h0_children, .ref h0_code, .ref h0_constantKinds, .ref h0_constantValues, .ref h0_upvalues, .ref h0_tape, .ref h0_open, .ref h0_left, .int h0_prototypeCount, .int h0_constantCount, .int h0_codeCount, .int h0_upvalueCount, .int h0_length, .int h0_at, .int h0_faultFound, .int h0_faultPlace]))] sz) U U.heap)) (va_Qv (fun (_ : Unit) => True) (fun _ t => va_P (dC, dI) vwCl [(h0, .inr (1, [.ref h0_prototypes, .ref h0_children, .ref h0_code, .ref h0_constantKinds, .ref h0_constantValues, .ref h0_upvalues, .ref h0_tape, .ref h0_open, .ref h0_left, .int 0, .int 0, .int 0, .int 0, .int n, .int 0, .int 0, .int (-1)]))] t.heap ∧ va_K (dC, dI) vwCl [] t ∧ va_D (va_A [(h0, .inr (1, [.ref h0_prototypes, .ref h0_children, .ref h0_code, .ref h0_constantKinds, .ref h0_constantValues, .ref h0_upvalues, .ref h0_tape, .ref h0_open, .ref h0_left, .int h0_prototypeCount, .int h0_constantCount, .int h0_codeCount, .int h0_upvalueCount, .int h0_length, .int h0_at, .int h0_faultFound, .int h0_faultPlace]))] sz) [(h0, .inr (1, [.ref h0_prototypes, .ref h0_children, .ref h0_code, .ref h0_constantKinds, .ref h0_constantValues, .ref h0_upvalues, .ref h0_tape, .ref h0_open, .ref h0_left, .int 0, .int 0, .int 0, .int 0, .int n, .int 0, .int 0, .int (-1)]))]) (va_A [(h0, .inr (1, [.ref h0_prototypes, .ref h0_children, .ref h0_code, .ref h0_constantKinds, .ref h0_constantValues, .ref h0_upvalues, .ref h0_tape, .ref h0_open, .ref h0_left, .int h0_prototypeCount, .int h0_constantCount, .int h0_codeCount, .int h0_upvalueCount, .int h0_length, .int h0_at, .int h0_faultFound, .int h0_faultPlace]))] sz)) 0 0 (va_A [(h0, .inr (1, [.ref h0_prototypes, .ref h0_children, .ref h0_code, .ref h0_constantKinds, .ref h0_constantValues, .ref h0_upvalues, .ref h0_tape, .ref h0_open, .ref h0_left, .int h0_prototypeCount, .int h0_constantCount, .int h0_codeCount, .int h0_upvalueCount, .int h0_length, .int h0_at, .int h0_faultFound, .int h0_faultPlace]))] sz) := by
  refine Met.ofW (cc := b_Ch_begin) (maxL := 2) (ret := none) (by decide) rfl ?_
  intro p e s m args below meth c s₁ B hml hv
  obtain ⟨rfl, hsz, hP, hK, hD0, hB, hZ⟩ := hv
  have hx := B.exec
  have hb := B.bytes
  have hr := B.returns
  have hts := atoms_spec (ws := w_Ch_begin) B.pre
  have hown : s.vm.findClass R_Ch = some m.cls := findClass_of_methodNamed B.named
  have hlocks := B.notSynchronized
  subst hsz
  have hD := hD0.self (sz := s.heap.size)
  generalize hAe : va_A [(h0, .inr (1, [.ref h0_prototypes, .ref h0_children, .ref h0_code, .ref h0_constantKinds, .ref h0_constantValues, .ref h0_upvalues, .ref h0_tape, .ref h0_open, .ref h0_left, .int h0_prototypeCount, .int h0_constantCount, .int h0_codeCount, .int h0_upvalueCount, .int h0_length, .int h0_at, .int h0_faultFound, .int h0_faultPlace]))] s.heap.size = A at hD hZ ⊢
  have hA : ∀ q : Nat, s.heap.size ≤ q → A q := fun q h => by rw [← hAe]; exact Or.inr h
  have hS : va_S A s.heap s.heap [] := va_S.rf
  have hl := lv_entry ([.ref h0, .int n]) (n := 2) (Nat.le_of_ble_eq_true rfl)
  rw [lg_entry_eq]
  generalize (lg_sl ([.ref h0, .int n]) ++ List.replicate (2 - (lg_sl ([.ref h0, .int n])).length) Slot.unset).toArray = ls at hl ⊢
  have hl : lv_has ls 2 [(0, .ref h0), (1, .int n)] := hl
  have hP : va_P (dC, dI) vwCl [(h0, .inr (1, [.ref h0_prototypes, .ref h0_children, .ref h0_code, .ref h0_constantKinds, .ref h0_constantValues, .ref h0_upvalues, .ref h0_tape, .ref h0_open, .ref h0_left, .int h0_prototypeCount, .int h0_constantCount, .int h0_codeCount, .int h0_upvalueCount, .int h0_length, .int h0_at, .int h0_faultFound, .int h0_faultPlace]))] s.heap := hP
  have hD : va_D A [(h0, .inr (1, [.ref h0_prototypes, .ref h0_children, .ref h0_code, .ref h0_constantKinds, .ref h0_constantValues, .ref h0_upvalues, .ref h0_tape, .ref h0_open, .ref h0_left, .int h0_prototypeCount, .int h0_constantCount, .int h0_codeCount, .int h0_upvalueCount, .int h0_length, .int h0_at, .int h0_faultFound, .int h0_faultPlace]))] := hD
  refine lv_aload_n hx hb d_Ch_begin_0 rfl (lv_at hl 0 rfl) ?_
  refine lv_iload_n hx hb d_Ch_begin_1 rfl (lv_at hl 1 rfl) ?_
  refine va_put (D := (dC, dI)) (ci := 1) (v := .int n) (ty := .int) (C := R_Ch) (T := TCh) (N := 17) hx hb hts (fun w h => List.mem_cons_of_mem _ (ic_Ch w h)) tyCh tyCh_ok nmCh hown hK hP hD hS 0 rfl rfl 13 (by decide) (hts (.fieldLink R_Ch 60 "LuaMachine$Chunk" "length" "I") (List.mem_cons_of_mem _ kw_144)) (fun _ h9 => h9) rfl (tyCh_ok 13 (by decide)) rfl rfl (Nat.le_of_ble_eq_true rfl) d_Ch_begin_2 (fun H locs hP hD hS => ?_)
  have hP : va_P (dC, dI) vwCl [(h0, .inr (1, [.ref h0_prototypes, .ref h0_children, .ref h0_code, .ref h0_constantKinds, .ref h0_constantValues, .ref h0_upvalues, .ref h0_tape, .ref h0_open, .ref h0_left, .int h0_prototypeCount, .int h0_constantCount, .int h0_codeCount, .int h0_upvalueCount, .int n, .int h0_at, .int h0_faultFound, .int h0_faultPlace]))] H := hP
  have hD : va_D A [(h0, .inr (1, [.ref h0_prototypes, .ref h0_children, .ref h0_code, .ref h0_constantKinds, .ref h0_constantValues, .ref h0_upvalues, .ref h0_tape, .ref h0_open, .ref h0_left, .int h0_prototypeCount, .int h0_constantCount, .int h0_codeCount, .int h0_upvalueCount, .int n, .int h0_at, .int h0_faultFound, .int h0_faultPlace]))] := hD
  refine lv_aload_n hx hb d_Ch_begin_5 rfl (lv_at hl 0 rfl) ?_
  refine lv_iconst (v := 0) hx hb d_Ch_begin_6 (by decide) ?_
  refine va_put (D := (dC, dI)) (ci := 1) (v := .int 0) (ty := .int) (C := R_Ch) (T := TCh) (N := 17) hx hb hts (fun w h => List.mem_cons_of_mem _ (ic_Ch w h)) tyCh tyCh_ok nmCh hown hK hP hD hS 0 rfl rfl 14 (by decide) (hts (.fieldLink R_Ch 57 "LuaMachine$Chunk" "at" "I") (List.mem_cons_of_mem _ kw_145)) (fun _ h9 => h9) rfl (tyCh_ok 14 (by decide)) rfl rfl (Nat.le_of_ble_eq_true rfl) d_Ch_begin_7 (fun H locs hP hD hS => ?_)
  have hP : va_P (dC, dI) vwCl [(h0, .inr (1, [.ref h0_prototypes, .ref h0_children, .ref h0_code, .ref h0_constantKinds, .ref h0_constantValues, .ref h0_upvalues, .ref h0_tape, .ref h0_open, .ref h0_left, .int h0_prototypeCount, .int h0_constantCount, .int h0_codeCount, .int h0_upvalueCount, .int n, .int 0, .int h0_faultFound, .int h0_faultPlace]))] H := hP
  have hD : va_D A [(h0, .inr (1, [.ref h0_prototypes, .ref h0_children, .ref h0_code, .ref h0_constantKinds, .ref h0_constantValues, .ref h0_upvalues, .ref h0_tape, .ref h0_open, .ref h0_left, .int h0_prototypeCount, .int h0_constantCount, .int h0_codeCount, .int h0_upvalueCount, .int n, .int 0, .int h0_faultFound, .int h0_faultPlace]))] := hD
  refine lv_aload_n hx hb d_Ch_begin_10 rfl (lv_at hl 0 rfl) ?_
  refine lv_iconst (v := 0) hx hb d_Ch_begin_11 (by decide) ?_
  refine va_put (D := (dC, dI)) (ci := 1) (v := .int 0) (ty := .int) (C := R_Ch) (T := TCh) (N := 17) hx hb hts (fun w h => List.mem_cons_of_mem _ (ic_Ch w h)) tyCh tyCh_ok nmCh hown hK hP hD hS 0 rfl rfl 15 (by decide) (hts (.fieldLink R_Ch 72 "LuaMachine$Chunk" "faultFound" "I") (List.mem_cons_of_mem _ kw_146)) (fun _ h9 => h9) rfl (tyCh_ok 15 (by decide)) rfl rfl (Nat.le_of_ble_eq_true rfl) d_Ch_begin_12 (fun H locs hP hD hS => ?_)
  have hP : va_P (dC, dI) vwCl [(h0, .inr (1, [.ref h0_prototypes, .ref h0_children, .ref h0_code, .ref h0_constantKinds, .ref h0_constantValues, .ref h0_upvalues, .ref h0_tape, .ref h0_open, .ref h0_left, .int h0_prototypeCount, .int h0_constantCount, .int h0_codeCount, .int h0_upvalueCount, .int n, .int 0, .int 0, .int h0_faultPlace]))] H := hP
  have hD : va_D A [(h0, .inr (1, [.ref h0_prototypes, .ref h0_children, .ref h0_code, .ref h0_constantKinds, .ref h0_constantValues, .ref h0_upvalues, .ref h0_tape, .ref h0_open, .ref h0_left, .int h0_prototypeCount, .int h0_constantCount, .int h0_codeCount, .int h0_upvalueCount, .int n, .int 0, .int 0, .int h0_faultPlace]))] := hD
  refine lv_aload_n hx hb d_Ch_begin_15 rfl (lv_at hl 0 rfl) ?_
  refine lv_iconst (v := (-1)) hx hb d_Ch_begin_16 (by decide) ?_
  refine va_put (D := (dC, dI)) (ci := 1) (v := .int (-1)) (ty := .int) (C := R_Ch) (T := TCh) (N := 17) hx hb hts (fun w h => List.mem_cons_of_mem _ (ic_Ch w h)) tyCh tyCh_ok nmCh hown hK hP hD hS 0 rfl rfl 16 (by decide) (hts (.fieldLink R_Ch 45 "LuaMachine$Chunk" "faultPlace" "I") (List.mem_cons_of_mem _ kw_18)) (fun _ h9 => h9) rfl (tyCh_ok 16 (by decide)) rfl rfl (Nat.le_of_ble_eq_true rfl) d_Ch_begin_17 (fun H locs hP hD hS => ?_)
  have hP : va_P (dC, dI) vwCl [(h0, .inr (1, [.ref h0_prototypes, .ref h0_children, .ref h0_code, .ref h0_constantKinds, .ref h0_constantValues, .ref h0_upvalues, .ref h0_tape, .ref h0_open, .ref h0_left, .int h0_prototypeCount, .int h0_constantCount, .int h0_codeCount, .int h0_upvalueCount, .int n, .int 0, .int 0, .int (-1)]))] H := hP
  have hD : va_D A [(h0, .inr (1, [.ref h0_prototypes, .ref h0_children, .ref h0_code, .ref h0_constantKinds, .ref h0_constantValues, .ref h0_upvalues, .ref h0_tape, .ref h0_open, .ref h0_left, .int h0_prototypeCount, .int h0_constantCount, .int h0_codeCount, .int h0_upvalueCount, .int n, .int 0, .int 0, .int (-1)]))] := hD
  refine lv_aload_n hx hb d_Ch_begin_20 rfl (lv_at hl 0 rfl) ?_
  refine lv_iconst (v := 0) hx hb d_Ch_begin_21 (by decide) ?_
  refine va_put (D := (dC, dI)) (ci := 1) (v := .int 0) (ty := .int) (C := R_Ch) (T := TCh) (N := 17) hx hb hts (fun w h => List.mem_cons_of_mem _ (ic_Ch w h)) tyCh tyCh_ok nmCh hown hK hP hD hS 0 rfl rfl 9 (by decide) (hts (.fieldLink R_Ch 75 "LuaMachine$Chunk" "prototypeCount" "I") (List.mem_cons_of_mem _ kw_147)) (fun _ h9 => h9) rfl (tyCh_ok 9 (by decide)) rfl rfl (Nat.le_of_ble_eq_true rfl) d_Ch_begin_22 (fun H locs hP hD hS => ?_)
  have hP : va_P (dC, dI) vwCl [(h0, .inr (1, [.ref h0_prototypes, .ref h0_children, .ref h0_code, .ref h0_constantKinds, .ref h0_constantValues, .ref h0_upvalues, .ref h0_tape, .ref h0_open, .ref h0_left, .int 0, .int h0_constantCount, .int h0_codeCount, .int h0_upvalueCount, .int n, .int 0, .int 0, .int (-1)]))] H := hP
  have hD : va_D A [(h0, .inr (1, [.ref h0_prototypes, .ref h0_children, .ref h0_code, .ref h0_constantKinds, .ref h0_constantValues, .ref h0_upvalues, .ref h0_tape, .ref h0_open, .ref h0_left, .int 0, .int h0_constantCount, .int h0_codeCount, .int h0_upvalueCount, .int n, .int 0, .int 0, .int (-1)]))] := hD
  refine lv_aload_n hx hb d_Ch_begin_25 rfl (lv_at hl 0 rfl) ?_
  refine lv_iconst (v := 0) hx hb d_Ch_begin_26 (by decide) ?_
  refine va_put (D := (dC, dI)) (ci := 1) (v := .int 0) (ty := .int) (C := R_Ch) (T := TCh) (N := 17) hx hb hts (fun w h => List.mem_cons_of_mem _ (ic_Ch w h)) tyCh tyCh_ok nmCh hown hK hP hD hS 0 rfl rfl 10 (by decide) (hts (.fieldLink R_Ch 78 "LuaMachine$Chunk" "constantCount" "I") (List.mem_cons_of_mem _ kw_148)) (fun _ h9 => h9) rfl (tyCh_ok 10 (by decide)) rfl rfl (Nat.le_of_ble_eq_true rfl) d_Ch_begin_27 (fun H locs hP hD hS => ?_)
  have hP : va_P (dC, dI) vwCl [(h0, .inr (1, [.ref h0_prototypes, .ref h0_children, .ref h0_code, .ref h0_constantKinds, .ref h0_constantValues, .ref h0_upvalues, .ref h0_tape, .ref h0_open, .ref h0_left, .int 0, .int 0, .int h0_codeCount, .int h0_upvalueCount, .int n, .int 0, .int 0, .int (-1)]))] H := hP
  have hD : va_D A [(h0, .inr (1, [.ref h0_prototypes, .ref h0_children, .ref h0_code, .ref h0_constantKinds, .ref h0_constantValues, .ref h0_upvalues, .ref h0_tape, .ref h0_open, .ref h0_left, .int 0, .int 0, .int h0_codeCount, .int h0_upvalueCount, .int n, .int 0, .int 0, .int (-1)]))] := hD
  refine lv_aload_n hx hb d_Ch_begin_30 rfl (lv_at hl 0 rfl) ?_
  refine lv_iconst (v := 0) hx hb d_Ch_begin_31 (by decide) ?_
  refine va_put (D := (dC, dI)) (ci := 1) (v := .int 0) (ty := .int) (C := R_Ch) (T := TCh) (N := 17) hx hb hts (fun w h => List.mem_cons_of_mem _ (ic_Ch w h)) tyCh tyCh_ok nmCh hown hK hP hD hS 0 rfl rfl 11 (by decide) (hts (.fieldLink R_Ch 81 "LuaMachine$Chunk" "codeCount" "I") (List.mem_cons_of_mem _ kw_149)) (fun _ h9 => h9) rfl (tyCh_ok 11 (by decide)) rfl rfl (Nat.le_of_ble_eq_true rfl) d_Ch_begin_32 (fun H locs hP hD hS => ?_)
  have hP : va_P (dC, dI) vwCl [(h0, .inr (1, [.ref h0_prototypes, .ref h0_children, .ref h0_code, .ref h0_constantKinds, .ref h0_constantValues, .ref h0_upvalues, .ref h0_tape, .ref h0_open, .ref h0_left, .int 0, .int 0, .int 0, .int h0_upvalueCount, .int n, .int 0, .int 0, .int (-1)]))] H := hP
  have hD : va_D A [(h0, .inr (1, [.ref h0_prototypes, .ref h0_children, .ref h0_code, .ref h0_constantKinds, .ref h0_constantValues, .ref h0_upvalues, .ref h0_tape, .ref h0_open, .ref h0_left, .int 0, .int 0, .int 0, .int h0_upvalueCount, .int n, .int 0, .int 0, .int (-1)]))] := hD
  refine lv_aload_n hx hb d_Ch_begin_35 rfl (lv_at hl 0 rfl) ?_
  refine lv_iconst (v := 0) hx hb d_Ch_begin_36 (by decide) ?_
  refine va_put (D := (dC, dI)) (ci := 1) (v := .int 0) (ty := .int) (C := R_Ch) (T := TCh) (N := 17) hx hb hts (fun w h => List.mem_cons_of_mem _ (ic_Ch w h)) tyCh tyCh_ok nmCh hown hK hP hD hS 0 rfl rfl 12 (by decide) (hts (.fieldLink R_Ch 84 "LuaMachine$Chunk" "upvalueCount" "I") (List.mem_cons_of_mem _ kw_150)) (fun _ h9 => h9) rfl (tyCh_ok 12 (by decide)) rfl rfl (Nat.le_of_ble_eq_true rfl) d_Ch_begin_37 (fun H locs hP hD hS => ?_)
  have hP : va_P (dC, dI) vwCl [(h0, .inr (1, [.ref h0_prototypes, .ref h0_children, .ref h0_code, .ref h0_constantKinds, .ref h0_constantValues, .ref h0_upvalues, .ref h0_tape, .ref h0_open, .ref h0_left, .int 0, .int 0, .int 0, .int 0, .int n, .int 0, .int 0, .int (-1)]))] H := hP
  have hD : va_D A [(h0, .inr (1, [.ref h0_prototypes, .ref h0_children, .ref h0_code, .ref h0_constantKinds, .ref h0_constantValues, .ref h0_upvalues, .ref h0_tape, .ref h0_open, .ref h0_left, .int 0, .int 0, .int 0, .int 0, .int n, .int 0, .int 0, .int (-1)]))] := hD
  have hP9 := hP.sub (ws' := [(h0, .inr (1, [.ref h0_prototypes, .ref h0_children, .ref h0_code, .ref h0_constantKinds, .ref h0_constantValues, .ref h0_upvalues, .ref h0_tape, .ref h0_open, .ref h0_left, .int 0, .int 0, .int 0, .int 0, .int n, .int 0, .int 0, .int (-1)]))]) [0] rfl
  have hD9 := hD.sub (ws' := [(h0, .inr (1, [.ref h0_prototypes, .ref h0_children, .ref h0_code, .ref h0_constantKinds, .ref h0_constantValues, .ref h0_upvalues, .ref h0_tape, .ref h0_open, .ref h0_left, .int 0, .int 0, .int 0, .int 0, .int n, .int 0, .int 0, .int (-1)]))]) [0] (by decide) rfl
  have hK9 := hK.sub (tys' := []) [] rfl
  refine W.widen (k := 0) (n := 0) (Nat.le_of_ble_eq_true rfl) (Nat.le_of_ble_eq_true rfl) ?_
  exact W.vret hx hb hr (fun t ht hW => ⟨⟨(), rfl, trivial, by rw [ht]; exact hP9, va_K.moved hW.alike hK9, hD9⟩, hS.F ht⟩) hS.2.2 d_Ch_begin_40

set_option maxHeartbeats 4000000 in
set_option maxRecDepth 100000 in
theorem c_Ch_withoutFullOnes (l : Launch) (dC : Nat → ClassId) (dI : Nat → Nat → Nat) (h0 : Nat) (h0_prototypes : Nat) (h0_children : Nat) (h0_code : Nat) (h0_constantKinds : Nat) (h0_constantValues : Nat) (h0_upvalues : Nat) (h0_tape : Nat) (h0_open : Nat) (h0_left : Nat) (h0_prototypeCount : Int32) (h0_constantCount : Int32) (h0_codeCount : Int32) (h0_upvalueCount : Int32) (h0_length : Int32) (h0_at : Int32) (h0_faultFound : Int32) (h0_faultPlace : Int32) (sz : Nat) : Met l y_Ch_withoutFullOnes w_Ch_withoutFullOnes ({ frames := 0, cells := 0, slots := 0, locals := 0 }) (va_Pc [.ref h0, .int 0] (fun U => U.heap.size = sz ∧ va_P (dC, dI) vwCl [(h0, .inr (1, [.ref h0_prototypes, .ref h0_children, .ref h0_code, .ref h0_constantKinds, .ref h0_constantValues, .ref h0_upvalues, .ref h0_tape, .ref h0_open, .ref h0_left, .int h0_prototypeCount, .int h0_constantCount, .int h0_codeCount, .int h0_upvalueCount, .int h0_length, .int h0_at, .int h0_faultFound, .int h0_faultPlace]))] U.heap ∧ va_K (dC, dI) vwCl [] U ∧ va_D (fun _ => True) [(h0, .inr (1, [.ref h0_prototypes, .ref h0_children, .ref h0_code, .ref h0_constantKinds, .ref h0_constantValues, .ref h0_upvalues, .ref h0_tape, .ref h0_open, .ref h0_left, .int h0_prototypeCount, .int h0_constantCount, .int h0_codeCount, .int h0_upvalueCount, .int h0_length, .int h0_at, .int h0_faultFound, .int h0_faultPlace]))] ∧ xB U ∧ xZ (va_A [(h0, .inr (1, [.ref h0_prototypes, .ref h0_children, .ref h0_code, .ref h0_constantKinds, .ref h0_constantValues, .ref h0_upvalues, .ref h0_tape, .ref h0_open, .ref h0_left, .int h0_prototypeCount, .int h0_constantCount, .int h0_codeCount, .int h0_upvalueCount, .int h0_length, .int h0_at, .int h0_faultFound, .int h0_faultPlace]))] sz) U U.heap)) (va_Qi (fun (r : Int32) (_ : Unit) => r = 0) (fun _ t => va_P (dC, dI) vwCl [(h0, .inr (1, [.ref h0_prototypes, .ref h0_children, .ref h0_code, .ref h0_constantKinds, .ref h0_constantValues, .ref h0_upvalues, .ref h0_tape, .ref h0_open, .ref h0_left, .int h0_prototypeCount, .int h0_constantCount, .int h0_codeCount, .int h0_upvalueCount, .int h0_length, .int h0_at, .int h0_faultFound, .int h0_faultPlace]))] t.heap ∧ va_K (dC, dI) vwCl [] t ∧ va_D (va_A [(h0, .inr (1, [.ref h0_prototypes, .ref h0_children, .ref h0_code, .ref h0_constantKinds, .ref h0_constantValues, .ref h0_upvalues, .ref h0_tape, .ref h0_open, .ref h0_left, .int h0_prototypeCount, .int h0_constantCount, .int h0_codeCount, .int h0_upvalueCount, .int h0_length, .int h0_at, .int h0_faultFound, .int h0_faultPlace]))] sz) [(h0, .inr (1, [.ref h0_prototypes, .ref h0_children, .ref h0_code, .ref h0_constantKinds, .ref h0_constantValues, .ref h0_upvalues, .ref h0_tape, .ref h0_open, .ref h0_left, .int h0_prototypeCount, .int h0_constantCount, .int h0_codeCount, .int h0_upvalueCount, .int h0_length, .int h0_at, .int h0_faultFound, .int h0_faultPlace]))]) (va_A [(h0, .inr (1, [.ref h0_prototypes, .ref h0_children, .ref h0_code, .ref h0_constantKinds, .ref h0_constantValues, .ref h0_upvalues, .ref h0_tape, .ref h0_open, .ref h0_left, .int h0_prototypeCount, .int h0_constantCount, .int h0_codeCount, .int h0_upvalueCount, .int h0_length, .int h0_at, .int h0_faultFound, .int h0_faultPlace]))] sz)) 0 0 (va_A [(h0, .inr (1, [.ref h0_prototypes, .ref h0_children, .ref h0_code, .ref h0_constantKinds, .ref h0_constantValues, .ref h0_upvalues, .ref h0_tape, .ref h0_open, .ref h0_left, .int h0_prototypeCount, .int h0_constantCount, .int h0_codeCount, .int h0_upvalueCount, .int h0_length, .int h0_at, .int h0_faultFound, .int h0_faultPlace]))] sz) := by
  refine Met.ofW (cc := b_Ch_withoutFullOnes) (maxL := 3) (ret := (some .int)) (by decide) rfl ?_
  intro p e s m args below meth c s₁ B hml hv
  obtain ⟨rfl, hsz, hP, hK, hD0, hB, hZ⟩ := hv
  have hx := B.exec
  have hb := B.bytes
  have hr := B.returns
  have hts := atoms_spec (ws := w_Ch_withoutFullOnes) B.pre
  have hown : s.vm.findClass R_Ch = some m.cls := findClass_of_methodNamed B.named
  have hlocks := B.notSynchronized
  subst hsz
  have hD := hD0.self (sz := s.heap.size)
  generalize hAe : va_A [(h0, .inr (1, [.ref h0_prototypes, .ref h0_children, .ref h0_code, .ref h0_constantKinds, .ref h0_constantValues, .ref h0_upvalues, .ref h0_tape, .ref h0_open, .ref h0_left, .int h0_prototypeCount, .int h0_constantCount, .int h0_codeCount, .int h0_upvalueCount, .int h0_length, .int h0_at, .int h0_faultFound, .int h0_faultPlace]))] s.heap.size = A at hD hZ ⊢
  have hA : ∀ q : Nat, s.heap.size ≤ q → A q := fun q h => by rw [← hAe]; exact Or.inr h
  have hS : va_S A s.heap s.heap [] := va_S.rf
  have hl := lv_entry ([.ref h0, .int 0]) (n := 3) (Nat.le_of_ble_eq_true rfl)
  rw [lg_entry_eq]
  generalize (lg_sl ([.ref h0, .int 0]) ++ List.replicate (3 - (lg_sl ([.ref h0, .int 0])).length) Slot.unset).toArray = ls at hl ⊢
  have hl : lv_has ls 3 [(0, .ref h0), (1, .int 0)] := hl
  have hP : va_P (dC, dI) vwCl [(h0, .inr (1, [.ref h0_prototypes, .ref h0_children, .ref h0_code, .ref h0_constantKinds, .ref h0_constantValues, .ref h0_upvalues, .ref h0_tape, .ref h0_open, .ref h0_left, .int h0_prototypeCount, .int h0_constantCount, .int h0_codeCount, .int h0_upvalueCount, .int h0_length, .int h0_at, .int h0_faultFound, .int h0_faultPlace]))] s.heap := hP
  have hD : va_D A [(h0, .inr (1, [.ref h0_prototypes, .ref h0_children, .ref h0_code, .ref h0_constantKinds, .ref h0_constantValues, .ref h0_upvalues, .ref h0_tape, .ref h0_open, .ref h0_left, .int h0_prototypeCount, .int h0_constantCount, .int h0_codeCount, .int h0_upvalueCount, .int h0_length, .int h0_at, .int h0_faultFound, .int h0_faultPlace]))] := hD
  refine lv_iload_n hx hb d_Ch_withoutFullOnes_0 rfl (lv_at hl 1 rfl) ?_
  refine lv_istore_n (lv' := [(2, .int 0), (0, .ref h0), (1, .int 0)]) hx hb d_Ch_withoutFullOnes_1 rfl hl (by decide) rfl (fun ls hl => ?_)
  refine lv_iload_n hx hb d_Ch_withoutFullOnes_2 rfl (lv_at hl 0 rfl) ?_
  refine lv_if_le (tgt := 23) hx hb d_Ch_withoutFullOnes_3 (by decide) (fun c_3 => ?_) (fun c_3 => absurd (by decide) c_3)
  refine lv_iload_n hx hb d_Ch_withoutFullOnes_23 rfl (lv_at hl 0 rfl) ?_
  have hP9 := hP.sub (ws' := [(h0, .inr (1, [.ref h0_prototypes, .ref h0_children, .ref h0_code, .ref h0_constantKinds, .ref h0_constantValues, .ref h0_upvalues, .ref h0_tape, .ref h0_open, .ref h0_left, .int h0_prototypeCount, .int h0_constantCount, .int h0_codeCount, .int h0_upvalueCount, .int h0_length, .int h0_at, .int h0_faultFound, .int h0_faultPlace]))]) [0] rfl
  have hD9 := hD.sub (ws' := [(h0, .inr (1, [.ref h0_prototypes, .ref h0_children, .ref h0_code, .ref h0_constantKinds, .ref h0_constantValues, .ref h0_upvalues, .ref h0_tape, .ref h0_open, .ref h0_left, .int h0_prototypeCount, .int h0_constantCount, .int h0_codeCount, .int h0_upvalueCount, .int h0_length, .int h0_at, .int h0_faultFound, .int h0_faultPlace]))]) [0] (by decide) rfl
  have hK9 := hK.sub (tys' := []) [] rfl
  refine W.widen (k := 0) (n := 0) (Nat.le_of_ble_eq_true rfl) (Nat.le_of_ble_eq_true rfl) ?_
  exact W.iret (v := 0) hx hb hr (fun t ht hW => ⟨⟨0, (), rfl, rfl, by rw [ht]; exact hP9, va_K.moved hW.alike hK9, hD9⟩, hS.F ht⟩) hS.2.2 d_Ch_withoutFullOnes_24

set_option maxHeartbeats 4000000 in
set_option maxRecDepth 100000 in
theorem c_Ch_refuse (l : Launch) (dC : Nat → ClassId) (dI : Nat → Nat → Nat) (h0 : Nat) (h0_prototypes : Nat) (h0_children : Nat) (h0_code : Nat) (h0_constantKinds : Nat) (h0_constantValues : Nat) (h0_upvalues : Nat) (h0_tape : Nat) (h0_open : Nat) (h0_left : Nat) (h0_prototypeCount : Int32) (h0_constantCount : Int32) (h0_codeCount : Int32) (h0_upvalueCount : Int32) (h0_length : Int32) (h0_at : Int32) (h0_faultFound : Int32) (h0_faultPlace : Int32) (n : Int32) (n2 : Int32) (sz : Nat) : Met l y_Ch_refuse w_Ch_refuse ({ frames := 0, cells := 0, slots := 0, locals := 0 }) (va_Pc [.ref h0, .int n, .int n2] (fun U => U.heap.size = sz ∧ va_P (dC, dI) vwCl [(h0, .inr (1, [.ref h0_prototypes, .ref h0_children, .ref h0_code, .ref h0_constantKinds, .ref h0_constantValues, .ref h0_upvalues, .ref h0_tape, .ref h0_open, .ref h0_left, .int h0_prototypeCount, .int h0_constantCount, .int h0_codeCount, .int h0_upvalueCount, .int h0_length, .int h0_at, .int h0_faultFound, .int h0_faultPlace]))] U.heap ∧ va_K (dC, dI) vwCl [] U ∧ va_D (fun _ => True) [(h0, .inr (1, [.ref h0_prototypes, .ref h0_children, .ref h0_code, .ref h0_constantKinds, .ref h0_constantValues, .ref h0_upvalues, .ref h0_tape, .ref h0_open, .ref h0_left, .int h0_prototypeCount, .int h0_constantCount, .int h0_codeCount, .int h0_upvalueCount, .int h0_length, .int h0_at, .int h0_faultFound, .int h0_faultPlace]))] ∧ xB U ∧ xZ (va_A [(h0, .inr (1, [.ref h0_prototypes, .ref h0_children, .ref h0_code, .ref h0_constantKinds, .ref h0_constantValues, .ref h0_upvalues, .ref h0_tape, .ref h0_open, .ref h0_left, .int h0_prototypeCount, .int h0_constantCount, .int h0_codeCount, .int h0_upvalueCount, .int h0_length, .int h0_at, .int h0_faultFound, .int h0_faultPlace]))] sz) U U.heap)) (va_Qi (fun (r : Int32) (_ : Unit) => r = 0) (fun _ t => va_P (dC, dI) vwCl [(h0, .inr (1, [.ref h0_prototypes, .ref h0_children, .ref h0_code, .ref h0_constantKinds, .ref h0_constantValues, .ref h0_upvalues, .ref h0_tape, .ref h0_open, .ref h0_left, .int h0_prototypeCount, .int h0_constantCount, .int h0_codeCount, .int h0_upvalueCount, .int h0_length, .int h0_at, .int n, .int n2]))] t.heap ∧ va_K (dC, dI) vwCl [] t ∧ va_D (va_A [(h0, .inr (1, [.ref h0_prototypes, .ref h0_children, .ref h0_code, .ref h0_constantKinds, .ref h0_constantValues, .ref h0_upvalues, .ref h0_tape, .ref h0_open, .ref h0_left, .int h0_prototypeCount, .int h0_constantCount, .int h0_codeCount, .int h0_upvalueCount, .int h0_length, .int h0_at, .int h0_faultFound, .int h0_faultPlace]))] sz) [(h0, .inr (1, [.ref h0_prototypes, .ref h0_children, .ref h0_code, .ref h0_constantKinds, .ref h0_constantValues, .ref h0_upvalues, .ref h0_tape, .ref h0_open, .ref h0_left, .int h0_prototypeCount, .int h0_constantCount, .int h0_codeCount, .int h0_upvalueCount, .int h0_length, .int h0_at, .int n, .int n2]))]) (va_A [(h0, .inr (1, [.ref h0_prototypes, .ref h0_children, .ref h0_code, .ref h0_constantKinds, .ref h0_constantValues, .ref h0_upvalues, .ref h0_tape, .ref h0_open, .ref h0_left, .int h0_prototypeCount, .int h0_constantCount, .int h0_codeCount, .int h0_upvalueCount, .int h0_length, .int h0_at, .int h0_faultFound, .int h0_faultPlace]))] sz)) 0 0 (va_A [(h0, .inr (1, [.ref h0_prototypes, .ref h0_children, .ref h0_code, .ref h0_constantKinds, .ref h0_constantValues, .ref h0_upvalues, .ref h0_tape, .ref h0_open, .ref h0_left, .int h0_prototypeCount, .int h0_constantCount, .int h0_codeCount, .int h0_upvalueCount, .int h0_length, .int h0_at, .int h0_faultFound, .int h0_faultPlace]))] sz) := by
  refine Met.ofW (cc := b_Ch_refuse) (maxL := 3) (ret := (some .boolean)) (by decide) rfl ?_
  intro p e s m args below meth c s₁ B hml hv
  obtain ⟨rfl, hsz, hP, hK, hD0, hB, hZ⟩ := hv
  have hx := B.exec
  have hb := B.bytes
  have hr := B.returns
  have hts := atoms_spec (ws := w_Ch_refuse) B.pre
  have hown : s.vm.findClass R_Ch = some m.cls := findClass_of_methodNamed B.named
  have hlocks := B.notSynchronized
  subst hsz
  have hD := hD0.self (sz := s.heap.size)
  generalize hAe : va_A [(h0, .inr (1, [.ref h0_prototypes, .ref h0_children, .ref h0_code, .ref h0_constantKinds, .ref h0_constantValues, .ref h0_upvalues, .ref h0_tape, .ref h0_open, .ref h0_left, .int h0_prototypeCount, .int h0_constantCount, .int h0_codeCount, .int h0_upvalueCount, .int h0_length, .int h0_at, .int h0_faultFound, .int h0_faultPlace]))] s.heap.size = A at hD hZ ⊢
  have hA : ∀ q : Nat, s.heap.size ≤ q → A q := fun q h => by rw [← hAe]; exact Or.inr h
  have hS : va_S A s.heap s.heap [] := va_S.rf
  have hl := lv_entry ([.ref h0, .int n, .int n2]) (n := 3) (Nat.le_of_ble_eq_true rfl)
  rw [lg_entry_eq]
  generalize (lg_sl ([.ref h0, .int n, .int n2]) ++ List.replicate (3 - (lg_sl ([.ref h0, .int n, .int n2])).length) Slot.unset).toArray = ls at hl ⊢
  have hl : lv_has ls 3 [(0, .ref h0), (1, .int n), (2, .int n2)] := hl
  have hP : va_P (dC, dI) vwCl [(h0, .inr (1, [.ref h0_prototypes, .ref h0_children, .ref h0_code, .ref h0_constantKinds, .ref h0_constantValues, .ref h0_upvalues, .ref h0_tape, .ref h0_open, .ref h0_left, .int h0_prototypeCount, .int h0_constantCount, .int h0_codeCount, .int h0_upvalueCount, .int h0_length, .int h0_at, .int h0_faultFound, .int h0_faultPlace]))] s.heap := hP
  have hD : va_D A [(h0, .inr (1, [.ref h0_prototypes, .ref h0_children, .ref h0_code, .ref h0_constantKinds, .ref h0_constantValues, .ref h0_upvalues, .ref h0_tape, .ref h0_open, .ref h0_left, .int h0_prototypeCount, .int h0_constantCount, .int h0_codeCount, .int h0_upvalueCount, .int h0_length, .int h0_at, .int h0_faultFound, .int h0_faultPlace]))] := hD
  refine lv_aload_n hx hb d_Ch_refuse_0 rfl (lv_at hl 0 rfl) ?_
  refine lv_iload_n hx hb d_Ch_refuse_1 rfl (lv_at hl 1 rfl) ?_
  refine va_put (D := (dC, dI)) (ci := 1) (v := .int n) (ty := .int) (C := R_Ch) (T := TCh) (N := 17) hx hb hts (fun w h => List.mem_cons_of_mem _ (ic_Ch w h)) tyCh tyCh_ok nmCh hown hK hP hD hS 0 rfl rfl 15 (by decide) (hts (.fieldLink R_Ch 72 "LuaMachine$Chunk" "faultFound" "I") (List.mem_cons_of_mem _ kw_146)) (fun _ h9 => h9) rfl (tyCh_ok 15 (by decide)) rfl rfl (Nat.le_of_ble_eq_true rfl) d_Ch_refuse_2 (fun H locs hP hD hS => ?_)
  have hP : va_P (dC, dI) vwCl [(h0, .inr (1, [.ref h0_prototypes, .ref h0_children, .ref h0_code, .ref h0_constantKinds, .ref h0_constantValues, .ref h0_upvalues, .ref h0_tape, .ref h0_open, .ref h0_left, .int h0_prototypeCount, .int h0_constantCount, .int h0_codeCount, .int h0_upvalueCount, .int h0_length, .int h0_at, .int n, .int h0_faultPlace]))] H := hP
  have hD : va_D A [(h0, .inr (1, [.ref h0_prototypes, .ref h0_children, .ref h0_code, .ref h0_constantKinds, .ref h0_constantValues, .ref h0_upvalues, .ref h0_tape, .ref h0_open, .ref h0_left, .int h0_prototypeCount, .int h0_constantCount, .int h0_codeCount, .int h0_upvalueCount, .int h0_length, .int h0_at, .int n, .int h0_faultPlace]))] := hD
  refine lv_aload_n hx hb d_Ch_refuse_5 rfl (lv_at hl 0 rfl) ?_
  refine lv_iload_n hx hb d_Ch_refuse_6 rfl (lv_at hl 2 rfl) ?_
  refine va_put (D := (dC, dI)) (ci := 1) (v := .int n2) (ty := .int) (C := R_Ch) (T := TCh) (N := 17) hx hb hts (fun w h => List.mem_cons_of_mem _ (ic_Ch w h)) tyCh tyCh_ok nmCh hown hK hP hD hS 0 rfl rfl 16 (by decide) (hts (.fieldLink R_Ch 45 "LuaMachine$Chunk" "faultPlace" "I") (List.mem_cons_of_mem _ kw_18)) (fun _ h9 => h9) rfl (tyCh_ok 16 (by decide)) rfl rfl (Nat.le_of_ble_eq_true rfl) d_Ch_refuse_7 (fun H locs hP hD hS => ?_)
  have hP : va_P (dC, dI) vwCl [(h0, .inr (1, [.ref h0_prototypes, .ref h0_children, .ref h0_code, .ref h0_constantKinds, .ref h0_constantValues, .ref h0_upvalues, .ref h0_tape, .ref h0_open, .ref h0_left, .int h0_prototypeCount, .int h0_constantCount, .int h0_codeCount, .int h0_upvalueCount, .int h0_length, .int h0_at, .int n, .int n2]))] H := hP
  have hD : va_D A [(h0, .inr (1, [.ref h0_prototypes, .ref h0_children, .ref h0_code, .ref h0_constantKinds, .ref h0_constantValues, .ref h0_upvalues, .ref h0_tape, .ref h0_open, .ref h0_left, .int h0_prototypeCount, .int h0_constantCount, .int h0_codeCount, .int h0_upvalueCount, .int h0_length, .int h0_at, .int n, .int n2]))] := hD
  refine lv_iconst (v := 0) hx hb d_Ch_refuse_10 (by decide) ?_
  have hP9 := hP.sub (ws' := [(h0, .inr (1, [.ref h0_prototypes, .ref h0_children, .ref h0_code, .ref h0_constantKinds, .ref h0_constantValues, .ref h0_upvalues, .ref h0_tape, .ref h0_open, .ref h0_left, .int h0_prototypeCount, .int h0_constantCount, .int h0_codeCount, .int h0_upvalueCount, .int h0_length, .int h0_at, .int n, .int n2]))]) [0] rfl
  have hD9 := hD.sub (ws' := [(h0, .inr (1, [.ref h0_prototypes, .ref h0_children, .ref h0_code, .ref h0_constantKinds, .ref h0_constantValues, .ref h0_upvalues, .ref h0_tape, .ref h0_open, .ref h0_left, .int h0_prototypeCount, .int h0_constantCount, .int h0_codeCount, .int h0_upvalueCount, .int h0_length, .int h0_at, .int n, .int n2]))]) [0] (by decide) rfl
  have hK9 := hK.sub (tys' := []) [] rfl
  refine W.widen (k := 0) (n := 0) (Nat.le_of_ble_eq_true rfl) (Nat.le_of_ble_eq_true rfl) ?_
  exact W.zret (v := 0) hx hb hr (by decide) (fun t ht hW => ⟨⟨0, (), rfl, rfl, by rw [ht]; exact hP9, va_K.moved hW.alike hK9, hD9⟩, hS.F ht⟩) hS.2.2 d_Ch_refuse_11

set_option maxHeartbeats 4000000 in
set_option maxRecDepth 100000 in
theorem c_Ch_readNumber_short (l : Launch) (dC : Nat → ClassId) (dI : Nat → Nat → Nat) (h0 : Nat) (h0_prototypes : Nat) (h0_children : Nat) (h0_code : Nat) (h0_constantKinds : Nat) (h0_constantValues : Nat) (h0_upvalues : Nat) (h0_tape : Nat) (h0_open : Nat) (h0_left : Nat) (h0_prototypeCount : Int32) (h0_constantCount : Int32) (h0_codeCount : Int32) (h0_upvalueCount : Int32) (h0_faultFound : Int32) (h0_faultPlace : Int32) (oat : Int32) (ol : Int32) (n : Int32) (sz : Nat) (g : ¬ oat + n ≤ ol) : Met l y_Ch_readNumber w_Ch_readNumber ({ frames := 1, cells := 0, slots := 0, locals := 22 }) (va_Pc [.ref h0, .int n] (fun U => U.heap.size = sz ∧ va_P (dC, dI) vwCl [(h0, .inr (1, [.ref h0_prototypes, .ref h0_children, .ref h0_code, .ref h0_constantKinds, .ref h0_constantValues, .ref h0_upvalues, .ref h0_tape, .ref h0_open, .ref h0_left, .int h0_prototypeCount, .int h0_constantCount, .int h0_codeCount, .int h0_upvalueCount, .int ol, .int oat, .int h0_faultFound, .int h0_faultPlace]))] U.heap ∧ va_K (dC, dI) vwCl [] U ∧ va_D (fun _ => True) [(h0, .inr (1, [.ref h0_prototypes, .ref h0_children, .ref h0_code, .ref h0_constantKinds, .ref h0_constantValues, .ref h0_upvalues, .ref h0_tape, .ref h0_open, .ref h0_left, .int h0_prototypeCount, .int h0_constantCount, .int h0_codeCount, .int h0_upvalueCount, .int ol, .int oat, .int h0_faultFound, .int h0_faultPlace]))] ∧ xB U ∧ xZ (va_A [(h0, .inr (1, [.ref h0_prototypes, .ref h0_children, .ref h0_code, .ref h0_constantKinds, .ref h0_constantValues, .ref h0_upvalues, .ref h0_tape, .ref h0_open, .ref h0_left, .int h0_prototypeCount, .int h0_constantCount, .int h0_codeCount, .int h0_upvalueCount, .int ol, .int oat, .int h0_faultFound, .int h0_faultPlace]))] sz) U U.heap)) (va_Qi (fun (r : Int32) (_ : Unit) => r = (-1)) (fun _ t => va_P (dC, dI) vwCl [(h0, .inr (1, [.ref h0_prototypes, .ref h0_children, .ref h0_code, .ref h0_constantKinds, .ref h0_constantValues, .ref h0_upvalues, .ref h0_tape, .ref h0_open, .ref h0_left, .int h0_prototypeCount, .int h0_constantCount, .int h0_codeCount, .int h0_upvalueCount, .int ol, .int oat, .int 1, .int oat]))] t.heap ∧ va_K (dC, dI) vwCl [] t ∧ va_D (va_A [(h0, .inr (1, [.ref h0_prototypes, .ref h0_children, .ref h0_code, .ref h0_constantKinds, .ref h0_constantValues, .ref h0_upvalues, .ref h0_tape, .ref h0_open, .ref h0_left, .int h0_prototypeCount, .int h0_constantCount, .int h0_codeCount, .int h0_upvalueCount, .int ol, .int oat, .int h0_faultFound, .int h0_faultPlace]))] sz) [(h0, .inr (1, [.ref h0_prototypes, .ref h0_children, .ref h0_code, .ref h0_constantKinds, .ref h0_constantValues, .ref h0_upvalues, .ref h0_tape, .ref h0_open, .ref h0_left, .int h0_prototypeCount, .int h0_constantCount, .int h0_codeCount, .int h0_upvalueCount, .int ol, .int oat, .int 1, .int oat]))]) (va_A [(h0, .inr (1, [.ref h0_prototypes, .ref h0_children, .ref h0_code, .ref h0_constantKinds, .ref h0_constantValues, .ref h0_upvalues, .ref h0_tape, .ref h0_open, .ref h0_left, .int h0_prototypeCount, .int h0_constantCount, .int h0_codeCount, .int h0_upvalueCount, .int ol, .int oat, .int h0_faultFound, .int h0_faultPlace]))] sz)) 0 0 (va_A [(h0, .inr (1, [.ref h0_prototypes, .ref h0_children, .ref h0_code, .ref h0_constantKinds, .ref h0_constantValues, .ref h0_upvalues, .ref h0_tape, .ref h0_open, .ref h0_left, .int h0_prototypeCount, .int h0_constantCount, .int h0_codeCount, .int h0_upvalueCount, .int ol, .int oat, .int h0_faultFound, .int h0_faultPlace]))] sz) := by
  refine Met.ofW (cc := b_Ch_readNumber) (maxL := 4) (ret := (some .int)) (by decide) rfl ?_
  intro p e s m args below meth c s₁ B hml hv
  obtain ⟨rfl, hsz, hP, hK, hD0, hB, hZ⟩ := hv
  have hx := B.exec
  have hb := B.bytes
  have hr := B.returns
  have hts := atoms_spec (ws := w_Ch_readNumber) B.pre
  have hown : s.vm.findClass R_Ch = some m.cls := findClass_of_methodNamed B.named
  have hlocks := B.notSynchronized
  subst hsz
  have hD := hD0.self (sz := s.heap.size)
  generalize hAe : va_A [(h0, .inr (1, [.ref h0_prototypes, .ref h0_children, .ref h0_code, .ref h0_constantKinds, .ref h0_constantValues, .ref h0_upvalues, .ref h0_tape, .ref h0_open, .ref h0_left, .int h0_prototypeCount, .int h0_constantCount, .int h0_codeCount, .int h0_upvalueCount, .int ol, .int oat, .int h0_faultFound, .int h0_faultPlace]))] s.heap.size = A at hD hZ ⊢
  have hA : ∀ q : Nat, s.heap.size ≤ q → A q := fun q h => by rw [← hAe]; exact Or.inr h
  have hS : va_S A s.heap s.heap [] := va_S.rf
  have hl := lv_entry ([.ref h0, .int n]) (n := 4) (Nat.le_of_ble_eq_true rfl)
  rw [lg_entry_eq]
  generalize (lg_sl ([.ref h0, .int n]) ++ List.replicate (4 - (lg_sl ([.ref h0, .int n])).length) Slot.unset).toArray = ls at hl ⊢
  have hl : lv_has ls 4 [(0, .ref h0), (1, .int n)] := hl
  have hP : va_P (dC, dI) vwCl [(h0, .inr (1, [.ref h0_prototypes, .ref h0_children, .ref h0_code, .ref h0_constantKinds, .ref h0_constantValues, .ref h0_upvalues, .ref h0_tape, .ref h0_open, .ref h0_left, .int h0_prototypeCount, .int h0_constantCount, .int h0_codeCount, .int h0_upvalueCount, .int ol, .int oat, .int h0_faultFound, .int h0_faultPlace]))] s.heap := hP
  have hD : va_D A [(h0, .inr (1, [.ref h0_prototypes, .ref h0_children, .ref h0_code, .ref h0_constantKinds, .ref h0_constantValues, .ref h0_upvalues, .ref h0_tape, .ref h0_open, .ref h0_left, .int h0_prototypeCount, .int h0_constantCount, .int h0_codeCount, .int h0_upvalueCount, .int ol, .int oat, .int h0_faultFound, .int h0_faultPlace]))] := hD
  refine lv_aload_n hx hb d_Ch_readNumber_0 rfl (lv_at hl 0 rfl) ?_
  refine va_get (D := (dC, dI)) (ci := 1) (v := .int oat) (C := R_Ch) (T := TCh) (N := 17) hx hb hts (fun w h => List.mem_cons_of_mem _ (ic_Ch w h)) hown hK hP 0 rfl rfl 14 (by decide) (hts (.fieldLink R_Ch 57 "LuaMachine$Chunk" "at" "I") (List.mem_cons_of_mem _ kw_145)) (fun _ h9 => h9) rfl d_Ch_readNumber_1 ?_
  refine lv_iload_n hx hb d_Ch_readNumber_4 rfl (lv_at hl 1 rfl) ?_
  refine lv_iadd hx hb d_Ch_readNumber_5 ?_
  refine lv_aload_n hx hb d_Ch_readNumber_6 rfl (lv_at hl 0 rfl) ?_
  refine va_get (D := (dC, dI)) (ci := 1) (v := .int ol) (C := R_Ch) (T := TCh) (N := 17) hx hb hts (fun w h => List.mem_cons_of_mem _ (ic_Ch w h)) hown hK hP 0 rfl rfl 13 (by decide) (hts (.fieldLink R_Ch 60 "LuaMachine$Chunk" "length" "I") (List.mem_cons_of_mem _ kw_144)) (fun _ h9 => h9) rfl d_Ch_readNumber_7 ?_
  refine lv_icmp_le (tgt := 25) hx hb d_Ch_readNumber_10 (by decide) (fun c_10 => absurd c_10 g) (fun c_10 => ?_)
  refine lv_aload_n hx hb d_Ch_readNumber_13 rfl (lv_at hl 0 rfl) ?_
  refine lv_iconst (v := 1) hx hb d_Ch_readNumber_14 (by decide) ?_
  refine lv_aload_n hx hb d_Ch_readNumber_15 rfl (lv_at hl 0 rfl) ?_
  refine va_get (D := (dC, dI)) (ci := 1) (v := .int oat) (C := R_Ch) (T := TCh) (N := 17) hx hb hts (fun w h => List.mem_cons_of_mem _ (ic_Ch w h)) hown hK hP 0 rfl rfl 14 (by decide) (hts (.fieldLink R_Ch 57 "LuaMachine$Chunk" "at" "I") (List.mem_cons_of_mem _ kw_145)) (fun _ h9 => h9) rfl d_Ch_readNumber_16 ?_
  have hPc := hP.sub (ws' := [(h0, .inr (1, [.ref h0_prototypes, .ref h0_children, .ref h0_code, .ref h0_constantKinds, .ref h0_constantValues, .ref h0_upvalues, .ref h0_tape, .ref h0_open, .ref h0_left, .int h0_prototypeCount, .int h0_constantCount, .int h0_codeCount, .int h0_upvalueCount, .int ol, .int oat, .int h0_faultFound, .int h0_faultPlace]))]) [0] rfl
  have hDc := hD.sub (ws' := [(h0, .inr (1, [.ref h0_prototypes, .ref h0_children, .ref h0_code, .ref h0_constantKinds, .ref h0_constantValues, .ref h0_upvalues, .ref h0_tape, .ref h0_open, .ref h0_left, .int h0_prototypeCount, .int h0_constantCount, .int h0_codeCount, .int h0_upvalueCount, .int ol, .int oat, .int h0_faultFound, .int h0_faultPlace]))]) [0] (by decide) rfl
  have hKc := hK.sub (tys' := []) [] rfl
  have hFc := va_free (wc := [(h0, .inr (1, [.ref h0_prototypes, .ref h0_children, .ref h0_code, .ref h0_constantKinds, .ref h0_constantValues, .ref h0_upvalues, .ref h0_tape, .ref h0_open, .ref h0_left, .int h0_prototypeCount, .int h0_constantCount, .int h0_codeCount, .int h0_upvalueCount, .int ol, .int oat, .int h0_faultFound, .int h0_faultPlace]))]) hD hS hA [0] rfl
  refine va_calli (va_runV (As := [.int 1, .int oat]) (rest := []) ⟨hx, hb, hml, hown, hts⟩ (c_Ch_refuse l dC dI h0 h0_prototypes h0_children h0_code h0_constantKinds h0_constantValues h0_upvalues h0_tape h0_open h0_left h0_prototypeCount h0_constantCount h0_codeCount h0_upvalueCount ol oat h0_faultFound h0_faultPlace 1 oat s.heap.size ) (cwV 2 hts (gV kw_151 kw_152 kw_153 kw_81 k_Ch_refuse) rfl rfl rfl (by decide +kernel) ⟨(Nat.le_of_ble_eq_true rfl), (Nat.le_of_ble_eq_true rfl)⟩) ⟨fun a U g mk q => by obtain ⟨q0, q1, qP, qK, qD, qhB, qhZ⟩ := q; exact ⟨q0, q1, qP, va_K.moved (u := U) (U := U.calling g mk a) (Vm.Alike.refl U.vm) qK, qD, xB.warm (s := U) (U := U.calling g mk a) (State.WarmedH.refl U) qhB, xZ.moved (u := U) (U := U.calling g mk a) (Vm.Alike.refl U.vm) qhZ⟩, va_recv hKc hPc (ci := 1) (q0 := 0) rfl rfl, fun U hU hW => ⟨rfl, by rw [hU], by rw [hU]; exact hPc, va_K.moved hW.alike hKc, hDc.weaken (fun _ _ _ _ => trivial), xB.warm hW hB, (by rw [hU]; exact xZ.moved hW.alike ((hZ.kept hS.2.1).narrow hFc))⟩⟩ rfl rfl hl.1 rfl (lv_room (Nat.le_of_ble_eq_true rfl)) d_Ch_readNumber_19 ⟨(Nat.le_of_ble_eq_true rfl), (Nat.le_of_ble_eq_true rfl)⟩) hS (fun q _ h => hFc q h) hFc (fun r u t H1 locs ht hvm hw hB hz1 hk1 hS => ?_)
  obtain ⟨hP1, hK1, hD1⟩ := hB
  rw [ht] at hP1
  have hK1 := va_K.moved hvm.symm hK1
  obtain ⟨hP, hD⟩ := va_join (wr := []) (w1 := [(h0, .inr (1, [.ref h0_prototypes, .ref h0_children, .ref h0_code, .ref h0_constantKinds, .ref h0_constantValues, .ref h0_upvalues, .ref h0_tape, .ref h0_open, .ref h0_left, .int h0_prototypeCount, .int h0_constantCount, .int h0_codeCount, .int h0_upvalueCount, .int ol, .int oat, .int 1, .int oat]))]) hP hD [0] [] rfl rfl (by decide) (by decide) hk1 hFc hP1 hD1
  have hK := (hK.sub (tys' := []) [] rfl).app hK1
  generalize H1 = H at hP hS ⊢
  have hK : va_K (dC, dI) vwCl [] s := hK
  have hP : va_P (dC, dI) vwCl [(h0, .inr (1, [.ref h0_prototypes, .ref h0_children, .ref h0_code, .ref h0_constantKinds, .ref h0_constantValues, .ref h0_upvalues, .ref h0_tape, .ref h0_open, .ref h0_left, .int h0_prototypeCount, .int h0_constantCount, .int h0_codeCount, .int h0_upvalueCount, .int ol, .int oat, .int 1, .int oat]))] H := hP
  have hD : va_D A [(h0, .inr (1, [.ref h0_prototypes, .ref h0_children, .ref h0_code, .ref h0_constantKinds, .ref h0_constantValues, .ref h0_upvalues, .ref h0_tape, .ref h0_open, .ref h0_left, .int h0_prototypeCount, .int h0_constantCount, .int h0_codeCount, .int h0_upvalueCount, .int ol, .int oat, .int 1, .int oat]))] := hD
  refine W.widen (k := 0) (n := 0) (Nat.le_of_ble_eq_true rfl) (Nat.le_of_ble_eq_true rfl) ?_
  have hw : r = 0 := hw
  refine gx_i (v := 0) hw ?_
  refine lv_pop hx hb d_Ch_readNumber_22 rfl ?_
  refine lv_iconst (v := (-1)) hx hb d_Ch_readNumber_23 (by decide) ?_
  have hP9 := hP.sub (ws' := [(h0, .inr (1, [.ref h0_prototypes, .ref h0_children, .ref h0_code, .ref h0_constantKinds, .ref h0_constantValues, .ref h0_upvalues, .ref h0_tape, .ref h0_open, .ref h0_left, .int h0_prototypeCount, .int h0_constantCount, .int h0_codeCount, .int h0_upvalueCount, .int ol, .int oat, .int 1, .int oat]))]) [0] rfl
  have hD9 := hD.sub (ws' := [(h0, .inr (1, [.ref h0_prototypes, .ref h0_children, .ref h0_code, .ref h0_constantKinds, .ref h0_constantValues, .ref h0_upvalues, .ref h0_tape, .ref h0_open, .ref h0_left, .int h0_prototypeCount, .int h0_constantCount, .int h0_codeCount, .int h0_upvalueCount, .int ol, .int oat, .int 1, .int oat]))]) [0] (by decide) rfl
  have hK9 := hK.sub (tys' := []) [] rfl
  refine W.widen (k := 0) (n := 0) (Nat.le_of_ble_eq_true rfl) (Nat.le_of_ble_eq_true rfl) ?_
  exact W.iret (v := (-1)) hx hb hr (fun t ht hW => ⟨⟨(-1), (), rfl, rfl, by rw [ht]; exact hP9, va_K.moved hW.alike hK9, hD9⟩, hS.F ht⟩) hS.2.2 d_Ch_readNumber_24

set_option maxHeartbeats 4000000 in
set_option maxRecDepth 100000 in
theorem c_Ch_readHead_short (l : Launch) (dC : Nat → ClassId) (dI : Nat → Nat → Nat) (h0 : Nat) (op : Nat) (oq : Nat) (h0_children : Nat) (h0_code : Nat) (h0_constantKinds : Nat) (h0_constantValues : Nat) (h0_upvalues : Nat) (h0_tape : Nat) (h0_open : Nat) (h0_left : Nat) (h0_prototypeCount : Int32) (h0_constantCount : Int32) (h0_codeCount : Int32) (h0_upvalueCount : Int32) (h0_faultFound : Int32) (h0_faultPlace : Int32) (op_parameters : Int32) (op_takesMore : Int32) (op_registers : Int32) (op_upvalues : Int32) (op_upvalueStart : Int32) (op_constants : Int32) (op_constantStart : Int32) (op_instructions : Int32) (op_codeStart : Int32) (op_codePlace : Int32) (op_children : Int32) (op_childStart : Int32) (sz : Nat) : Met l y_Ch_readHead w_Ch_readHead ({ frames := 2, cells := 0, slots := 0, locals := 45 }) (va_Pc [.ref h0, .ref op] (fun U => U.heap.size = sz ∧ va_P (dC, dI) vwCl [(h0, .inr (1, [.ref oq, .ref h0_children, .ref h0_code, .ref h0_constantKinds, .ref h0_constantValues, .ref h0_upvalues, .ref h0_tape, .ref h0_open, .ref h0_left, .int h0_prototypeCount, .int h0_constantCount, .int h0_codeCount, .int h0_upvalueCount, .int 0, .int 0, .int h0_faultFound, .int h0_faultPlace])), (op, .inr (8, [.int op_parameters, .int op_takesMore, .int op_registers, .int op_upvalues, .int op_upvalueStart, .int op_constants, .int op_constantStart, .int op_instructions, .int op_codeStart, .int op_codePlace, .int op_children, .int op_childStart, .int (-1)]))] U.heap ∧ va_K (dC, dI) vwCl [] U ∧ va_D (fun _ => True) [(h0, .inr (1, [.ref oq, .ref h0_children, .ref h0_code, .ref h0_constantKinds, .ref h0_constantValues, .ref h0_upvalues, .ref h0_tape, .ref h0_open, .ref h0_left, .int h0_prototypeCount, .int h0_constantCount, .int h0_codeCount, .int h0_upvalueCount, .int 0, .int 0, .int h0_faultFound, .int h0_faultPlace])), (op, .inr (8, [.int op_parameters, .int op_takesMore, .int op_registers, .int op_upvalues, .int op_upvalueStart, .int op_constants, .int op_constantStart, .int op_instructions, .int op_codeStart, .int op_codePlace, .int op_children, .int op_childStart, .int (-1)]))] ∧ xB U ∧ xZ (va_A [(h0, .inr (1, [.ref oq, .ref h0_children, .ref h0_code, .ref h0_constantKinds, .ref h0_constantValues, .ref h0_upvalues, .ref h0_tape, .ref h0_open, .ref h0_left, .int h0_prototypeCount, .int h0_constantCount, .int h0_codeCount, .int h0_upvalueCount, .int 0, .int 0, .int h0_faultFound, .int h0_faultPlace])), (op, .inr (8, [.int op_parameters, .int op_takesMore, .int op_registers, .int op_upvalues, .int op_upvalueStart, .int op_constants, .int op_constantStart, .int op_instructions, .int op_codeStart, .int op_codePlace, .int op_children, .int op_childStart, .int (-1)]))] sz) U U.heap)) (va_Qi (fun (r : Int32) (_ : Unit) => r = 0) (fun _ t => va_P (dC, dI) vwCl [(h0, .inr (1, [.ref oq, .ref h0_children, .ref h0_code, .ref h0_constantKinds, .ref h0_constantValues, .ref h0_upvalues, .ref h0_tape, .ref h0_open, .ref h0_left, .int h0_prototypeCount, .int h0_constantCount, .int h0_codeCount, .int h0_upvalueCount, .int 0, .int 0, .int 1, .int 0])), (op, .inr (8, [.int (-1), .int op_takesMore, .int op_registers, .int op_upvalues, .int op_upvalueStart, .int op_constants, .int op_constantStart, .int op_instructions, .int op_codeStart, .int op_codePlace, .int op_children, .int op_childStart, .int (-1)]))] t.heap ∧ va_K (dC, dI) vwCl [] t ∧ va_D (va_A [(h0, .inr (1, [.ref oq, .ref h0_children, .ref h0_code, .ref h0_constantKinds, .ref h0_constantValues, .ref h0_upvalues, .ref h0_tape, .ref h0_open, .ref h0_left, .int h0_prototypeCount, .int h0_constantCount, .int h0_codeCount, .int h0_upvalueCount, .int 0, .int 0, .int h0_faultFound, .int h0_faultPlace])), (op, .inr (8, [.int op_parameters, .int op_takesMore, .int op_registers, .int op_upvalues, .int op_upvalueStart, .int op_constants, .int op_constantStart, .int op_instructions, .int op_codeStart, .int op_codePlace, .int op_children, .int op_childStart, .int (-1)]))] sz) [(h0, .inr (1, [.ref oq, .ref h0_children, .ref h0_code, .ref h0_constantKinds, .ref h0_constantValues, .ref h0_upvalues, .ref h0_tape, .ref h0_open, .ref h0_left, .int h0_prototypeCount, .int h0_constantCount, .int h0_codeCount, .int h0_upvalueCount, .int 0, .int 0, .int 1, .int 0])), (op, .inr (8, [.int (-1), .int op_takesMore, .int op_registers, .int op_upvalues, .int op_upvalueStart, .int op_constants, .int op_constantStart, .int op_instructions, .int op_codeStart, .int op_codePlace, .int op_children, .int op_childStart, .int (-1)]))]) (va_A [(h0, .inr (1, [.ref oq, .ref h0_children, .ref h0_code, .ref h0_constantKinds, .ref h0_constantValues, .ref h0_upvalues, .ref h0_tape, .ref h0_open, .ref h0_left, .int h0_prototypeCount, .int h0_constantCount, .int h0_codeCount, .int h0_upvalueCount, .int 0, .int 0, .int h0_faultFound, .int h0_faultPlace])), (op, .inr (8, [.int op_parameters, .int op_takesMore, .int op_registers, .int op_upvalues, .int op_upvalueStart, .int op_constants, .int op_constantStart, .int op_instructions, .int op_codeStart, .int op_codePlace, .int op_children, .int op_childStart, .int (-1)]))] sz)) 0 0 (va_A [(h0, .inr (1, [.ref oq, .ref h0_children, .ref h0_code, .ref h0_constantKinds, .ref h0_constantValues, .ref h0_upvalues, .ref h0_tape, .ref h0_open, .ref h0_left, .int h0_prototypeCount, .int h0_constantCount, .int h0_codeCount, .int h0_upvalueCount, .int 0, .int 0, .int h0_faultFound, .int h0_faultPlace])), (op, .inr (8, [.int op_parameters, .int op_takesMore, .int op_registers, .int op_upvalues, .int op_upvalueStart, .int op_constants, .int op_constantStart, .int op_instructions, .int op_codeStart, .int op_codePlace, .int op_children, .int op_childStart, .int (-1)]))] sz) := by
  refine Met.ofW (cc := b_Ch_readHead) (maxL := 3) (ret := (some .boolean)) (by decide) rfl ?_
  intro p e s m args below meth c s₁ B hml hv
  obtain ⟨rfl, hsz, hP, hK, hD0, hB, hZ⟩ := hv
  have hx := B.exec
  have hb := B.bytes
  have hr := B.returns
  have hts := atoms_spec (ws := w_Ch_readHead) B.pre
  have hown : s.vm.findClass R_Ch = some m.cls := findClass_of_methodNamed B.named
  have hlocks := B.notSynchronized
  subst hsz
  have hD := hD0.self (sz := s.heap.size)
  generalize hAe : va_A [(h0, .inr (1, [.ref oq, .ref h0_children, .ref h0_code, .ref h0_constantKinds, .ref h0_constantValues, .ref h0_upvalues, .ref h0_tape, .ref h0_open, .ref h0_left, .int h0_prototypeCount, .int h0_constantCount, .int h0_codeCount, .int h0_upvalueCount, .int 0, .int 0, .int h0_faultFound, .int h0_faultPlace])), (op, .inr (8, [.int op_parameters, .int op_takesMore, .int op_registers, .int op_upvalues, .int op_upvalueStart, .int op_constants, .int op_constantStart, .int op_instructions, .int op_codeStart, .int op_codePlace, .int op_children, .int op_childStart, .int (-1)]))] s.heap.size = A at hD hZ ⊢
  have hA : ∀ q : Nat, s.heap.size ≤ q → A q := fun q h => by rw [← hAe]; exact Or.inr h
  have hS : va_S A s.heap s.heap [] := va_S.rf
  have hl := lv_entry ([.ref h0, .ref op]) (n := 3) (Nat.le_of_ble_eq_true rfl)
  rw [lg_entry_eq]
  generalize (lg_sl ([.ref h0, .ref op]) ++ List.replicate (3 - (lg_sl ([.ref h0, .ref op])).length) Slot.unset).toArray = ls at hl ⊢
  have hl : lv_has ls 3 [(0, .ref h0), (1, .ref op)] := hl
  have hP : va_P (dC, dI) vwCl [(h0, .inr (1, [.ref oq, .ref h0_children, .ref h0_code, .ref h0_constantKinds, .ref h0_constantValues, .ref h0_upvalues, .ref h0_tape, .ref h0_open, .ref h0_left, .int h0_prototypeCount, .int h0_constantCount, .int h0_codeCount, .int h0_upvalueCount, .int 0, .int 0, .int h0_faultFound, .int h0_faultPlace])), (op, .inr (8, [.int op_parameters, .int op_takesMore, .int op_registers, .int op_upvalues, .int op_upvalueStart, .int op_constants, .int op_constantStart, .int op_instructions, .int op_codeStart, .int op_codePlace, .int op_children, .int op_childStart, .int (-1)]))] s.heap := hP
  have hD : va_D A [(h0, .inr (1, [.ref oq, .ref h0_children, .ref h0_code, .ref h0_constantKinds, .ref h0_constantValues, .ref h0_upvalues, .ref h0_tape, .ref h0_open, .ref h0_left, .int h0_prototypeCount, .int h0_constantCount, .int h0_codeCount, .int h0_upvalueCount, .int 0, .int 0, .int h0_faultFound, .int h0_faultPlace])), (op, .inr (8, [.int op_parameters, .int op_takesMore, .int op_registers, .int op_upvalues, .int op_upvalueStart, .int op_constants, .int op_constantStart, .int op_instructions, .int op_codeStart, .int op_codePlace, .int op_children, .int op_childStart, .int (-1)]))] := hD
  refine lv_aload_n hx hb d_Ch_readHead_0 rfl (lv_at hl 1 rfl) ?_
  refine va_get (D := (dC, dI)) (ci := 8) (v := .int (-1)) (C := R_Pr) (T := TPr) (N := 13) hx hb hts (fun w h => List.mem_cons_of_mem _ (ic_Pr w h)) hown hK hP 1 rfl rfl 12 (by decide) (hts (.fieldLink R_Ch 88 "LuaMachine$Prototype" "around" "I") (List.mem_cons_of_mem _ kw_154)) (fun _ h9 => h9) rfl d_Ch_readHead_1 ?_
  refine lv_if_ge (tgt := 11) hx hb d_Ch_readHead_4 (by decide) (fun c_4 => absurd c_4 (by decide)) (fun c_4 => ?_)
  refine lv_iconst (v := 1) hx hb d_Ch_readHead_7 (by decide) ?_
  refine lv_goto (tgt := 12) hx hb d_Ch_readHead_8 (by decide) ?_
  refine lv_istore_n (lv' := [(2, .int 1), (0, .ref h0), (1, .ref op)]) hx hb d_Ch_readHead_12 rfl hl (by decide) rfl (fun ls hl => ?_)
  refine lv_aload_n hx hb d_Ch_readHead_13 rfl (lv_at hl 2 rfl) ?_
  refine lv_aload_n hx hb d_Ch_readHead_14 rfl (lv_at hl 1 rfl) ?_
  refine lv_iconst (v := 1) hx hb d_Ch_readHead_15 (by decide) ?_
  have hPc := hP.sub (ws' := [(h0, .inr (1, [.ref oq, .ref h0_children, .ref h0_code, .ref h0_constantKinds, .ref h0_constantValues, .ref h0_upvalues, .ref h0_tape, .ref h0_open, .ref h0_left, .int h0_prototypeCount, .int h0_constantCount, .int h0_codeCount, .int h0_upvalueCount, .int 0, .int 0, .int h0_faultFound, .int h0_faultPlace]))]) [0] rfl
  have hDc := hD.sub (ws' := [(h0, .inr (1, [.ref oq, .ref h0_children, .ref h0_code, .ref h0_constantKinds, .ref h0_constantValues, .ref h0_upvalues, .ref h0_tape, .ref h0_open, .ref h0_left, .int h0_prototypeCount, .int h0_constantCount, .int h0_codeCount, .int h0_upvalueCount, .int 0, .int 0, .int h0_faultFound, .int h0_faultPlace]))]) [0] (by decide) rfl
  have hKc := hK.sub (tys' := []) [] rfl
  have hFc := va_free (wc := [(h0, .inr (1, [.ref oq, .ref h0_children, .ref h0_code, .ref h0_constantKinds, .ref h0_constantValues, .ref h0_upvalues, .ref h0_tape, .ref h0_open, .ref h0_left, .int h0_prototypeCount, .int h0_constantCount, .int h0_codeCount, .int h0_upvalueCount, .int 0, .int 0, .int h0_faultFound, .int h0_faultPlace]))]) hD hS hA [0] rfl
  refine va_calli (va_runV (As := [.int 1]) (rest := [.ref op]) ⟨hx, hb, hml, hown, hts⟩ (c_Ch_readNumber_short l dC dI h0 oq h0_children h0_code h0_constantKinds h0_constantValues h0_upvalues h0_tape h0_open h0_left h0_prototypeCount h0_constantCount h0_codeCount h0_upvalueCount h0_faultFound h0_faultPlace 0 0 1 s.heap.size (by first | decide | omega)) (cwV 1 hts (gV kw_155 kw_156 kw_157 kw_81 k_Ch_readNumber) rfl rfl rfl (by decide +kernel) ⟨(Nat.le_of_ble_eq_true rfl), (Nat.le_of_ble_eq_true rfl)⟩) ⟨fun a U g mk q => by obtain ⟨q0, q1, qP, qK, qD, qhB, qhZ⟩ := q; exact ⟨q0, q1, qP, va_K.moved (u := U) (U := U.calling g mk a) (Vm.Alike.refl U.vm) qK, qD, xB.warm (s := U) (U := U.calling g mk a) (State.WarmedH.refl U) qhB, xZ.moved (u := U) (U := U.calling g mk a) (Vm.Alike.refl U.vm) qhZ⟩, va_recv hKc hPc (ci := 1) (q0 := 0) rfl rfl, fun U hU hW => ⟨rfl, by rw [hU], by rw [hU]; exact hPc, va_K.moved hW.alike hKc, hDc.weaken (fun _ _ _ _ => trivial), xB.warm hW hB, (by rw [hU]; exact xZ.moved hW.alike ((hZ.kept hS.2.1).narrow hFc))⟩⟩ rfl rfl hl.1 rfl (lv_room (Nat.le_of_ble_eq_true rfl)) d_Ch_readHead_16 ⟨(Nat.le_of_ble_eq_true rfl), (Nat.le_of_ble_eq_true rfl)⟩) hS (fun q _ h => hFc q h) hFc (fun r u t H1 locs ht hvm hw hB hz1 hk1 hS => ?_)
  obtain ⟨hP1, hK1, hD1⟩ := hB
  rw [ht] at hP1
  have hK1 := va_K.moved hvm.symm hK1
  obtain ⟨hP, hD⟩ := va_join (wr := [(op, .inr (8, [.int op_parameters, .int op_takesMore, .int op_registers, .int op_upvalues, .int op_upvalueStart, .int op_constants, .int op_constantStart, .int op_instructions, .int op_codeStart, .int op_codePlace, .int op_children, .int op_childStart, .int (-1)]))]) (w1 := [(h0, .inr (1, [.ref oq, .ref h0_children, .ref h0_code, .ref h0_constantKinds, .ref h0_constantValues, .ref h0_upvalues, .ref h0_tape, .ref h0_open, .ref h0_left, .int h0_prototypeCount, .int h0_constantCount, .int h0_codeCount, .int h0_upvalueCount, .int 0, .int 0, .int 1, .int 0]))]) hP hD [0] [1] rfl rfl (by decide) (by decide) hk1 hFc hP1 hD1
  have hK := (hK.sub (tys' := []) [] rfl).app hK1
  generalize H1 = H at hP hS ⊢
  have hK : va_K (dC, dI) vwCl [] s := hK
  have hP : va_P (dC, dI) vwCl [(op, .inr (8, [.int op_parameters, .int op_takesMore, .int op_registers, .int op_upvalues, .int op_upvalueStart, .int op_constants, .int op_constantStart, .int op_instructions, .int op_codeStart, .int op_codePlace, .int op_children, .int op_childStart, .int (-1)])), (h0, .inr (1, [.ref oq, .ref h0_children, .ref h0_code, .ref h0_constantKinds, .ref h0_constantValues, .ref h0_upvalues, .ref h0_tape, .ref h0_open, .ref h0_left, .int h0_prototypeCount, .int h0_constantCount, .int h0_codeCount, .int h0_upvalueCount, .int 0, .int 0, .int 1, .int 0]))] H := hP
  have hD : va_D A [(op, .inr (8, [.int op_parameters, .int op_takesMore, .int op_registers, .int op_upvalues, .int op_upvalueStart, .int op_constants, .int op_constantStart, .int op_instructions, .int op_codeStart, .int op_codePlace, .int op_children, .int op_childStart, .int (-1)])), (h0, .inr (1, [.ref oq, .ref h0_children, .ref h0_code, .ref h0_constantKinds, .ref h0_constantValues, .ref h0_upvalues, .ref h0_tape, .ref h0_open, .ref h0_left, .int h0_prototypeCount, .int h0_constantCount, .int h0_codeCount, .int h0_upvalueCount, .int 0, .int 0, .int 1, .int 0]))] := hD
  refine W.widen (k := 0) (n := 0) (Nat.le_of_ble_eq_true rfl) (Nat.le_of_ble_eq_true rfl) ?_
  have hw : r = (-1) := hw
  refine gx_i (v := (-1)) hw ?_
  refine va_put (D := (dC, dI)) (ci := 8) (v := .int (-1)) (ty := .int) (C := R_Pr) (T := TPr) (N := 13) hx hb hts (fun w h => List.mem_cons_of_mem _ (ic_Pr w h)) tyPr tyPr_ok nmPr hown hK hP hD hS 0 rfl rfl 0 (by decide) (hts (.fieldLink R_Ch 107 "LuaMachine$Prototype" "parameters" "I") (List.mem_cons_of_mem _ kw_158)) (fun _ h9 => h9) rfl (tyPr_ok 0 (by decide)) rfl rfl (Nat.le_of_ble_eq_true rfl) d_Ch_readHead_19 (fun H locs hP hD hS => ?_)
  have hP : va_P (dC, dI) vwCl [(op, .inr (8, [.int (-1), .int op_takesMore, .int op_registers, .int op_upvalues, .int op_upvalueStart, .int op_constants, .int op_constantStart, .int op_instructions, .int op_codeStart, .int op_codePlace, .int op_children, .int op_childStart, .int (-1)])), (h0, .inr (1, [.ref oq, .ref h0_children, .ref h0_code, .ref h0_constantKinds, .ref h0_constantValues, .ref h0_upvalues, .ref h0_tape, .ref h0_open, .ref h0_left, .int h0_prototypeCount, .int h0_constantCount, .int h0_codeCount, .int h0_upvalueCount, .int 0, .int 0, .int 1, .int 0]))] H := hP
  have hD : va_D A [(op, .inr (8, [.int (-1), .int op_takesMore, .int op_registers, .int op_upvalues, .int op_upvalueStart, .int op_constants, .int op_constantStart, .int op_instructions, .int op_codeStart, .int op_codePlace, .int op_children, .int op_childStart, .int (-1)])), (h0, .inr (1, [.ref oq, .ref h0_children, .ref h0_code, .ref h0_constantKinds, .ref h0_constantValues, .ref h0_upvalues, .ref h0_tape, .ref h0_open, .ref h0_left, .int h0_prototypeCount, .int h0_constantCount, .int h0_codeCount, .int h0_upvalueCount, .int 0, .int 0, .int 1, .int 0]))] := hD
  refine lv_aload_n hx hb d_Ch_readHead_22 rfl (lv_at hl 2 rfl) ?_
  refine va_get (D := (dC, dI)) (ci := 8) (v := .int (-1)) (C := R_Pr) (T := TPr) (N := 13) hx hb hts (fun w h => List.mem_cons_of_mem _ (ic_Pr w h)) hown hK hP 0 rfl rfl 0 (by decide) (hts (.fieldLink R_Ch 107 "LuaMachine$Prototype" "parameters" "I") (List.mem_cons_of_mem _ kw_158)) (fun _ h9 => h9) rfl d_Ch_readHead_23 ?_
  refine lv_if_ge (tgt := 31) hx hb d_Ch_readHead_26 (by decide) (fun c_26 => absurd c_26 (by decide)) (fun c_26 => ?_)
  refine lv_iconst (v := 0) hx hb d_Ch_readHead_29 (by decide) ?_
  have hP9 := hP.sub (ws' := [(h0, .inr (1, [.ref oq, .ref h0_children, .ref h0_code, .ref h0_constantKinds, .ref h0_constantValues, .ref h0_upvalues, .ref h0_tape, .ref h0_open, .ref h0_left, .int h0_prototypeCount, .int h0_constantCount, .int h0_codeCount, .int h0_upvalueCount, .int 0, .int 0, .int 1, .int 0])), (op, .inr (8, [.int (-1), .int op_takesMore, .int op_registers, .int op_upvalues, .int op_upvalueStart, .int op_constants, .int op_constantStart, .int op_instructions, .int op_codeStart, .int op_codePlace, .int op_children, .int op_childStart, .int (-1)]))]) [1, 0] rfl
  have hD9 := hD.sub (ws' := [(h0, .inr (1, [.ref oq, .ref h0_children, .ref h0_code, .ref h0_constantKinds, .ref h0_constantValues, .ref h0_upvalues, .ref h0_tape, .ref h0_open, .ref h0_left, .int h0_prototypeCount, .int h0_constantCount, .int h0_codeCount, .int h0_upvalueCount, .int 0, .int 0, .int 1, .int 0])), (op, .inr (8, [.int (-1), .int op_takesMore, .int op_registers, .int op_upvalues, .int op_upvalueStart, .int op_constants, .int op_constantStart, .int op_instructions, .int op_codeStart, .int op_codePlace, .int op_children, .int op_childStart, .int (-1)]))]) [1, 0] (by decide) rfl
  have hK9 := hK.sub (tys' := []) [] rfl
  refine W.widen (k := 0) (n := 0) (Nat.le_of_ble_eq_true rfl) (Nat.le_of_ble_eq_true rfl) ?_
  exact W.zret (v := 0) hx hb hr (by decide) (fun t ht hW => ⟨⟨0, (), rfl, rfl, by rw [ht]; exact hP9, va_K.moved hW.alike hK9, hD9⟩, hS.F ht⟩) hS.2.2 d_Ch_readHead_30

set_option maxHeartbeats 4000000 in
set_option maxRecDepth 100000 in
theorem c_Ch_readPrototype_short (l : Launch) (dC : Nat → ClassId) (dI : Nat → Nat → Nat) (h0 : Nat) (oq : Nat) (kq : ClassId) (h0_children : Nat) (h0_code : Nat) (h0_constantKinds : Nat) (h0_constantValues : Nat) (h0_upvalues : Nat) (h0_tape : Nat) (h0_open : Nat) (h0_left : Nat) (h0_prototypeCount : Int32) (h0_constantCount : Int32) (h0_codeCount : Int32) (h0_upvalueCount : Int32) (h0_faultFound : Int32) (h0_faultPlace : Int32) (sz : Nat) : Met l y_Ch_readPrototype w_Ch_readPrototype ({ frames := 3, cells := 1, slots := 13, locals := 67 }) (va_Pc [.ref h0, .int 0, .int (-1)] (fun U => U.heap.size = sz ∧ va_P (dC, dI) vwCl [(h0, .inr (1, [.ref oq, .ref h0_children, .ref h0_code, .ref h0_constantKinds, .ref h0_constantValues, .ref h0_upvalues, .ref h0_tape, .ref h0_open, .ref h0_left, .int h0_prototypeCount, .int h0_constantCount, .int h0_codeCount, .int h0_upvalueCount, .int 0, .int 0, .int h0_faultFound, .int h0_faultPlace])), (oq, .inl (kq, 250, .inr (.inr (.inr (.inr (fun _ => none))))))] U.heap ∧ va_K (dC, dI) vwCl [(kq, .object R_Pr)] U ∧ va_D (fun _ => True) [(h0, .inr (1, [.ref oq, .ref h0_children, .ref h0_code, .ref h0_constantKinds, .ref h0_constantValues, .ref h0_upvalues, .ref h0_tape, .ref h0_open, .ref h0_left, .int h0_prototypeCount, .int h0_constantCount, .int h0_codeCount, .int h0_upvalueCount, .int 0, .int 0, .int h0_faultFound, .int h0_faultPlace])), (oq, .inl (kq, 250, .inr (.inr (.inr (.inr (fun _ => none))))))] ∧ xB U ∧ xZ (va_A [(h0, .inr (1, [.ref oq, .ref h0_children, .ref h0_code, .ref h0_constantKinds, .ref h0_constantValues, .ref h0_upvalues, .ref h0_tape, .ref h0_open, .ref h0_left, .int h0_prototypeCount, .int h0_constantCount, .int h0_codeCount, .int h0_upvalueCount, .int 0, .int 0, .int h0_faultFound, .int h0_faultPlace])), (oq, .inl (kq, 250, .inr (.inr (.inr (.inr (fun _ => none))))))] sz) U U.heap)) (va_Qi (fun (r : Int32) (_ : Unit) => r = 0) (fun _ t => va_P (dC, dI) vwCl [(h0, .inr (1, [.ref oq, .ref h0_children, .ref h0_code, .ref h0_constantKinds, .ref h0_constantValues, .ref h0_upvalues, .ref h0_tape, .ref h0_open, .ref h0_left, .int 1, .int h0_constantCount, .int h0_codeCount, .int h0_upvalueCount, .int 0, .int 0, .int 1, .int 0]))] t.heap ∧ va_K (dC, dI) vwCl [] t ∧ va_D (va_A [(h0, .inr (1, [.ref oq, .ref h0_children, .ref h0_code, .ref h0_constantKinds, .ref h0_constantValues, .ref h0_upvalues, .ref h0_tape, .ref h0_open, .ref h0_left, .int h0_prototypeCount, .int h0_constantCount, .int h0_codeCount, .int h0_upvalueCount, .int 0, .int 0, .int h0_faultFound, .int h0_faultPlace])), (oq, .inl (kq, 250, .inr (.inr (.inr (.inr (fun _ => none))))))] sz) [(h0, .inr (1, [.ref oq, .ref h0_children, .ref h0_code, .ref h0_constantKinds, .ref h0_constantValues, .ref h0_upvalues, .ref h0_tape, .ref h0_open, .ref h0_left, .int 1, .int h0_constantCount, .int h0_codeCount, .int h0_upvalueCount, .int 0, .int 0, .int 1, .int 0]))]) (va_A [(h0, .inr (1, [.ref oq, .ref h0_children, .ref h0_code, .ref h0_constantKinds, .ref h0_constantValues, .ref h0_upvalues, .ref h0_tape, .ref h0_open, .ref h0_left, .int h0_prototypeCount, .int h0_constantCount, .int h0_codeCount, .int h0_upvalueCount, .int 0, .int 0, .int h0_faultFound, .int h0_faultPlace])), (oq, .inl (kq, 250, .inr (.inr (.inr (.inr (fun _ => none))))))] sz)) 1 13 (va_A [(h0, .inr (1, [.ref oq, .ref h0_children, .ref h0_code, .ref h0_constantKinds, .ref h0_constantValues, .ref h0_upvalues, .ref h0_tape, .ref h0_open, .ref h0_left, .int h0_prototypeCount, .int h0_constantCount, .int h0_codeCount, .int h0_upvalueCount, .int 0, .int 0, .int h0_faultFound, .int h0_faultPlace])), (oq, .inl (kq, 250, .inr (.inr (.inr (.inr (fun _ => none))))))] sz) := by
  refine Met.ofW (cc := b_Ch_readPrototype) (maxL := 4) (ret := (some .boolean)) (by decide) rfl ?_
  intro p e s m args below meth c s₁ B hml hv
  obtain ⟨rfl, hsz, hP, hK, hD0, hB, hZ⟩ := hv
  have hx := B.exec
  have hb := B.bytes
  have hr := B.returns
  have hts := atoms_spec (ws := w_Ch_readPrototype) B.pre
  have hown : s.vm.findClass R_Ch = some m.cls := findClass_of_methodNamed B.named
  have hlocks := B.notSynchronized
  subst hsz
  have hD := hD0.self (sz := s.heap.size)
  generalize hAe : va_A [(h0, .inr (1, [.ref oq, .ref h0_children, .ref h0_code, .ref h0_constantKinds, .ref h0_constantValues, .ref h0_upvalues, .ref h0_tape, .ref h0_open, .ref h0_left, .int h0_prototypeCount, .int h0_constantCount, .int h0_codeCount, .int h0_upvalueCount, .int 0, .int 0, .int h0_faultFound, .int h0_faultPlace])), (oq, .inl (kq, 250, .inr (.inr (.inr (.inr (fun _ => none))))))] s.heap.size = A at hD hZ ⊢
  have hA : ∀ q : Nat, s.heap.size ≤ q → A q := fun q h => by rw [← hAe]; exact Or.inr h
  have hS : va_S A s.heap s.heap [] := va_S.rf
  have hl := lv_entry ([.ref h0, .int 0, .int (-1)]) (n := 4) (Nat.le_of_ble_eq_true rfl)
  rw [lg_entry_eq]
  generalize (lg_sl ([.ref h0, .int 0, .int (-1)]) ++ List.replicate (4 - (lg_sl ([.ref h0, .int 0, .int (-1)])).length) Slot.unset).toArray = ls at hl ⊢
  have hl : lv_has ls 4 [(0, .ref h0), (1, .int 0), (2, .int (-1))] := hl
  have hP : va_P (dC, dI) vwCl [(h0, .inr (1, [.ref oq, .ref h0_children, .ref h0_code, .ref h0_constantKinds, .ref h0_constantValues, .ref h0_upvalues, .ref h0_tape, .ref h0_open, .ref h0_left, .int h0_prototypeCount, .int h0_constantCount, .int h0_codeCount, .int h0_upvalueCount, .int 0, .int 0, .int h0_faultFound, .int h0_faultPlace])), (oq, .inl (kq, 250, .inr (.inr (.inr (.inr (fun _ => none))))))] s.heap := hP
  have hD : va_D A [(h0, .inr (1, [.ref oq, .ref h0_children, .ref h0_code, .ref h0_constantKinds, .ref h0_constantValues, .ref h0_upvalues, .ref h0_tape, .ref h0_open, .ref h0_left, .int h0_prototypeCount, .int h0_constantCount, .int h0_codeCount, .int h0_upvalueCount, .int 0, .int 0, .int h0_faultFound, .int h0_faultPlace])), (oq, .inl (kq, 250, .inr (.inr (.inr (.inr (fun _ => none))))))] := hD
  refine lv_aload_n hx hb d_Ch_readPrototype_0 rfl (lv_at hl 0 rfl) ?_
  refine va_get (D := (dC, dI)) (ci := 1) (v := .ref oq) (C := R_Ch) (T := TCh) (N := 17) hx hb hts (fun w h => List.mem_cons_of_mem _ (ic_Ch w h)) hown hK hP 0 rfl rfl 0 (by decide) (hts (.fieldLink R_Ch 11 "LuaMachine$Chunk" "prototypes" "[LLuaMachine$Prototype;") (List.mem_cons_of_mem _ kw_5)) (fun _ h9 => h9) rfl d_Ch_readPrototype_1 ?_
  refine lv_iload_n hx hb d_Ch_readPrototype_4 rfl (lv_at hl 1 rfl) ?_
  refine va_aldq hx hb hK hP 1 0 rfl rfl (show ¬ ((0 : Int32) < 0 ∨ 250 ≤ (0 : Int32).toNatClampNeg) by decide) d_Ch_readPrototype_5 ?_
  refine gx_v (v := .null) rfl ?_
  refine lv_ifnonnullN hx hb d_Ch_readPrototype_6 ?_
  refine lv_aload_n hx hb d_Ch_readPrototype_9 rfl (lv_at hl 0 rfl) ?_
  refine va_get (D := (dC, dI)) (ci := 1) (v := .ref oq) (C := R_Ch) (T := TCh) (N := 17) hx hb hts (fun w h => List.mem_cons_of_mem _ (ic_Ch w h)) hown hK hP 0 rfl rfl 0 (by decide) (hts (.fieldLink R_Ch 11 "LuaMachine$Chunk" "prototypes" "[LLuaMachine$Prototype;") (List.mem_cons_of_mem _ kw_5)) (fun _ h9 => h9) rfl d_Ch_readPrototype_10 ?_
  refine lv_iload_n hx hb d_Ch_readPrototype_13 rfl (lv_at hl 1 rfl) ?_
  refine va_new (ci := 8) (fs := [.int 0, .int 0, .int 0, .int 0, .int 0, .int 0, .int 0, .int 0, .int 0, .int 0, .int 0, .int 0, .int 0]) (C := R_Pr) (T := TPr) (N := 13) hx hb hts (fun w h => List.mem_cons_of_mem _ (ic_Pr w h)) tyPr tyPr_ok hown (hts (.classLink R_Ch 9 R_Pr) (List.mem_cons_of_mem _ kw_3)) (hts (.instantiable R_Pr 13) (List.mem_cons_of_mem _ kw_159)) (hts (.initialized R_Pr) (List.mem_cons_of_mem _ kw_160)) hK hP hD hS hA rfl dvPr (Nat.le_of_ble_eq_true rfl) (Nat.le_of_ble_eq_true rfl) d_Ch_readPrototype_14 (fun q14 H hP hD hS => ?_)
  have hP : va_P (dC, dI) vwCl [(h0, .inr (1, [.ref oq, .ref h0_children, .ref h0_code, .ref h0_constantKinds, .ref h0_constantValues, .ref h0_upvalues, .ref h0_tape, .ref h0_open, .ref h0_left, .int h0_prototypeCount, .int h0_constantCount, .int h0_codeCount, .int h0_upvalueCount, .int 0, .int 0, .int h0_faultFound, .int h0_faultPlace])), (oq, .inl (kq, 250, .inr (.inr (.inr (.inr (fun _ => none)))))), (q14, .inr (8, [.int 0, .int 0, .int 0, .int 0, .int 0, .int 0, .int 0, .int 0, .int 0, .int 0, .int 0, .int 0, .int 0]))] H := hP
  have hD : va_D A [(h0, .inr (1, [.ref oq, .ref h0_children, .ref h0_code, .ref h0_constantKinds, .ref h0_constantValues, .ref h0_upvalues, .ref h0_tape, .ref h0_open, .ref h0_left, .int h0_prototypeCount, .int h0_constantCount, .int h0_codeCount, .int h0_upvalueCount, .int 0, .int 0, .int h0_faultFound, .int h0_faultPlace])), (oq, .inl (kq, 250, .inr (.inr (.inr (.inr (fun _ => none)))))), (q14, .inr (8, [.int 0, .int 0, .int 0, .int 0, .int 0, .int 0, .int 0, .int 0, .int 0, .int 0, .int 0, .int 0, .int 0]))] := hD
  refine W.widen (k := 1) (n := 13) (Nat.le_of_ble_eq_true rfl) (Nat.le_of_ble_eq_true rfl) ?_
  refine lv_dup hx hb d_Ch_readPrototype_17 rfl ?_
  have hPc := hP.sub (ws' := [(q14, .inr (8, [.int 0, .int 0, .int 0, .int 0, .int 0, .int 0, .int 0, .int 0, .int 0, .int 0, .int 0, .int 0, .int 0]))]) [2] rfl
  have hDc := hD.sub (ws' := [(q14, .inr (8, [.int 0, .int 0, .int 0, .int 0, .int 0, .int 0, .int 0, .int 0, .int 0, .int 0, .int 0, .int 0, .int 0]))]) [2] (by decide) rfl
  have hKc := hK.sub (tys' := []) [] rfl
  have hFc := va_free (wc := [(q14, .inr (8, [.int 0, .int 0, .int 0, .int 0, .int 0, .int 0, .int 0, .int 0, .int 0, .int 0, .int 0, .int 0, .int 0]))]) hD hS hA [2] rfl
  refine va_callv (va_runIN (As := []) (rest := [.ref q14, .int 0, .ref oq]) ⟨hx, hb, hml, hown, hts⟩ (c_Pr_init l dC dI q14 H.size ) ⟨va_cnB 0 hts (gC k_Pr_init) rfl rfl rfl (show va_Nw (Cond.methodLinkNest R_Ch 87 y_Pr_init "LuaMachine") s from hB _ nw_Ch_87) (hts (.initialized R_Pr) (List.mem_cons_of_mem _ kw_160)) (by decide +kernel) ⟨(Nat.le_of_ble_eq_true rfl), (Nat.le_of_ble_eq_true rfl)⟩, rfl, (hts (.instanceMethod y_Pr_init) (List.mem_cons_of_mem _ kw_162))⟩ ⟨fun a U g mk q => by obtain ⟨q0, q1, qP, qK, qD, qhB, qhZ⟩ := q; exact ⟨q0, q1, qP, va_K.moved (u := U) (U := U.calling g mk a) (Vm.Alike.refl U.vm) qK, qD, xB.warm (s := U) (U := U.calling g mk a) (State.WarmedH.refl U) qhB, xZ.moved (u := U) (U := U.calling g mk a) (Vm.Alike.refl U.vm) qhZ⟩, fun U hU hW => ⟨rfl, by rw [hU], by rw [hU]; exact hPc, va_K.moved hW.alike hKc, hDc.weaken (fun _ _ _ _ => trivial), xB.warm hW hB, (by rw [hU]; exact xZ.moved hW.alike ((hZ.kept hS.2.1).narrow hFc))⟩⟩ rfl rfl hl.1 rfl (lv_room (Nat.le_of_ble_eq_true rfl)) d_Ch_readPrototype_18 ⟨(Nat.le_of_ble_eq_true rfl), (Nat.le_of_ble_eq_true rfl)⟩) hS (fun q _ h => hFc q h) hFc (fun u t H1 locs ht hvm hw hB hz1 hk1 hS => ?_)
  obtain ⟨hP1, hK1, hD1⟩ := hB
  rw [ht] at hP1
  have hK1 := va_K.moved hvm.symm hK1
  obtain ⟨hP, hD⟩ := va_join (wr := [(h0, .inr (1, [.ref oq, .ref h0_children, .ref h0_code, .ref h0_constantKinds, .ref h0_constantValues, .ref h0_upvalues, .ref h0_tape, .ref h0_open, .ref h0_left, .int h0_prototypeCount, .int h0_constantCount, .int h0_codeCount, .int h0_upvalueCount, .int 0, .int 0, .int h0_faultFound, .int h0_faultPlace])), (oq, .inl (kq, 250, .inr (.inr (.inr (.inr (fun _ => none))))))]) (w1 := [(q14, .inr (8, [.int 0, .int 0, .int 0, .int 0, .int 0, .int 0, .int 0, .int 0, .int 0, .int 0, .int 0, .int 0, .int 0]))]) hP hD [2] [0, 1] rfl rfl (by decide) (by decide) hk1 hFc hP1 hD1
  have hK := (hK.sub (tys' := [(kq, .object R_Pr)]) [0] rfl).app hK1
  generalize H1 = H at hP hS ⊢
  have hK : va_K (dC, dI) vwCl [(kq, .object R_Pr)] s := hK
  have hP : va_P (dC, dI) vwCl [(h0, .inr (1, [.ref oq, .ref h0_children, .ref h0_code, .ref h0_constantKinds, .ref h0_constantValues, .ref h0_upvalues, .ref h0_tape, .ref h0_open, .ref h0_left, .int h0_prototypeCount, .int h0_constantCount, .int h0_codeCount, .int h0_upvalueCount, .int 0, .int 0, .int h0_faultFound, .int h0_faultPlace])), (oq, .inl (kq, 250, .inr (.inr (.inr (.inr (fun _ => none)))))), (q14, .inr (8, [.int 0, .int 0, .int 0, .int 0, .int 0, .int 0, .int 0, .int 0, .int 0, .int 0, .int 0, .int 0, .int 0]))] H := hP
  have hD : va_D A [(h0, .inr (1, [.ref oq, .ref h0_children, .ref h0_code, .ref h0_constantKinds, .ref h0_constantValues, .ref h0_upvalues, .ref h0_tape, .ref h0_open, .ref h0_left, .int h0_prototypeCount, .int h0_constantCount, .int h0_codeCount, .int h0_upvalueCount, .int 0, .int 0, .int h0_faultFound, .int h0_faultPlace])), (oq, .inl (kq, 250, .inr (.inr (.inr (.inr (fun _ => none)))))), (q14, .inr (8, [.int 0, .int 0, .int 0, .int 0, .int 0, .int 0, .int 0, .int 0, .int 0, .int 0, .int 0, .int 0, .int 0]))] := hD
  refine W.widen (k := 1) (n := 13) (Nat.le_of_ble_eq_true rfl) (Nat.le_of_ble_eq_true rfl) ?_
  refine va_astq hx hb hK hP hD hS 1 0 2 8 rfl rfl rfl rfl (show ¬ ((0 : Int32) < 0 ∨ 250 ≤ (0 : Int32).toNatClampNeg) by decide) d_Ch_readPrototype_21 (fun H locs hP hD hS => ?_)
  have hP : va_P (dC, dI) vwCl [(h0, .inr (1, [.ref oq, .ref h0_children, .ref h0_code, .ref h0_constantKinds, .ref h0_constantValues, .ref h0_upvalues, .ref h0_tape, .ref h0_open, .ref h0_left, .int h0_prototypeCount, .int h0_constantCount, .int h0_codeCount, .int h0_upvalueCount, .int 0, .int 0, .int h0_faultFound, .int h0_faultPlace])), (oq, .inl (kq, 250, .inr (.inr (.inr (.inr (va_up (fun _ => none) ((0 : Int32).toNatClampNeg) (some q14))))))), (q14, .inr (8, [.int 0, .int 0, .int 0, .int 0, .int 0, .int 0, .int 0, .int 0, .int 0, .int 0, .int 0, .int 0, .int 0]))] H := hP
  have hD : va_D A [(h0, .inr (1, [.ref oq, .ref h0_children, .ref h0_code, .ref h0_constantKinds, .ref h0_constantValues, .ref h0_upvalues, .ref h0_tape, .ref h0_open, .ref h0_left, .int h0_prototypeCount, .int h0_constantCount, .int h0_codeCount, .int h0_upvalueCount, .int 0, .int 0, .int h0_faultFound, .int h0_faultPlace])), (oq, .inl (kq, 250, .inr (.inr (.inr (.inr (va_up (fun _ => none) ((0 : Int32).toNatClampNeg) (some q14))))))), (q14, .inr (8, [.int 0, .int 0, .int 0, .int 0, .int 0, .int 0, .int 0, .int 0, .int 0, .int 0, .int 0, .int 0, .int 0]))] := hD
  refine lv_aload_n hx hb d_Ch_readPrototype_22 rfl (lv_at hl 0 rfl) ?_
  refine va_get (D := (dC, dI)) (ci := 1) (v := .ref oq) (C := R_Ch) (T := TCh) (N := 17) hx hb hts (fun w h => List.mem_cons_of_mem _ (ic_Ch w h)) hown hK hP 0 rfl rfl 0 (by decide) (hts (.fieldLink R_Ch 11 "LuaMachine$Chunk" "prototypes" "[LLuaMachine$Prototype;") (List.mem_cons_of_mem _ kw_5)) (fun _ h9 => h9) rfl d_Ch_readPrototype_23 ?_
  refine lv_iload_n hx hb d_Ch_readPrototype_26 rfl (lv_at hl 1 rfl) ?_
  refine va_aldq hx hb hK hP 1 0 rfl rfl (show ¬ ((0 : Int32) < 0 ∨ 250 ≤ (0 : Int32).toNatClampNeg) by decide) d_Ch_readPrototype_27 ?_
  refine gx_v (v := .ref q14) rfl ?_
  refine lv_astore_n (lv' := [(3, .ref q14), (0, .ref h0), (1, .int 0), (2, .int (-1))]) hx hb d_Ch_readPrototype_28 rfl hl (by decide) rfl (fun ls hl => ?_)
  refine lv_aload_n hx hb d_Ch_readPrototype_29 rfl (lv_at hl 0 rfl) ?_
  refine lv_iload_n hx hb d_Ch_readPrototype_30 rfl (lv_at hl 3 rfl) ?_
  refine va_put (D := (dC, dI)) (ci := 8) (v := .int (-1)) (ty := .int) (C := R_Pr) (T := TPr) (N := 13) hx hb hts (fun w h => List.mem_cons_of_mem _ (ic_Pr w h)) tyPr tyPr_ok nmPr hown hK hP hD hS 2 rfl rfl 12 (by decide) (hts (.fieldLink R_Ch 88 "LuaMachine$Prototype" "around" "I") (List.mem_cons_of_mem _ kw_154)) (fun _ h9 => h9) rfl (tyPr_ok 12 (by decide)) rfl rfl (Nat.le_of_ble_eq_true rfl) d_Ch_readPrototype_31 (fun H locs hP hD hS => ?_)
  have hP : va_P (dC, dI) vwCl [(h0, .inr (1, [.ref oq, .ref h0_children, .ref h0_code, .ref h0_constantKinds, .ref h0_constantValues, .ref h0_upvalues, .ref h0_tape, .ref h0_open, .ref h0_left, .int h0_prototypeCount, .int h0_constantCount, .int h0_codeCount, .int h0_upvalueCount, .int 0, .int 0, .int h0_faultFound, .int h0_faultPlace])), (oq, .inl (kq, 250, .inr (.inr (.inr (.inr (va_up (fun _ => none) ((0 : Int32).toNatClampNeg) (some q14))))))), (q14, .inr (8, [.int 0, .int 0, .int 0, .int 0, .int 0, .int 0, .int 0, .int 0, .int 0, .int 0, .int 0, .int 0, .int (-1)]))] H := hP
  have hD : va_D A [(h0, .inr (1, [.ref oq, .ref h0_children, .ref h0_code, .ref h0_constantKinds, .ref h0_constantValues, .ref h0_upvalues, .ref h0_tape, .ref h0_open, .ref h0_left, .int h0_prototypeCount, .int h0_constantCount, .int h0_codeCount, .int h0_upvalueCount, .int 0, .int 0, .int h0_faultFound, .int h0_faultPlace])), (oq, .inl (kq, 250, .inr (.inr (.inr (.inr (va_up (fun _ => none) ((0 : Int32).toNatClampNeg) (some q14))))))), (q14, .inr (8, [.int 0, .int 0, .int 0, .int 0, .int 0, .int 0, .int 0, .int 0, .int 0, .int 0, .int 0, .int 0, .int (-1)]))] := hD
  refine lv_aload_n hx hb d_Ch_readPrototype_34 rfl (lv_at hl 1 rfl) ?_
  refine lv_iload_n hx hb d_Ch_readPrototype_35 rfl (lv_at hl 2 rfl) ?_
  refine lv_iconst (v := 1) hx hb d_Ch_readPrototype_36 (by decide) ?_
  refine lv_iadd hx hb d_Ch_readPrototype_37 ?_
  refine gx_i (v := 1) (by decide) ?_
  refine va_put (D := (dC, dI)) (ci := 1) (v := .int 1) (ty := .int) (C := R_Ch) (T := TCh) (N := 17) hx hb hts (fun w h => List.mem_cons_of_mem _ (ic_Ch w h)) tyCh tyCh_ok nmCh hown hK hP hD hS 0 rfl rfl 9 (by decide) (hts (.fieldLink R_Ch 75 "LuaMachine$Chunk" "prototypeCount" "I") (List.mem_cons_of_mem _ kw_147)) (fun _ h9 => h9) rfl (tyCh_ok 9 (by decide)) rfl rfl (Nat.le_of_ble_eq_true rfl) d_Ch_readPrototype_38 (fun H locs hP hD hS => ?_)
  have hP : va_P (dC, dI) vwCl [(h0, .inr (1, [.ref oq, .ref h0_children, .ref h0_code, .ref h0_constantKinds, .ref h0_constantValues, .ref h0_upvalues, .ref h0_tape, .ref h0_open, .ref h0_left, .int 1, .int h0_constantCount, .int h0_codeCount, .int h0_upvalueCount, .int 0, .int 0, .int h0_faultFound, .int h0_faultPlace])), (oq, .inl (kq, 250, .inr (.inr (.inr (.inr (va_up (fun _ => none) ((0 : Int32).toNatClampNeg) (some q14))))))), (q14, .inr (8, [.int 0, .int 0, .int 0, .int 0, .int 0, .int 0, .int 0, .int 0, .int 0, .int 0, .int 0, .int 0, .int (-1)]))] H := hP
  have hD : va_D A [(h0, .inr (1, [.ref oq, .ref h0_children, .ref h0_code, .ref h0_constantKinds, .ref h0_constantValues, .ref h0_upvalues, .ref h0_tape, .ref h0_open, .ref h0_left, .int 1, .int h0_constantCount, .int h0_codeCount, .int h0_upvalueCount, .int 0, .int 0, .int h0_faultFound, .int h0_faultPlace])), (oq, .inl (kq, 250, .inr (.inr (.inr (.inr (va_up (fun _ => none) ((0 : Int32).toNatClampNeg) (some q14))))))), (q14, .inr (8, [.int 0, .int 0, .int 0, .int 0, .int 0, .int 0, .int 0, .int 0, .int 0, .int 0, .int 0, .int 0, .int (-1)]))] := hD
  refine lv_aload_n hx hb d_Ch_readPrototype_41 rfl (lv_at hl 1 rfl) ?_
  refine lv_aload_n hx hb d_Ch_readPrototype_42 rfl (lv_at hl 0 rfl) ?_
  have hPc := hP.sub (ws' := [(h0, .inr (1, [.ref oq, .ref h0_children, .ref h0_code, .ref h0_constantKinds, .ref h0_constantValues, .ref h0_upvalues, .ref h0_tape, .ref h0_open, .ref h0_left, .int 1, .int h0_constantCount, .int h0_codeCount, .int h0_upvalueCount, .int 0, .int 0, .int h0_faultFound, .int h0_faultPlace])), (q14, .inr (8, [.int 0, .int 0, .int 0, .int 0, .int 0, .int 0, .int 0, .int 0, .int 0, .int 0, .int 0, .int 0, .int (-1)]))]) [0, 2] rfl
  have hDc := hD.sub (ws' := [(h0, .inr (1, [.ref oq, .ref h0_children, .ref h0_code, .ref h0_constantKinds, .ref h0_constantValues, .ref h0_upvalues, .ref h0_tape, .ref h0_open, .ref h0_left, .int 1, .int h0_constantCount, .int h0_codeCount, .int h0_upvalueCount, .int 0, .int 0, .int h0_faultFound, .int h0_faultPlace])), (q14, .inr (8, [.int 0, .int 0, .int 0, .int 0, .int 0, .int 0, .int 0, .int 0, .int 0, .int 0, .int 0, .int 0, .int (-1)]))]) [0, 2] (by decide) rfl
  have hKc := hK.sub (tys' := []) [] rfl
  have hFc := va_free (wc := [(h0, .inr (1, [.ref oq, .ref h0_children, .ref h0_code, .ref h0_constantKinds, .ref h0_constantValues, .ref h0_upvalues, .ref h0_tape, .ref h0_open, .ref h0_left, .int 1, .int h0_constantCount, .int h0_codeCount, .int h0_upvalueCount, .int 0, .int 0, .int h0_faultFound, .int h0_faultPlace])), (q14, .inr (8, [.int 0, .int 0, .int 0, .int 0, .int 0, .int 0, .int 0, .int 0, .int 0, .int 0, .int 0, .int 0, .int (-1)]))]) hD hS hA [0, 2] rfl
  refine va_calli (va_runV (As := [.ref q14]) (rest := []) ⟨hx, hb, hml, hown, hts⟩ (c_Ch_readHead_short l dC dI h0 q14 oq h0_children h0_code h0_constantKinds h0_constantValues h0_upvalues h0_tape h0_open h0_left 1 h0_constantCount h0_codeCount h0_upvalueCount h0_faultFound h0_faultPlace 0 0 0 0 0 0 0 0 0 0 0 0 H.size ) (cwV 1 hts (gV kw_163 kw_164 kw_165 kw_81 k_Ch_readHead) rfl rfl rfl (by decide +kernel) ⟨(Nat.le_of_ble_eq_true rfl), (Nat.le_of_ble_eq_true rfl)⟩) ⟨fun a U g mk q => by obtain ⟨q0, q1, qP, qK, qD, qhB, qhZ⟩ := q; exact ⟨q0, q1, qP, va_K.moved (u := U) (U := U.calling g mk a) (Vm.Alike.refl U.vm) qK, qD, xB.warm (s := U) (U := U.calling g mk a) (State.WarmedH.refl U) qhB, xZ.moved (u := U) (U := U.calling g mk a) (Vm.Alike.refl U.vm) qhZ⟩, va_recv hKc hPc (ci := 1) (q0 := 0) rfl rfl, fun U hU hW => ⟨rfl, by rw [hU], by rw [hU]; exact hPc, va_K.moved hW.alike hKc, hDc.weaken (fun _ _ _ _ => trivial), xB.warm hW hB, (by rw [hU]; exact xZ.moved hW.alike ((hZ.kept hS.2.1).narrow hFc))⟩⟩ rfl rfl hl.1 rfl (lv_room (Nat.le_of_ble_eq_true rfl)) d_Ch_readPrototype_43 ⟨(Nat.le_of_ble_eq_true rfl), (Nat.le_of_ble_eq_true rfl)⟩) hS (fun q _ h => hFc q h) hFc (fun r u t H1 locs ht hvm hw hB hz1 hk1 hS => ?_)
  obtain ⟨hP1, hK1, hD1⟩ := hB
  rw [ht] at hP1
  have hK1 := va_K.moved hvm.symm hK1
  obtain ⟨hP, hD⟩ := va_join (wr := [(oq, .inl (kq, 250, .inr (.inr (.inr (.inr (va_up (fun _ => none) ((0 : Int32).toNatClampNeg) (some q14)))))))]) (w1 := [(h0, .inr (1, [.ref oq, .ref h0_children, .ref h0_code, .ref h0_constantKinds, .ref h0_constantValues, .ref h0_upvalues, .ref h0_tape, .ref h0_open, .ref h0_left, .int 1, .int h0_constantCount, .int h0_codeCount, .int h0_upvalueCount, .int 0, .int 0, .int 1, .int 0])), (q14, .inr (8, [.int (-1), .int 0, .int 0, .int 0, .int 0, .int 0, .int 0, .int 0, .int 0, .int 0, .int 0, .int 0, .int (-1)]))]) hP hD [0, 2] [1] rfl rfl (by decide) (by decide) hk1 hFc hP1 hD1
  have hK := (hK.sub (tys' := [(kq, .object R_Pr)]) [0] rfl).app hK1
  generalize H1 = H at hP hS ⊢
  have hK : va_K (dC, dI) vwCl [(kq, .object R_Pr)] s := hK
  have hP : va_P (dC, dI) vwCl [(oq, .inl (kq, 250, .inr (.inr (.inr (.inr (va_up (fun _ => none) ((0 : Int32).toNatClampNeg) (some q14))))))), (h0, .inr (1, [.ref oq, .ref h0_children, .ref h0_code, .ref h0_constantKinds, .ref h0_constantValues, .ref h0_upvalues, .ref h0_tape, .ref h0_open, .ref h0_left, .int 1, .int h0_constantCount, .int h0_codeCount, .int h0_upvalueCount, .int 0, .int 0, .int 1, .int 0])), (q14, .inr (8, [.int (-1), .int 0, .int 0, .int 0, .int 0, .int 0, .int 0, .int 0, .int 0, .int 0, .int 0, .int 0, .int (-1)]))] H := hP
  have hD : va_D A [(oq, .inl (kq, 250, .inr (.inr (.inr (.inr (va_up (fun _ => none) ((0 : Int32).toNatClampNeg) (some q14))))))), (h0, .inr (1, [.ref oq, .ref h0_children, .ref h0_code, .ref h0_constantKinds, .ref h0_constantValues, .ref h0_upvalues, .ref h0_tape, .ref h0_open, .ref h0_left, .int 1, .int h0_constantCount, .int h0_codeCount, .int h0_upvalueCount, .int 0, .int 0, .int 1, .int 0])), (q14, .inr (8, [.int (-1), .int 0, .int 0, .int 0, .int 0, .int 0, .int 0, .int 0, .int 0, .int 0, .int 0, .int 0, .int (-1)]))] := hD
  refine W.widen (k := 1) (n := 13) (Nat.le_of_ble_eq_true rfl) (Nat.le_of_ble_eq_true rfl) ?_
  have hw : r = 0 := hw
  refine gx_i (v := 0) hw ?_
  refine lv_if_eq (tgt := 73) hx hb d_Ch_readPrototype_46 (by decide) (fun c_46 => ?_) (fun c_46 => absurd (by decide) c_46)
  refine lv_iconst (v := 0) hx hb d_Ch_readPrototype_73 (by decide) ?_
  have hP9 := hP.sub (ws' := [(h0, .inr (1, [.ref oq, .ref h0_children, .ref h0_code, .ref h0_constantKinds, .ref h0_constantValues, .ref h0_upvalues, .ref h0_tape, .ref h0_open, .ref h0_left, .int 1, .int h0_constantCount, .int h0_codeCount, .int h0_upvalueCount, .int 0, .int 0, .int 1, .int 0]))]) [1] rfl
  have hD9 := hD.sub (ws' := [(h0, .inr (1, [.ref oq, .ref h0_children, .ref h0_code, .ref h0_constantKinds, .ref h0_constantValues, .ref h0_upvalues, .ref h0_tape, .ref h0_open, .ref h0_left, .int 1, .int h0_constantCount, .int h0_codeCount, .int h0_upvalueCount, .int 0, .int 0, .int 1, .int 0]))]) [1] (by decide) rfl
  have hK9 := hK.sub (tys' := []) [] rfl
  refine W.widen (k := 1) (n := 13) (Nat.le_of_ble_eq_true rfl) (Nat.le_of_ble_eq_true rfl) ?_
  exact W.zret (v := 0) hx hb hr (by decide) (fun t ht hW => ⟨⟨0, (), rfl, rfl, by rw [ht]; exact hP9, va_K.moved hW.alike hK9, hD9⟩, hS.F ht⟩) hS.2.2 d_Ch_readPrototype_74

set_option maxHeartbeats 4000000 in
set_option maxRecDepth 100000 in
theorem c_Ch_readAll_empty (l : Launch) (dC : Nat → ClassId) (dI : Nat → Nat → Nat) (h0 : Nat) (oq : Nat) (kq : ClassId) (h0_children : Nat) (h0_code : Nat) (h0_constantKinds : Nat) (h0_constantValues : Nat) (h0_upvalues : Nat) (h0_tape : Nat) (h0_open : Nat) (h0_left : Nat) (h0_prototypeCount : Int32) (h0_constantCount : Int32) (h0_codeCount : Int32) (h0_upvalueCount : Int32) (h0_length : Int32) (h0_at : Int32) (h0_faultFound : Int32) (h0_faultPlace : Int32) (sz : Nat) : Met l y_Ch_readAll w_Ch_readAll ({ frames := 4, cells := 1, slots := 13, locals := 90 }) (va_Pc [.ref h0, .int 0] (fun U => U.heap.size = sz ∧ va_P (dC, dI) vwCl [(h0, .inr (1, [.ref oq, .ref h0_children, .ref h0_code, .ref h0_constantKinds, .ref h0_constantValues, .ref h0_upvalues, .ref h0_tape, .ref h0_open, .ref h0_left, .int h0_prototypeCount, .int h0_constantCount, .int h0_codeCount, .int h0_upvalueCount, .int h0_length, .int h0_at, .int h0_faultFound, .int h0_faultPlace])), (oq, .inl (kq, 250, .inr (.inr (.inr (.inr (fun _ => none))))))] U.heap ∧ va_K (dC, dI) vwCl [(kq, .object R_Pr)] U ∧ va_D (fun _ => True) [(h0, .inr (1, [.ref oq, .ref h0_children, .ref h0_code, .ref h0_constantKinds, .ref h0_constantValues, .ref h0_upvalues, .ref h0_tape, .ref h0_open, .ref h0_left, .int h0_prototypeCount, .int h0_constantCount, .int h0_codeCount, .int h0_upvalueCount, .int h0_length, .int h0_at, .int h0_faultFound, .int h0_faultPlace])), (oq, .inl (kq, 250, .inr (.inr (.inr (.inr (fun _ => none))))))] ∧ xB U ∧ xZ (va_A [(h0, .inr (1, [.ref oq, .ref h0_children, .ref h0_code, .ref h0_constantKinds, .ref h0_constantValues, .ref h0_upvalues, .ref h0_tape, .ref h0_open, .ref h0_left, .int h0_prototypeCount, .int h0_constantCount, .int h0_codeCount, .int h0_upvalueCount, .int h0_length, .int h0_at, .int h0_faultFound, .int h0_faultPlace])), (oq, .inl (kq, 250, .inr (.inr (.inr (.inr (fun _ => none))))))] sz) U U.heap)) (va_Qi (fun (r : Int32) (_ : Unit) => r = 0) (fun _ t => va_P (dC, dI) vwCl [(h0, .inr (1, [.ref oq, .ref h0_children, .ref h0_code, .ref h0_constantKinds, .ref h0_constantValues, .ref h0_upvalues, .ref h0_tape, .ref h0_open, .ref h0_left, .int 1, .int 0, .int 0, .int 0, .int 0, .int 0, .int 1, .int 0]))] t.heap ∧ va_K (dC, dI) vwCl [] t ∧ va_D (va_A [(h0, .inr (1, [.ref oq, .ref h0_children, .ref h0_code, .ref h0_constantKinds, .ref h0_constantValues, .ref h0_upvalues, .ref h0_tape, .ref h0_open, .ref h0_left, .int h0_prototypeCount, .int h0_constantCount, .int h0_codeCount, .int h0_upvalueCount, .int h0_length, .int h0_at, .int h0_faultFound, .int h0_faultPlace])), (oq, .inl (kq, 250, .inr (.inr (.inr (.inr (fun _ => none))))))] sz) [(h0, .inr (1, [.ref oq, .ref h0_children, .ref h0_code, .ref h0_constantKinds, .ref h0_constantValues, .ref h0_upvalues, .ref h0_tape, .ref h0_open, .ref h0_left, .int 1, .int 0, .int 0, .int 0, .int 0, .int 0, .int 1, .int 0]))]) (va_A [(h0, .inr (1, [.ref oq, .ref h0_children, .ref h0_code, .ref h0_constantKinds, .ref h0_constantValues, .ref h0_upvalues, .ref h0_tape, .ref h0_open, .ref h0_left, .int h0_prototypeCount, .int h0_constantCount, .int h0_codeCount, .int h0_upvalueCount, .int h0_length, .int h0_at, .int h0_faultFound, .int h0_faultPlace])), (oq, .inl (kq, 250, .inr (.inr (.inr (.inr (fun _ => none))))))] sz)) 1 13 (va_A [(h0, .inr (1, [.ref oq, .ref h0_children, .ref h0_code, .ref h0_constantKinds, .ref h0_constantValues, .ref h0_upvalues, .ref h0_tape, .ref h0_open, .ref h0_left, .int h0_prototypeCount, .int h0_constantCount, .int h0_codeCount, .int h0_upvalueCount, .int h0_length, .int h0_at, .int h0_faultFound, .int h0_faultPlace])), (oq, .inl (kq, 250, .inr (.inr (.inr (.inr (fun _ => none))))))] sz) := by
  refine Met.ofW (cc := b_Ch_readAll) (maxL := 4) (ret := (some .boolean)) (by decide) rfl ?_
  intro p e s m args below meth c s₁ B hml hv
  obtain ⟨rfl, hsz, hP, hK, hD0, hB, hZ⟩ := hv
  have hx := B.exec
  have hb := B.bytes
  have hr := B.returns
  have hts := atoms_spec (ws := w_Ch_readAll) B.pre
  have hown : s.vm.findClass R_Ch = some m.cls := findClass_of_methodNamed B.named
  have hlocks := B.notSynchronized
  subst hsz
  have hD := hD0.self (sz := s.heap.size)
  generalize hAe : va_A [(h0, .inr (1, [.ref oq, .ref h0_children, .ref h0_code, .ref h0_constantKinds, .ref h0_constantValues, .ref h0_upvalues, .ref h0_tape, .ref h0_open, .ref h0_left, .int h0_prototypeCount, .int h0_constantCount, .int h0_codeCount, .int h0_upvalueCount, .int h0_length, .int h0_at, .int h0_faultFound, .int h0_faultPlace])), (oq, .inl (kq, 250, .inr (.inr (.inr (.inr (fun _ => none))))))] s.heap.size = A at hD hZ ⊢
  have hA : ∀ q : Nat, s.heap.size ≤ q → A q := fun q h => by rw [← hAe]; exact Or.inr h
  have hS : va_S A s.heap s.heap [] := va_S.rf
  have hl := lv_entry ([.ref h0, .int 0]) (n := 4) (Nat.le_of_ble_eq_true rfl)
  rw [lg_entry_eq]
  generalize (lg_sl ([.ref h0, .int 0]) ++ List.replicate (4 - (lg_sl ([.ref h0, .int 0])).length) Slot.unset).toArray = ls at hl ⊢
  have hl : lv_has ls 4 [(0, .ref h0), (1, .int 0)] := hl
  have hP : va_P (dC, dI) vwCl [(h0, .inr (1, [.ref oq, .ref h0_children, .ref h0_code, .ref h0_constantKinds, .ref h0_constantValues, .ref h0_upvalues, .ref h0_tape, .ref h0_open, .ref h0_left, .int h0_prototypeCount, .int h0_constantCount, .int h0_codeCount, .int h0_upvalueCount, .int h0_length, .int h0_at, .int h0_faultFound, .int h0_faultPlace])), (oq, .inl (kq, 250, .inr (.inr (.inr (.inr (fun _ => none))))))] s.heap := hP
  have hD : va_D A [(h0, .inr (1, [.ref oq, .ref h0_children, .ref h0_code, .ref h0_constantKinds, .ref h0_constantValues, .ref h0_upvalues, .ref h0_tape, .ref h0_open, .ref h0_left, .int h0_prototypeCount, .int h0_constantCount, .int h0_codeCount, .int h0_upvalueCount, .int h0_length, .int h0_at, .int h0_faultFound, .int h0_faultPlace])), (oq, .inl (kq, 250, .inr (.inr (.inr (.inr (fun _ => none))))))] := hD
  refine lv_aload_n hx hb d_Ch_readAll_0 rfl (lv_at hl 0 rfl) ?_
  refine lv_iload_n hx hb d_Ch_readAll_1 rfl (lv_at hl 1 rfl) ?_
  have hPc := hP.sub (ws' := [(h0, .inr (1, [.ref oq, .ref h0_children, .ref h0_code, .ref h0_constantKinds, .ref h0_constantValues, .ref h0_upvalues, .ref h0_tape, .ref h0_open, .ref h0_left, .int h0_prototypeCount, .int h0_constantCount, .int h0_codeCount, .int h0_upvalueCount, .int h0_length, .int h0_at, .int h0_faultFound, .int h0_faultPlace]))]) [0] rfl
  have hDc := hD.sub (ws' := [(h0, .inr (1, [.ref oq, .ref h0_children, .ref h0_code, .ref h0_constantKinds, .ref h0_constantValues, .ref h0_upvalues, .ref h0_tape, .ref h0_open, .ref h0_left, .int h0_prototypeCount, .int h0_constantCount, .int h0_codeCount, .int h0_upvalueCount, .int h0_length, .int h0_at, .int h0_faultFound, .int h0_faultPlace]))]) [0] (by decide) rfl
  have hKc := hK.sub (tys' := []) [] rfl
  have hFc := va_free (wc := [(h0, .inr (1, [.ref oq, .ref h0_children, .ref h0_code, .ref h0_constantKinds, .ref h0_constantValues, .ref h0_upvalues, .ref h0_tape, .ref h0_open, .ref h0_left, .int h0_prototypeCount, .int h0_constantCount, .int h0_codeCount, .int h0_upvalueCount, .int h0_length, .int h0_at, .int h0_faultFound, .int h0_faultPlace]))]) hD hS hA [0] rfl
  refine va_callv (va_runV (As := [.int 0]) (rest := []) ⟨hx, hb, hml, hown, hts⟩ (c_Ch_begin l dC dI h0 oq h0_children h0_code h0_constantKinds h0_constantValues h0_upvalues h0_tape h0_open h0_left h0_prototypeCount h0_constantCount h0_codeCount h0_upvalueCount h0_length h0_at h0_faultFound h0_faultPlace 0 s.heap.size ) (cwV 1 hts (gV kw_166 kw_167 kw_168 kw_81 k_Ch_begin) rfl rfl rfl (by decide +kernel) ⟨(Nat.le_of_ble_eq_true rfl), (Nat.le_of_ble_eq_true rfl)⟩) ⟨fun a U g mk q => by obtain ⟨q0, q1, qP, qK, qD, qhB, qhZ⟩ := q; exact ⟨q0, q1, qP, va_K.moved (u := U) (U := U.calling g mk a) (Vm.Alike.refl U.vm) qK, qD, xB.warm (s := U) (U := U.calling g mk a) (State.WarmedH.refl U) qhB, xZ.moved (u := U) (U := U.calling g mk a) (Vm.Alike.refl U.vm) qhZ⟩, va_recv hKc hPc (ci := 1) (q0 := 0) rfl rfl, fun U hU hW => ⟨rfl, by rw [hU], by rw [hU]; exact hPc, va_K.moved hW.alike hKc, hDc.weaken (fun _ _ _ _ => trivial), xB.warm hW hB, (by rw [hU]; exact xZ.moved hW.alike ((hZ.kept hS.2.1).narrow hFc))⟩⟩ rfl rfl hl.1 rfl (lv_room (Nat.le_of_ble_eq_true rfl)) d_Ch_readAll_2 ⟨(Nat.le_of_ble_eq_true rfl), (Nat.le_of_ble_eq_true rfl)⟩) hS (fun q _ h => hFc q h) hFc (fun u t H1 locs ht hvm hw hB hz1 hk1 hS => ?_)
  obtain ⟨hP1, hK1, hD1⟩ := hB
  rw [ht] at hP1
  have hK1 := va_K.moved hvm.symm hK1
  obtain ⟨hP, hD⟩ := va_join (wr := [(oq, .inl (kq, 250, .inr (.inr (.inr (.inr (fun _ => none))))))]) (w1 := [(h0, .inr (1, [.ref oq, .ref h0_children, .ref h0_code, .ref h0_constantKinds, .ref h0_constantValues, .ref h0_upvalues, .ref h0_tape, .ref h0_open, .ref h0_left, .int 0, .int 0, .int 0, .int 0, .int 0, .int 0, .int 0, .int (-1)]))]) hP hD [0] [1] rfl rfl (by decide) (by decide) hk1 hFc hP1 hD1
  have hK := (hK.sub (tys' := [(kq, .object R_Pr)]) [0] rfl).app hK1
  generalize H1 = H at hP hS ⊢
  have hK : va_K (dC, dI) vwCl [(kq, .object R_Pr)] s := hK
  have hP : va_P (dC, dI) vwCl [(oq, .inl (kq, 250, .inr (.inr (.inr (.inr (fun _ => none)))))), (h0, .inr (1, [.ref oq, .ref h0_children, .ref h0_code, .ref h0_constantKinds, .ref h0_constantValues, .ref h0_upvalues, .ref h0_tape, .ref h0_open, .ref h0_left, .int 0, .int 0, .int 0, .int 0, .int 0, .int 0, .int 0, .int (-1)]))] H := hP
  have hD : va_D A [(oq, .inl (kq, 250, .inr (.inr (.inr (.inr (fun _ => none)))))), (h0, .inr (1, [.ref oq, .ref h0_children, .ref h0_code, .ref h0_constantKinds, .ref h0_constantValues, .ref h0_upvalues, .ref h0_tape, .ref h0_open, .ref h0_left, .int 0, .int 0, .int 0, .int 0, .int 0, .int 0, .int 0, .int (-1)]))] := hD
  refine W.widen (k := 0) (n := 0) (Nat.le_of_ble_eq_true rfl) (Nat.le_of_ble_eq_true rfl) ?_
  refine lv_iconst (v := 0) hx hb d_Ch_readAll_5 (by decide) ?_
  refine lv_istore_n (lv' := [(2, .int 0), (0, .ref h0), (1, .int 0)]) hx hb d_Ch_readAll_6 rfl hl (by decide) rfl (fun ls hl => ?_)
  refine lv_iconst (v := 0) hx hb d_Ch_readAll_7 (by decide) ?_
  refine lv_istore_n (lv' := [(3, .int 0), (2, .int 0), (0, .ref h0), (1, .int 0)]) hx hb d_Ch_readAll_8 rfl hl (by decide) rfl (fun ls hl => ?_)
  refine lv_iload_n hx hb d_Ch_readAll_9 rfl (lv_at hl 0 rfl) ?_
  refine lv_sipush (v := 250) hx hb d_Ch_readAll_10 (by decide) ?_
  refine lv_icmp_gt (tgt := 155) hx hb d_Ch_readAll_13 (by decide) (fun c_13 => absurd c_13 (by decide)) (fun c_13 => ?_)
  refine lv_aload_n hx hb d_Ch_readAll_16 rfl (lv_at hl 2 rfl) ?_
  refine lv_iload_n hx hb d_Ch_readAll_17 rfl (lv_at hl 1 rfl) ?_
  have hPc := hP.sub (ws' := [(h0, .inr (1, [.ref oq, .ref h0_children, .ref h0_code, .ref h0_constantKinds, .ref h0_constantValues, .ref h0_upvalues, .ref h0_tape, .ref h0_open, .ref h0_left, .int 0, .int 0, .int 0, .int 0, .int 0, .int 0, .int 0, .int (-1)]))]) [1] rfl
  have hDc := hD.sub (ws' := [(h0, .inr (1, [.ref oq, .ref h0_children, .ref h0_code, .ref h0_constantKinds, .ref h0_constantValues, .ref h0_upvalues, .ref h0_tape, .ref h0_open, .ref h0_left, .int 0, .int 0, .int 0, .int 0, .int 0, .int 0, .int 0, .int (-1)]))]) [1] (by decide) rfl
  have hKc := hK.sub (tys' := []) [] rfl
  have hFc := va_free (wc := [(h0, .inr (1, [.ref oq, .ref h0_children, .ref h0_code, .ref h0_constantKinds, .ref h0_constantValues, .ref h0_upvalues, .ref h0_tape, .ref h0_open, .ref h0_left, .int 0, .int 0, .int 0, .int 0, .int 0, .int 0, .int 0, .int (-1)]))]) hD hS hA [1] rfl
  refine va_calli (va_runV (As := [.int 0]) (rest := []) ⟨hx, hb, hml, hown, hts⟩ (c_Ch_withoutFullOnes l dC dI h0 oq h0_children h0_code h0_constantKinds h0_constantValues h0_upvalues h0_tape h0_open h0_left 0 0 0 0 0 0 0 (-1) H.size ) (cwV 1 hts (gV kw_169 kw_170 kw_171 kw_81 k_Ch_withoutFullOnes) rfl rfl rfl (by decide +kernel) ⟨(Nat.le_of_ble_eq_true rfl), (Nat.le_of_ble_eq_true rfl)⟩) ⟨fun a U g mk q => by obtain ⟨q0, q1, qP, qK, qD, qhB, qhZ⟩ := q; exact ⟨q0, q1, qP, va_K.moved (u := U) (U := U.calling g mk a) (Vm.Alike.refl U.vm) qK, qD, xB.warm (s := U) (U := U.calling g mk a) (State.WarmedH.refl U) qhB, xZ.moved (u := U) (U := U.calling g mk a) (Vm.Alike.refl U.vm) qhZ⟩, va_recv hKc hPc (ci := 1) (q0 := 0) rfl rfl, fun U hU hW => ⟨rfl, by rw [hU], by rw [hU]; exact hPc, va_K.moved hW.alike hKc, hDc.weaken (fun _ _ _ _ => trivial), xB.warm hW hB, (by rw [hU]; exact xZ.moved hW.alike ((hZ.kept hS.2.1).narrow hFc))⟩⟩ rfl rfl hl.1 rfl (lv_room (Nat.le_of_ble_eq_true rfl)) d_Ch_readAll_18 ⟨(Nat.le_of_ble_eq_true rfl), (Nat.le_of_ble_eq_true rfl)⟩) hS (fun q _ h => hFc q h) hFc (fun r u t H1 locs ht hvm hw hB hz1 hk1 hS => ?_)
  obtain ⟨hP1, hK1, hD1⟩ := hB
  rw [ht] at hP1
  have hK1 := va_K.moved hvm.symm hK1
  obtain ⟨hP, hD⟩ := va_join (wr := [(oq, .inl (kq, 250, .inr (.inr (.inr (.inr (fun _ => none))))))]) (w1 := [(h0, .inr (1, [.ref oq, .ref h0_children, .ref h0_code, .ref h0_constantKinds, .ref h0_constantValues, .ref h0_upvalues, .ref h0_tape, .ref h0_open, .ref h0_left, .int 0, .int 0, .int 0, .int 0, .int 0, .int 0, .int 0, .int (-1)]))]) hP hD [1] [0] rfl rfl (by decide) (by decide) hk1 hFc hP1 hD1
  have hK := (hK.sub (tys' := [(kq, .object R_Pr)]) [0] rfl).app hK1
  generalize H1 = H at hP hS ⊢
  have hK : va_K (dC, dI) vwCl [(kq, .object R_Pr)] s := hK
  have hP : va_P (dC, dI) vwCl [(oq, .inl (kq, 250, .inr (.inr (.inr (.inr (fun _ => none)))))), (h0, .inr (1, [.ref oq, .ref h0_children, .ref h0_code, .ref h0_constantKinds, .ref h0_constantValues, .ref h0_upvalues, .ref h0_tape, .ref h0_open, .ref h0_left, .int 0, .int 0, .int 0, .int 0, .int 0, .int 0, .int 0, .int (-1)]))] H := hP
  have hD : va_D A [(oq, .inl (kq, 250, .inr (.inr (.inr (.inr (fun _ => none)))))), (h0, .inr (1, [.ref oq, .ref h0_children, .ref h0_code, .ref h0_constantKinds, .ref h0_constantValues, .ref h0_upvalues, .ref h0_tape, .ref h0_open, .ref h0_left, .int 0, .int 0, .int 0, .int 0, .int 0, .int 0, .int 0, .int (-1)]))] := hD
  refine W.widen (k := 0) (n := 0) (Nat.le_of_ble_eq_true rfl) (Nat.le_of_ble_eq_true rfl) ?_
  have hw : r = 0 := hw
  refine gx_i (v := 0) hw ?_
  refine lv_istore_n (lv' := [(2, .int 0), (3, .int 0), (0, .ref h0), (1, .int 0)]) hx hb d_Ch_readAll_21 rfl hl (by decide) rfl (fun ls hl => ?_)
  refine lv_iload_n hx hb d_Ch_readAll_22 rfl (lv_at hl 1 rfl) ?_
  refine lv_if_le (tgt := 59) hx hb d_Ch_readAll_23 (by decide) (fun c_23 => ?_) (fun c_23 => absurd (by decide) c_23)
  refine lv_iload_n hx hb d_Ch_readAll_59 rfl (lv_at hl 1 rfl) ?_
  refine lv_sipush (v := 250) hx hb d_Ch_readAll_60 (by decide) ?_
  refine lv_icmp_eq (tgt := 72) hx hb d_Ch_readAll_63 (by decide) (fun c_63 => absurd c_63 (by decide)) (fun c_63 => ?_)
  refine lv_iload_n hx hb d_Ch_readAll_66 rfl (lv_at hl 0 rfl) ?_
  refine lv_bipush (v := 20) hx hb d_Ch_readAll_67 (by decide) ?_
  refine lv_icmp_ne (tgt := 82) hx hb d_Ch_readAll_69 (by decide) (fun c_69 => ?_) (fun c_69 => absurd c_69 (by decide))
  refine lv_aload_n hx hb d_Ch_readAll_82 rfl (lv_at hl 2 rfl) ?_
  refine lv_iload_n hx hb d_Ch_readAll_83 rfl (lv_at hl 1 rfl) ?_
  refine lv_iload_n hx hb d_Ch_readAll_84 rfl (lv_at hl 0 rfl) ?_
  refine lv_if_ne (tgt := 92) hx hb d_Ch_readAll_85 (by decide) (fun c_85 => absurd (by decide) c_85) (fun c_85 => ?_)
  refine lv_iconst (v := (-1)) hx hb d_Ch_readAll_88 (by decide) ?_
  refine lv_goto (tgt := 100) hx hb d_Ch_readAll_89 (by decide) ?_
  have hPc := hP.sub (ws' := [(h0, .inr (1, [.ref oq, .ref h0_children, .ref h0_code, .ref h0_constantKinds, .ref h0_constantValues, .ref h0_upvalues, .ref h0_tape, .ref h0_open, .ref h0_left, .int 0, .int 0, .int 0, .int 0, .int 0, .int 0, .int 0, .int (-1)])), (oq, .inl (kq, 250, .inr (.inr (.inr (.inr (fun _ => none))))))]) [1, 0] rfl
  have hDc := hD.sub (ws' := [(h0, .inr (1, [.ref oq, .ref h0_children, .ref h0_code, .ref h0_constantKinds, .ref h0_constantValues, .ref h0_upvalues, .ref h0_tape, .ref h0_open, .ref h0_left, .int 0, .int 0, .int 0, .int 0, .int 0, .int 0, .int 0, .int (-1)])), (oq, .inl (kq, 250, .inr (.inr (.inr (.inr (fun _ => none))))))]) [1, 0] (by decide) rfl
  have hKc := hK.sub (tys' := [(kq, .object R_Pr)]) [0] rfl
  have hFc := va_free (wc := [(h0, .inr (1, [.ref oq, .ref h0_children, .ref h0_code, .ref h0_constantKinds, .ref h0_constantValues, .ref h0_upvalues, .ref h0_tape, .ref h0_open, .ref h0_left, .int 0, .int 0, .int 0, .int 0, .int 0, .int 0, .int 0, .int (-1)])), (oq, .inl (kq, 250, .inr (.inr (.inr (.inr (fun _ => none))))))]) hD hS hA [1, 0] rfl
  refine va_calli (va_runV (As := [.int 0, .int (-1)]) (rest := []) ⟨hx, hb, hml, hown, hts⟩ (c_Ch_readPrototype_short l dC dI h0 oq kq h0_children h0_code h0_constantKinds h0_constantValues h0_upvalues h0_tape h0_open h0_left 0 0 0 0 0 (-1) H.size ) (cwV 2 hts (gV kw_172 kw_173 kw_174 kw_81 k_Ch_readPrototype) rfl rfl rfl (by decide +kernel) ⟨(Nat.le_of_ble_eq_true rfl), (Nat.le_of_ble_eq_true rfl)⟩) ⟨fun a U g mk q => by obtain ⟨q0, q1, qP, qK, qD, qhB, qhZ⟩ := q; exact ⟨q0, q1, qP, va_K.moved (u := U) (U := U.calling g mk a) (Vm.Alike.refl U.vm) qK, qD, xB.warm (s := U) (U := U.calling g mk a) (State.WarmedH.refl U) qhB, xZ.moved (u := U) (U := U.calling g mk a) (Vm.Alike.refl U.vm) qhZ⟩, va_recv hKc hPc (ci := 1) (q0 := 0) rfl rfl, fun U hU hW => ⟨rfl, by rw [hU], by rw [hU]; exact hPc, va_K.moved hW.alike hKc, hDc.weaken (fun _ _ _ _ => trivial), xB.warm hW hB, (by rw [hU]; exact xZ.moved hW.alike ((hZ.kept hS.2.1).narrow hFc))⟩⟩ rfl rfl hl.1 rfl (lv_room (Nat.le_of_ble_eq_true rfl)) d_Ch_readAll_100 ⟨(Nat.le_of_ble_eq_true rfl), (Nat.le_of_ble_eq_true rfl)⟩) hS (fun q _ h => hFc q h) hFc (fun r u t H1 locs ht hvm hw hB hz1 hk1 hS => ?_)
  obtain ⟨hP1, hK1, hD1⟩ := hB
  rw [ht] at hP1
  have hK1 := va_K.moved hvm.symm hK1
  obtain ⟨hP, hD⟩ := va_join (wr := []) (w1 := [(h0, .inr (1, [.ref oq, .ref h0_children, .ref h0_code, .ref h0_constantKinds, .ref h0_constantValues, .ref h0_upvalues, .ref h0_tape, .ref h0_open, .ref h0_left, .int 1, .int 0, .int 0, .int 0, .int 0, .int 0, .int 1, .int 0]))]) hP hD [1, 0] [] rfl rfl (by decide) (by decide) hk1 hFc hP1 hD1
  have hK := (hK.sub (tys' := [(kq, .object R_Pr)]) [0] rfl).app hK1
  generalize H1 = H at hP hS ⊢
  have hK : va_K (dC, dI) vwCl [(kq, .object R_Pr)] s := hK
  have hP : va_P (dC, dI) vwCl [(h0, .inr (1, [.ref oq, .ref h0_children, .ref h0_code, .ref h0_constantKinds, .ref h0_constantValues, .ref h0_upvalues, .ref h0_tape, .ref h0_open, .ref h0_left, .int 1, .int 0, .int 0, .int 0, .int 0, .int 0, .int 1, .int 0]))] H := hP
  have hD : va_D A [(h0, .inr (1, [.ref oq, .ref h0_children, .ref h0_code, .ref h0_constantKinds, .ref h0_constantValues, .ref h0_upvalues, .ref h0_tape, .ref h0_open, .ref h0_left, .int 1, .int 0, .int 0, .int 0, .int 0, .int 0, .int 1, .int 0]))] := hD
  refine W.widen (k := 1) (n := 13) (Nat.le_of_ble_eq_true rfl) (Nat.le_of_ble_eq_true rfl) ?_
  have hw : r = 0 := hw
  refine gx_i (v := 0) hw ?_
  refine lv_if_ne (tgt := 108) hx hb d_Ch_readAll_103 (by decide) (fun c_103 => absurd (by decide) c_103) (fun c_103 => ?_)
  refine lv_iconst (v := 0) hx hb d_Ch_readAll_106 (by decide) ?_
  have hP9 := hP.sub (ws' := [(h0, .inr (1, [.ref oq, .ref h0_children, .ref h0_code, .ref h0_constantKinds, .ref h0_constantValues, .ref h0_upvalues, .ref h0_tape, .ref h0_open, .ref h0_left, .int 1, .int 0, .int 0, .int 0, .int 0, .int 0, .int 1, .int 0]))]) [0] rfl
  have hD9 := hD.sub (ws' := [(h0, .inr (1, [.ref oq, .ref h0_children, .ref h0_code, .ref h0_constantKinds, .ref h0_constantValues, .ref h0_upvalues, .ref h0_tape, .ref h0_open, .ref h0_left, .int 1, .int 0, .int 0, .int 0, .int 0, .int 0, .int 1, .int 0]))]) [0] (by decide) rfl
  have hK9 := hK.sub (tys' := []) [] rfl
  refine W.widen (k := 1) (n := 13) (Nat.le_of_ble_eq_true rfl) (Nat.le_of_ble_eq_true rfl) ?_
  exact W.zret (v := 0) hx hb hr (by decide) (fun t ht hW => ⟨⟨0, (), rfl, rfl, by rw [ht]; exact hP9, va_K.moved hW.alike hK9, hD9⟩, hS.F ht⟩) hS.2.2 d_Ch_readAll_107

set_option maxHeartbeats 4000000 in
set_option maxRecDepth 100000 in
theorem c_LM_load_empty (l : Launch) (hst : l.stackTraces = false) (dC : Nat → ClassId) (dI : Nat → Nat → Nat) (h0 : Nat) (oc : Nat) (oh : Nat) (om : Nat) (os : Nat) (ob : Nat) (h0_loaded : Int32) (oq : Nat) (kq : ClassId) (oc_children : Nat) (oc_code : Nat) (oc_constantKinds : Nat) (oc_constantValues : Nat) (oc_upvalues : Nat) (oc_tape : Nat) (oc_open : Nat) (oc_left : Nat) (oc_prototypeCount : Int32) (oc_constantCount : Int32) (oc_codeCount : Int32) (oc_upvalueCount : Int32) (oc_length : Int32) (oc_at : Int32) (oc_faultFound : Int32) (oc_faultPlace : Int32) (sz : Nat) : MetX l y_LM_load w_LM_load ({ frames := 6, cells := 2, slots := 19, locals := 113 }) (va_Pc [.ref h0] (fun U => U.heap.size = sz ∧ va_P (dC, dI) vwCl [(h0, .inr (0, [.int 0, .int h0_loaded, .ref oc, .ref oh, .ref om, .ref os, .ref ob])), (oc, .inr (1, [.ref oq, .ref oc_children, .ref oc_code, .ref oc_constantKinds, .ref oc_constantValues, .ref oc_upvalues, .ref oc_tape, .ref oc_open, .ref oc_left, .int oc_prototypeCount, .int oc_constantCount, .int oc_codeCount, .int oc_upvalueCount, .int oc_length, .int oc_at, .int oc_faultFound, .int oc_faultPlace])), (oq, .inl (kq, 250, .inr (.inr (.inr (.inr (fun _ => none))))))] U.heap ∧ va_K (dC, dI) vwCl [(kq, .object R_Pr)] U ∧ va_D (fun _ => True) [(h0, .inr (0, [.int 0, .int h0_loaded, .ref oc, .ref oh, .ref om, .ref os, .ref ob])), (oc, .inr (1, [.ref oq, .ref oc_children, .ref oc_code, .ref oc_constantKinds, .ref oc_constantValues, .ref oc_upvalues, .ref oc_tape, .ref oc_open, .ref oc_left, .int oc_prototypeCount, .int oc_constantCount, .int oc_codeCount, .int oc_upvalueCount, .int oc_length, .int oc_at, .int oc_faultFound, .int oc_faultPlace])), (oq, .inl (kq, 250, .inr (.inr (.inr (.inr (fun _ => none))))))] ∧ xB U ∧ xZ (va_A [(h0, .inr (0, [.int 0, .int h0_loaded, .ref oc, .ref oh, .ref om, .ref os, .ref ob])), (oc, .inr (1, [.ref oq, .ref oc_children, .ref oc_code, .ref oc_constantKinds, .ref oc_constantValues, .ref oc_upvalues, .ref oc_tape, .ref oc_open, .ref oc_left, .int oc_prototypeCount, .int oc_constantCount, .int oc_codeCount, .int oc_upvalueCount, .int oc_length, .int oc_at, .int oc_faultFound, .int oc_faultPlace])), (oq, .inl (kq, 250, .inr (.inr (.inr (.inr (fun _ => none))))))] sz) U U.heap)) "java/lang/UnsupportedOperationException" (va_F (va_A [(h0, .inr (0, [.int 0, .int h0_loaded, .ref oc, .ref oh, .ref om, .ref os, .ref ob])), (oc, .inr (1, [.ref oq, .ref oc_children, .ref oc_code, .ref oc_constantKinds, .ref oc_constantValues, .ref oc_upvalues, .ref oc_tape, .ref oc_open, .ref oc_left, .int oc_prototypeCount, .int oc_constantCount, .int oc_codeCount, .int oc_upvalueCount, .int oc_length, .int oc_at, .int oc_faultFound, .int oc_faultPlace])), (oq, .inl (kq, 250, .inr (.inr (.inr (.inr (fun _ => none))))))] sz)) 2 19 (va_A [(h0, .inr (0, [.int 0, .int h0_loaded, .ref oc, .ref oh, .ref om, .ref os, .ref ob])), (oc, .inr (1, [.ref oq, .ref oc_children, .ref oc_code, .ref oc_constantKinds, .ref oc_constantValues, .ref oc_upvalues, .ref oc_tape, .ref oc_open, .ref oc_left, .int oc_prototypeCount, .int oc_constantCount, .int oc_codeCount, .int oc_upvalueCount, .int oc_length, .int oc_at, .int oc_faultFound, .int oc_faultPlace])), (oq, .inl (kq, 250, .inr (.inr (.inr (.inr (fun _ => none))))))] sz) := by
  refine MetX.ofW (cc := b_LM_load) (maxL := 2) (ret := (some .int)) (by decide) rfl ?_
  intro p e s m args below meth c s₁ B hml hex hv
  obtain ⟨rfl, hsz, hP, hK, hD0, hB, hZ⟩ := hv
  have hx := B.exec
  have hb := B.bytes
  have hr := B.returns
  have hts := atoms_spec (ws := w_LM_load) B.pre
  have hown : s.vm.findClass R_LM = some m.cls := findClass_of_methodNamed B.named
  have hlocks := B.notSynchronized
  subst hsz
  have hD := hD0.self (sz := s.heap.size)
  generalize hAe : va_A [(h0, .inr (0, [.int 0, .int h0_loaded, .ref oc, .ref oh, .ref om, .ref os, .ref ob])), (oc, .inr (1, [.ref oq, .ref oc_children, .ref oc_code, .ref oc_constantKinds, .ref oc_constantValues, .ref oc_upvalues, .ref oc_tape, .ref oc_open, .ref oc_left, .int oc_prototypeCount, .int oc_constantCount, .int oc_codeCount, .int oc_upvalueCount, .int oc_length, .int oc_at, .int oc_faultFound, .int oc_faultPlace])), (oq, .inl (kq, 250, .inr (.inr (.inr (.inr (fun _ => none))))))] s.heap.size = A at hD hZ ⊢
  have hA : ∀ q : Nat, s.heap.size ≤ q → A q := fun q h => by rw [← hAe]; exact Or.inr h
  have hNs : ∀ q, A q → ∀ cell : Cell, s.heap[q]? = some cell → cell.vm.isStatics = false := by rw [← hAe]; exact xnos hP
  have hS : va_S A s.heap s.heap [] := va_S.rf
  have hl := lv_entry ([.ref h0]) (n := 2) (Nat.le_of_ble_eq_true rfl)
  rw [lg_entry_eq]
  generalize (lg_sl ([.ref h0]) ++ List.replicate (2 - (lg_sl ([.ref h0])).length) Slot.unset).toArray = ls at hl ⊢
  have hl : lv_has ls 2 [(0, .ref h0)] := hl
  have hP : va_P (dC, dI) vwCl [(h0, .inr (0, [.int 0, .int h0_loaded, .ref oc, .ref oh, .ref om, .ref os, .ref ob])), (oc, .inr (1, [.ref oq, .ref oc_children, .ref oc_code, .ref oc_constantKinds, .ref oc_constantValues, .ref oc_upvalues, .ref oc_tape, .ref oc_open, .ref oc_left, .int oc_prototypeCount, .int oc_constantCount, .int oc_codeCount, .int oc_upvalueCount, .int oc_length, .int oc_at, .int oc_faultFound, .int oc_faultPlace])), (oq, .inl (kq, 250, .inr (.inr (.inr (.inr (fun _ => none))))))] s.heap := hP
  have hD : va_D A [(h0, .inr (0, [.int 0, .int h0_loaded, .ref oc, .ref oh, .ref om, .ref os, .ref ob])), (oc, .inr (1, [.ref oq, .ref oc_children, .ref oc_code, .ref oc_constantKinds, .ref oc_constantValues, .ref oc_upvalues, .ref oc_tape, .ref oc_open, .ref oc_left, .int oc_prototypeCount, .int oc_constantCount, .int oc_codeCount, .int oc_upvalueCount, .int oc_length, .int oc_at, .int oc_faultFound, .int oc_faultPlace])), (oq, .inl (kq, 250, .inr (.inr (.inr (.inr (fun _ => none))))))] := hD
  refine lv_aload_n hx hb d_LM_load_0 rfl (lv_at hl 0 rfl) ?_
  refine va_get (D := (dC, dI)) (ci := 0) (v := .int 0) (C := R_LM) (T := TLM) (N := 7) hx hb hts (fun w h => List.mem_cons_of_mem _ (ic_LM w h)) hown hK hP 0 rfl rfl 0 (by decide) (hts (.fieldLink R_LM 58 "LuaMachine" "tapeLength" "I") (List.mem_cons_of_mem _ kw_117)) (fun _ h9 => h9) rfl d_LM_load_1 ?_
  refine lv_istore_n (lv' := [(1, .int 0), (0, .ref h0)]) hx hb d_LM_load_4 rfl hl (by decide) rfl (fun ls hl => ?_)
  refine lv_aload_n hx hb d_LM_load_5 rfl (lv_at hl 1 rfl) ?_
  refine lv_iconst (v := 0) hx hb d_LM_load_6 (by decide) ?_
  refine va_put (D := (dC, dI)) (ci := 0) (v := .int 0) (ty := .int) (C := R_LM) (T := TLM) (N := 7) hx hb hts (fun w h => List.mem_cons_of_mem _ (ic_LM w h)) tyLM tyLM_ok nmLM hown hK hP hD hS 0 rfl rfl 0 (by decide) (hts (.fieldLink R_LM 58 "LuaMachine" "tapeLength" "I") (List.mem_cons_of_mem _ kw_117)) (fun _ h9 => h9) rfl (tyLM_ok 0 (by decide)) rfl rfl (Nat.le_of_ble_eq_true rfl) d_LM_load_7 (fun H locs hP hD hS => ?_)
  have hP : va_P (dC, dI) vwCl [(h0, .inr (0, [.int 0, .int h0_loaded, .ref oc, .ref oh, .ref om, .ref os, .ref ob])), (oc, .inr (1, [.ref oq, .ref oc_children, .ref oc_code, .ref oc_constantKinds, .ref oc_constantValues, .ref oc_upvalues, .ref oc_tape, .ref oc_open, .ref oc_left, .int oc_prototypeCount, .int oc_constantCount, .int oc_codeCount, .int oc_upvalueCount, .int oc_length, .int oc_at, .int oc_faultFound, .int oc_faultPlace])), (oq, .inl (kq, 250, .inr (.inr (.inr (.inr (fun _ => none))))))] H := hP
  have hD : va_D A [(h0, .inr (0, [.int 0, .int h0_loaded, .ref oc, .ref oh, .ref om, .ref os, .ref ob])), (oc, .inr (1, [.ref oq, .ref oc_children, .ref oc_code, .ref oc_constantKinds, .ref oc_constantValues, .ref oc_upvalues, .ref oc_tape, .ref oc_open, .ref oc_left, .int oc_prototypeCount, .int oc_constantCount, .int oc_codeCount, .int oc_upvalueCount, .int oc_length, .int oc_at, .int oc_faultFound, .int oc_faultPlace])), (oq, .inl (kq, 250, .inr (.inr (.inr (.inr (fun _ => none))))))] := hD
  refine lv_aload_n hx hb d_LM_load_10 rfl (lv_at hl 1 rfl) ?_
  refine lv_iconst (v := 0) hx hb d_LM_load_11 (by decide) ?_
  refine va_put (D := (dC, dI)) (ci := 0) (v := .int 0) (ty := .boolean) (C := R_LM) (T := TLM) (N := 7) hx hb hts (fun w h => List.mem_cons_of_mem _ (ic_LM w h)) tyLM tyLM_ok nmLM hown hK hP hD hS 0 rfl rfl 1 (by decide) (hts (.fieldLink R_LM 77 "LuaMachine" "loaded" "Z") (List.mem_cons_of_mem _ kw_131)) (fun _ h9 => h9) rfl (tyLM_ok 1 (by decide)) rfl rfl (Nat.le_of_ble_eq_true rfl) d_LM_load_12 (fun H locs hP hD hS => ?_)
  have hP : va_P (dC, dI) vwCl [(h0, .inr (0, [.int 0, .int 0, .ref oc, .ref oh, .ref om, .ref os, .ref ob])), (oc, .inr (1, [.ref oq, .ref oc_children, .ref oc_code, .ref oc_constantKinds, .ref oc_constantValues, .ref oc_upvalues, .ref oc_tape, .ref oc_open, .ref oc_left, .int oc_prototypeCount, .int oc_constantCount, .int oc_codeCount, .int oc_upvalueCount, .int oc_length, .int oc_at, .int oc_faultFound, .int oc_faultPlace])), (oq, .inl (kq, 250, .inr (.inr (.inr (.inr (fun _ => none))))))] H := hP
  have hD : va_D A [(h0, .inr (0, [.int 0, .int 0, .ref oc, .ref oh, .ref om, .ref os, .ref ob])), (oc, .inr (1, [.ref oq, .ref oc_children, .ref oc_code, .ref oc_constantKinds, .ref oc_constantValues, .ref oc_upvalues, .ref oc_tape, .ref oc_open, .ref oc_left, .int oc_prototypeCount, .int oc_constantCount, .int oc_codeCount, .int oc_upvalueCount, .int oc_length, .int oc_at, .int oc_faultFound, .int oc_faultPlace])), (oq, .inl (kq, 250, .inr (.inr (.inr (.inr (fun _ => none))))))] := hD
  refine lv_aload_n hx hb d_LM_load_15 rfl (lv_at hl 1 rfl) ?_
  refine va_get (D := (dC, dI)) (ci := 0) (v := .ref oc) (C := R_LM) (T := TLM) (N := 7) hx hb hts (fun w h => List.mem_cons_of_mem _ (ic_LM w h)) hown hK hP 0 rfl rfl 2 (by decide) (hts (.fieldLink R_LM 10 "LuaMachine" "chunk" "LLuaMachine$Chunk;") (List.mem_cons_of_mem _ kw_84)) (fun _ h9 => h9) rfl d_LM_load_16 ?_
  refine lv_iload_n hx hb d_LM_load_19 rfl (lv_at hl 0 rfl) ?_
  have hPc := hP.sub (ws' := [(oc, .inr (1, [.ref oq, .ref oc_children, .ref oc_code, .ref oc_constantKinds, .ref oc_constantValues, .ref oc_upvalues, .ref oc_tape, .ref oc_open, .ref oc_left, .int oc_prototypeCount, .int oc_constantCount, .int oc_codeCount, .int oc_upvalueCount, .int oc_length, .int oc_at, .int oc_faultFound, .int oc_faultPlace])), (oq, .inl (kq, 250, .inr (.inr (.inr (.inr (fun _ => none))))))]) [1, 2] rfl
  have hDc := hD.sub (ws' := [(oc, .inr (1, [.ref oq, .ref oc_children, .ref oc_code, .ref oc_constantKinds, .ref oc_constantValues, .ref oc_upvalues, .ref oc_tape, .ref oc_open, .ref oc_left, .int oc_prototypeCount, .int oc_constantCount, .int oc_codeCount, .int oc_upvalueCount, .int oc_length, .int oc_at, .int oc_faultFound, .int oc_faultPlace])), (oq, .inl (kq, 250, .inr (.inr (.inr (.inr (fun _ => none))))))]) [1, 2] (by decide) rfl
  have hKc := hK.sub (tys' := [(kq, .object R_Pr)]) [0] rfl
  have hFc := va_free (wc := [(oc, .inr (1, [.ref oq, .ref oc_children, .ref oc_code, .ref oc_constantKinds, .ref oc_constantValues, .ref oc_upvalues, .ref oc_tape, .ref oc_open, .ref oc_left, .int oc_prototypeCount, .int oc_constantCount, .int oc_codeCount, .int oc_upvalueCount, .int oc_length, .int oc_at, .int oc_faultFound, .int oc_faultPlace])), (oq, .inl (kq, 250, .inr (.inr (.inr (.inr (fun _ => none))))))]) hD hS hA [1, 2] rfl
  refine va_calli (va_runV (As := [.int 0]) (rest := []) ⟨hx, hb, hml, hown, hts⟩ (c_Ch_readAll_empty l dC dI oc oq kq oc_children oc_code oc_constantKinds oc_constantValues oc_upvalues oc_tape oc_open oc_left oc_prototypeCount oc_constantCount oc_codeCount oc_upvalueCount oc_length oc_at oc_faultFound oc_faultPlace H.size ) (cwV 1 hts (gV kw_175 kw_176 kw_177 kw_81 k_Ch_readAll) rfl rfl rfl (by decide +kernel) ⟨(Nat.le_of_ble_eq_true rfl), (Nat.le_of_ble_eq_true rfl)⟩) ⟨fun a U g mk q => by obtain ⟨q0, q1, qP, qK, qD, qhB, qhZ⟩ := q; exact ⟨q0, q1, qP, va_K.moved (u := U) (U := U.calling g mk a) (Vm.Alike.refl U.vm) qK, qD, xB.warm (s := U) (U := U.calling g mk a) (State.WarmedH.refl U) qhB, xZ.moved (u := U) (U := U.calling g mk a) (Vm.Alike.refl U.vm) qhZ⟩, va_recv hKc hPc (ci := 1) (q0 := 0) rfl rfl, fun U hU hW => ⟨rfl, by rw [hU], by rw [hU]; exact hPc, va_K.moved hW.alike hKc, hDc.weaken (fun _ _ _ _ => trivial), xB.warm hW hB, (by rw [hU]; exact xZ.moved hW.alike ((hZ.kept hS.2.1).narrow hFc))⟩⟩ rfl rfl hl.1 rfl (lv_room (Nat.le_of_ble_eq_true rfl)) d_LM_load_20 ⟨(Nat.le_of_ble_eq_true rfl), (Nat.le_of_ble_eq_true rfl)⟩) hS (fun q _ h => hFc q h) hFc (fun r u t H1 locs ht hvm hw hB hz1 hk1 hS => ?_)
  obtain ⟨hP1, hK1, hD1⟩ := hB
  rw [ht] at hP1
  have hK1 := va_K.moved hvm.symm hK1
  obtain ⟨hP, hD⟩ := va_join (wr := [(h0, .inr (0, [.int 0, .int 0, .ref oc, .ref oh, .ref om, .ref os, .ref ob]))]) (w1 := [(oc, .inr (1, [.ref oq, .ref oc_children, .ref oc_code, .ref oc_constantKinds, .ref oc_constantValues, .ref oc_upvalues, .ref oc_tape, .ref oc_open, .ref oc_left, .int 1, .int 0, .int 0, .int 0, .int 0, .int 0, .int 1, .int 0]))]) hP hD [1, 2] [0] rfl rfl (by decide) (by decide) hk1 hFc hP1 hD1
  have hK := (hK.sub (tys' := [(kq, .object R_Pr)]) [0] rfl).app hK1
  generalize H1 = H at hP hS ⊢
  have hK : va_K (dC, dI) vwCl [(kq, .object R_Pr)] s := hK
  have hP : va_P (dC, dI) vwCl [(h0, .inr (0, [.int 0, .int 0, .ref oc, .ref oh, .ref om, .ref os, .ref ob])), (oc, .inr (1, [.ref oq, .ref oc_children, .ref oc_code, .ref oc_constantKinds, .ref oc_constantValues, .ref oc_upvalues, .ref oc_tape, .ref oc_open, .ref oc_left, .int 1, .int 0, .int 0, .int 0, .int 0, .int 0, .int 1, .int 0]))] H := hP
  have hD : va_D A [(h0, .inr (0, [.int 0, .int 0, .ref oc, .ref oh, .ref om, .ref os, .ref ob])), (oc, .inr (1, [.ref oq, .ref oc_children, .ref oc_code, .ref oc_constantKinds, .ref oc_constantValues, .ref oc_upvalues, .ref oc_tape, .ref oc_open, .ref oc_left, .int 1, .int 0, .int 0, .int 0, .int 0, .int 0, .int 1, .int 0]))] := hD
  refine W.widen (k := 1) (n := 13) (Nat.le_of_ble_eq_true rfl) (Nat.le_of_ble_eq_true rfl) ?_
  have hw : r = 0 := hw
  refine gx_i (v := 0) hw ?_
  refine lv_if_eq (tgt := 36) hx hb d_LM_load_23 (by decide) (fun c_23 => ?_) (fun c_23 => absurd (by decide) c_23)
  exact xthrow (own := R_LM) (cls := "java/lang/UnsupportedOperationException") (names := ["java/lang/RuntimeException", "java/lang/Exception"]) (ik := 89) (ic := 91) hx hb hst hown (by decide) (by decide) (hts (.classLink R_LM 89 "java/lang/UnsupportedOperationException") (List.mem_cons_of_mem _ kw_178)) (hts (.initialized "java/lang/UnsupportedOperationException") (List.mem_cons_of_mem _ kw_179)) (hts (.instantiable "java/lang/UnsupportedOperationException" 6) (List.mem_cons_of_mem _ kw_180)) (xat (fun w h => hts w (List.mem_cons_of_mem _ (xo_UnsupportedOperationException w h))) xn_UnsupportedOperationException hB hZ) hNs hS (by rw [hml]; exact hl.1) d_LM_load_36 d_LM_load_39 d_LM_load_40 d_LM_load_43 hex (Nat.le_of_ble_eq_true rfl) (Nat.le_of_ble_eq_true rfl) (Nat.le_of_ble_eq_true rfl) (Nat.le_of_ble_eq_true rfl) hlocks (fun U _ hF => hF) (Nat.le_of_ble_eq_true rfl) (Nat.le_of_ble_eq_true rfl)

