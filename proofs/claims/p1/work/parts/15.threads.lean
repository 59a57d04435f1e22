abbrev b_Va_init : ByteArray := prog_16_method_1_code
def y_Va_init : MethodName := ⟨R_Va, "<init>", "(I)V"⟩
abbrev w_Va_init : List Cond := .code y_Va_init b_Va_init 2 none :: wA
theorem k_Va_init : Cond.code y_Va_init b_Va_init 2 none ∈ wA := kinm (show _ ∈ tables_1 from (List.mem_append_right _ (List.mem_append_right _ (List.mem_append_right _ (List.mem_append_right _ (List.mem_append_right _ (List.mem_append_right _ (List.mem_append_right _ (List.mem_append_right _ (List.mem_append_left _ (List.mem_of_getElem? (l := tables_1_9) (i := 120) (by decide +kernel)))))))))))) (by decide +kernel)
theorem d_Va_init_0 : decode b_Va_init 0 = .ok (.aload_n 0, 1) := by decide +kernel
theorem d_Va_init_1 : decode b_Va_init 1 = .ok (.invokespecial 1, 3) := by decide +kernel
theorem d_Va_init_4 : decode b_Va_init 4 = .ok (.aload_n 0, 1) := by decide +kernel
theorem d_Va_init_5 : decode b_Va_init 5 = .ok (.iconst 0, 1) := by decide +kernel
theorem d_Va_init_6 : decode b_Va_init 6 = .ok (.putfield 7, 3) := by decide +kernel
theorem d_Va_init_9 : decode b_Va_init 9 = .ok (.aload_n 0, 1) := by decide +kernel
theorem d_Va_init_10 : decode b_Va_init 10 = .ok (.iload_n 1, 1) := by decide +kernel
theorem d_Va_init_11 : decode b_Va_init 11 = .ok (.newarray .byte, 2) := by decide +kernel
theorem d_Va_init_13 : decode b_Va_init 13 = .ok (.putfield 13, 3) := by decide +kernel
theorem d_Va_init_16 : decode b_Va_init 16 = .ok (.aload_n 0, 1) := by decide +kernel
theorem d_Va_init_17 : decode b_Va_init 17 = .ok (.iload_n 1, 1) := by decide +kernel
theorem d_Va_init_18 : decode b_Va_init 18 = .ok (.newarray .long, 2) := by decide +kernel
theorem d_Va_init_20 : decode b_Va_init 20 = .ok (.putfield 17, 3) := by decide +kernel
theorem d_Va_init_23 : decode b_Va_init 23 = .ok (.return_, 1) := by decide +kernel
theorem kw_182 : Cond.methodLink R_Va 1 objectInit ∈ wA := kinm (show _ ∈ tables_1 from (List.mem_append_right _ (List.mem_append_right _ (List.mem_append_right _ (List.mem_append_right _ (List.mem_append_right _ (List.mem_append_right _ (List.mem_append_right _ (List.mem_append_right _ (List.mem_append_left _ (List.mem_of_getElem? (l := tables_1_9) (i := 121) (by decide +kernel)))))))))))) (by decide +kernel)
theorem kw_183 : Cond.fieldLink R_Va 7 "LuaMachineModel$Values" "n" "I" ∈ wA := kinm (show _ ∈ tables_1 from (List.mem_append_right _ (List.mem_append_right _ (List.mem_append_right _ (List.mem_append_right _ (List.mem_append_right _ (List.mem_append_right _ (List.mem_append_right _ (List.mem_append_right _ (List.mem_append_left _ (List.mem_of_getElem? (l := tables_1_9) (i := 126) (by decide +kernel)))))))))))) (by decide +kernel)
theorem kw_184 : Cond.fieldLink R_Va 13 "LuaMachineModel$Values" "k" "[B" ∈ wA := kinm (show _ ∈ tables_1 from (List.mem_append_right _ (List.mem_append_right _ (List.mem_append_right _ (List.mem_append_right _ (List.mem_append_right _ (List.mem_append_right _ (List.mem_append_right _ (List.mem_append_right _ (List.mem_append_left _ (List.mem_of_getElem? (l := tables_1_9) (i := 122) (by decide +kernel)))))))))))) (by decide +kernel)
theorem kw_185 : Cond.fieldLink R_Va 17 "LuaMachineModel$Values" "v" "[J" ∈ wA := kinm (show _ ∈ tables_1 from (List.mem_append_right _ (List.mem_append_right _ (List.mem_append_right _ (List.mem_append_right _ (List.mem_append_right _ (List.mem_append_right _ (List.mem_append_right _ (List.mem_append_right _ (List.mem_append_left _ (List.mem_of_getElem? (l := tables_1_9) (i := 124) (by decide +kernel)))))))))))) (by decide +kernel)
abbrev b_Th_init : ByteArray := prog_15_method_1_code
def y_Th_init : MethodName := ⟨R_Th, "<init>", "()V"⟩
abbrev w_Th_init : List Cond := .code y_Th_init b_Th_init 1 none :: wA
set_option maxRecDepth 20000 in
theorem k_Th_init : Cond.code y_Th_init b_Th_init 1 none ∈ wA := kinm (show _ ∈ tables_1 from (List.mem_append_right _ (List.mem_append_right _ (List.mem_append_right _ (List.mem_append_right _ (List.mem_append_right _ (List.mem_append_right _ (List.mem_append_right _ (List.mem_append_right _ (List.mem_append_left _ (List.mem_of_getElem? (l := tables_1_9) (i := 201) rfl))))))))))) rfl
theorem d_Th_init_0 : decode b_Th_init 0 = .ok (.aload_n 0, 1) := by decide +kernel
theorem d_Th_init_1 : decode b_Th_init 1 = .ok (.invokespecial 1, 3) := by decide +kernel
theorem d_Th_init_4 : decode b_Th_init 4 = .ok (.aload_n 0, 1) := by decide +kernel
theorem d_Th_init_5 : decode b_Th_init 5 = .ok (.iconst (-1), 1) := by decide +kernel
theorem d_Th_init_6 : decode b_Th_init 6 = .ok (.putfield 7, 3) := by decide +kernel
theorem d_Th_init_9 : decode b_Th_init 9 = .ok (.aload_n 0, 1) := by decide +kernel
theorem d_Th_init_10 : decode b_Th_init 10 = .ok (.iconst 0, 1) := by decide +kernel
theorem d_Th_init_11 : decode b_Th_init 11 = .ok (.putfield 13, 3) := by decide +kernel
theorem d_Th_init_14 : decode b_Th_init 14 = .ok (.aload_n 0, 1) := by decide +kernel
theorem d_Th_init_15 : decode b_Th_init 15 = .ok (.iconst 0, 1) := by decide +kernel
theorem d_Th_init_16 : decode b_Th_init 16 = .ok (.putfield 16, 3) := by decide +kernel
theorem d_Th_init_19 : decode b_Th_init 19 = .ok (.aload_n 0, 1) := by decide +kernel
theorem d_Th_init_20 : decode b_Th_init 20 = .ok (.iconst 0, 1) := by decide +kernel
theorem d_Th_init_21 : decode b_Th_init 21 = .ok (.putfield 19, 3) := by decide +kernel
theorem d_Th_init_24 : decode b_Th_init 24 = .ok (.aload_n 0, 1) := by decide +kernel
theorem d_Th_init_25 : decode b_Th_init 25 = .ok (.iconst 0, 1) := by decide +kernel
theorem d_Th_init_26 : decode b_Th_init 26 = .ok (.putfield 22, 3) := by decide +kernel
theorem d_Th_init_29 : decode b_Th_init 29 = .ok (.aload_n 0, 1) := by decide +kernel
theorem d_Th_init_30 : decode b_Th_init 30 = .ok (.iconst 0, 1) := by decide +kernel
theorem d_Th_init_31 : decode b_Th_init 31 = .ok (.putfield 25, 3) := by decide +kernel
theorem d_Th_init_34 : decode b_Th_init 34 = .ok (.aload_n 0, 1) := by decide +kernel
theorem d_Th_init_35 : decode b_Th_init 35 = .ok (.aconst_null, 1) := by decide +kernel
theorem d_Th_init_36 : decode b_Th_init 36 = .ok (.putfield 29, 3) := by decide +kernel
theorem d_Th_init_39 : decode b_Th_init 39 = .ok (.aload_n 0, 1) := by decide +kernel
theorem d_Th_init_40 : decode b_Th_init 40 = .ok (.new 33, 3) := by decide +kernel
theorem d_Th_init_43 : decode b_Th_init 43 = .ok (.dup, 1) := by decide +kernel
theorem d_Th_init_44 : decode b_Th_init 44 = .ok (.sipush 4300, 3) := by decide +kernel
theorem d_Th_init_47 : decode b_Th_init 47 = .ok (.invokespecial 35, 3) := by decide +kernel
theorem d_Th_init_50 : decode b_Th_init 50 = .ok (.putfield 38, 3) := by decide +kernel
theorem d_Th_init_53 : decode b_Th_init 53 = .ok (.aload_n 0, 1) := by decide +kernel
theorem d_Th_init_54 : decode b_Th_init 54 = .ok (.new 33, 3) := by decide +kernel
theorem d_Th_init_57 : decode b_Th_init 57 = .ok (.dup, 1) := by decide +kernel
theorem d_Th_init_58 : decode b_Th_init 58 = .ok (.sipush 260, 3) := by decide +kernel
theorem d_Th_init_61 : decode b_Th_init 61 = .ok (.invokespecial 35, 3) := by decide +kernel
theorem d_Th_init_64 : decode b_Th_init 64 = .ok (.putfield 42, 3) := by decide +kernel
theorem d_Th_init_67 : decode b_Th_init 67 = .ok (.aload_n 0, 1) := by decide +kernel
theorem d_Th_init_68 : decode b_Th_init 68 = .ok (.new 33, 3) := by decide +kernel
theorem d_Th_init_71 : decode b_Th_init 71 = .ok (.dup, 1) := by decide +kernel
theorem d_Th_init_72 : decode b_Th_init 72 = .ok (.sipush 260, 3) := by decide +kernel
theorem d_Th_init_75 : decode b_Th_init 75 = .ok (.invokespecial 35, 3) := by decide +kernel
theorem d_Th_init_78 : decode b_Th_init 78 = .ok (.putfield 45, 3) := by decide +kernel
theorem d_Th_init_81 : decode b_Th_init 81 = .ok (.aload_n 0, 1) := by decide +kernel
theorem d_Th_init_82 : decode b_Th_init 82 = .ok (.sipush 4100, 3) := by decide +kernel
theorem d_Th_init_85 : decode b_Th_init 85 = .ok (.newarray .int, 2) := by decide +kernel
theorem d_Th_init_87 : decode b_Th_init 87 = .ok (.putfield 48, 3) := by decide +kernel
theorem d_Th_init_90 : decode b_Th_init 90 = .ok (.aload_n 0, 1) := by decide +kernel
theorem d_Th_init_91 : decode b_Th_init 91 = .ok (.sipush 201, 3) := by decide +kernel
theorem d_Th_init_94 : decode b_Th_init 94 = .ok (.newarray .int, 2) := by decide +kernel
theorem d_Th_init_96 : decode b_Th_init 96 = .ok (.putfield 52, 3) := by decide +kernel
theorem d_Th_init_99 : decode b_Th_init 99 = .ok (.aload_n 0, 1) := by decide +kernel
theorem d_Th_init_100 : decode b_Th_init 100 = .ok (.sipush 201, 3) := by decide +kernel
theorem d_Th_init_103 : decode b_Th_init 103 = .ok (.newarray .int, 2) := by decide +kernel
theorem d_Th_init_105 : decode b_Th_init 105 = .ok (.putfield 55, 3) := by decide +kernel
theorem d_Th_init_108 : decode b_Th_init 108 = .ok (.aload_n 0, 1) := by decide +kernel
theorem d_Th_init_109 : decode b_Th_init 109 = .ok (.sipush 201, 3) := by decide +kernel
theorem d_Th_init_112 : decode b_Th_init 112 = .ok (.newarray .int, 2) := by decide +kernel
theorem d_Th_init_114 : decode b_Th_init 114 = .ok (.putfield 58, 3) := by decide +kernel
theorem d_Th_init_117 : decode b_Th_init 117 = .ok (.aload_n 0, 1) := by decide +kernel
theorem d_Th_init_118 : decode b_Th_init 118 = .ok (.sipush 201, 3) := by decide +kernel
theorem d_Th_init_121 : decode b_Th_init 121 = .ok (.newarray .int, 2) := by decide +kernel
theorem d_Th_init_123 : decode b_Th_init 123 = .ok (.putfield 61, 3) := by decide +kernel
theorem d_Th_init_126 : decode b_Th_init 126 = .ok (.aload_n 0, 1) := by decide +kernel
theorem d_Th_init_127 : decode b_Th_init 127 = .ok (.sipush 201, 3) := by decide +kernel
theorem d_Th_init_130 : decode b_Th_init 130 = .ok (.newarray .int, 2) := by decide +kernel
theorem d_Th_init_132 : decode b_Th_init 132 = .ok (.putfield 64, 3) := by decide +kernel
theorem d_Th_init_135 : decode b_Th_init 135 = .ok (.aload_n 0, 1) := by decide +kernel
theorem d_Th_init_136 : decode b_Th_init 136 = .ok (.sipush 201, 3) := by decide +kernel
theorem d_Th_init_139 : decode b_Th_init 139 = .ok (.newarray .int, 2) := by decide +kernel
theorem d_Th_init_141 : decode b_Th_init 141 = .ok (.putfield 67, 3) := by decide +kernel
theorem d_Th_init_144 : decode b_Th_init 144 = .ok (.aload_n 0, 1) := by decide +kernel
theorem d_Th_init_145 : decode b_Th_init 145 = .ok (.sipush 201, 3) := by decide +kernel
theorem d_Th_init_148 : decode b_Th_init 148 = .ok (.newarray .int, 2) := by decide +kernel
theorem d_Th_init_150 : decode b_Th_init 150 = .ok (.putfield 70, 3) := by decide +kernel
theorem d_Th_init_153 : decode b_Th_init 153 = .ok (.aload_n 0, 1) := by decide +kernel
theorem d_Th_init_154 : decode b_Th_init 154 = .ok (.sipush 201, 3) := by decide +kernel
theorem d_Th_init_157 : decode b_Th_init 157 = .ok (.newarray .int, 2) := by decide +kernel
theorem d_Th_init_159 : decode b_Th_init 159 = .ok (.putfield 73, 3) := by decide +kernel
theorem d_Th_init_162 : decode b_Th_init 162 = .ok (.aload_n 0, 1) := by decide +kernel
theorem d_Th_init_163 : decode b_Th_init 163 = .ok (.sipush 201, 3) := by decide +kernel
theorem d_Th_init_166 : decode b_Th_init 166 = .ok (.newarray .int, 2) := by decide +kernel
theorem d_Th_init_168 : decode b_Th_init 168 = .ok (.putfield 76, 3) := by decide +kernel
theorem d_Th_init_171 : decode b_Th_init 171 = .ok (.aload_n 0, 1) := by decide +kernel
theorem d_Th_init_172 : decode b_Th_init 172 = .ok (.sipush 201, 3) := by decide +kernel
theorem d_Th_init_175 : decode b_Th_init 175 = .ok (.newarray .int, 2) := by decide +kernel
theorem d_Th_init_177 : decode b_Th_init 177 = .ok (.putfield 79, 3) := by decide +kernel
theorem d_Th_init_180 : decode b_Th_init 180 = .ok (.aload_n 0, 1) := by decide +kernel
theorem d_Th_init_181 : decode b_Th_init 181 = .ok (.sipush 201, 3) := by decide +kernel
theorem d_Th_init_184 : decode b_Th_init 184 = .ok (.newarray .int, 2) := by decide +kernel
theorem d_Th_init_186 : decode b_Th_init 186 = .ok (.putfield 82, 3) := by decide +kernel
theorem d_Th_init_189 : decode b_Th_init 189 = .ok (.return_, 1) := by decide +kernel
theorem kw_186 : Cond.methodLink R_Th 1 objectInit ∈ wA := kinm (show _ ∈ tables_1 from (List.mem_append_right _ (List.mem_append_right _ (List.mem_append_right _ (List.mem_append_right _ (List.mem_append_right _ (List.mem_append_right _ (List.mem_append_right _ (List.mem_append_right _ (List.mem_append_left _ (List.mem_of_getElem? (l := tables_1_9) (i := 202) (by decide +kernel)))))))))))) (by decide +kernel)
theorem kw_187 : Cond.fieldLink R_Th 7 "LuaMachineModel$Thread_" "place" "I" ∈ wA := kinm (show _ ∈ tables_1 from (List.mem_append_right _ (List.mem_append_right _ (List.mem_append_right _ (List.mem_append_right _ (List.mem_append_right _ (List.mem_append_right _ (List.mem_append_right _ (List.mem_append_right _ (List.mem_append_left _ (List.mem_of_getElem? (l := tables_1_9) (i := 205) (by decide +kernel)))))))))))) (by decide +kernel)
theorem kw_188 : Cond.fieldLink R_Th 13 "LuaMachineModel$Thread_" "state" "I" ∈ wA := kinm (show _ ∈ tables_1 from (List.mem_append_right _ (List.mem_append_right _ (List.mem_append_right _ (List.mem_append_right _ (List.mem_append_right _ (List.mem_append_right _ (List.mem_append_right _ (List.mem_append_right _ (List.mem_append_left _ (List.mem_of_getElem? (l := tables_1_9) (i := 207) (by decide +kernel)))))))))))) (by decide +kernel)
theorem kw_189 : Cond.fieldLink R_Th 16 "LuaMachineModel$Thread_" "frames" "I" ∈ wA := kinm (show _ ∈ tables_1 from (List.mem_append_right _ (List.mem_append_right _ (List.mem_append_right _ (List.mem_append_right _ (List.mem_append_right _ (List.mem_append_right _ (List.mem_append_right _ (List.mem_append_right _ (List.mem_append_left _ (List.mem_of_getElem? (l := tables_1_9) (i := 209) (by decide +kernel)))))))))))) (by decide +kernel)
theorem kw_190 : Cond.fieldLink R_Th 19 "LuaMachineModel$Thread_" "openCount" "I" ∈ wA := kinm (show _ ∈ tables_1 from (List.mem_append_right _ (List.mem_append_right _ (List.mem_append_right _ (List.mem_append_right _ (List.mem_append_right _ (List.mem_append_right _ (List.mem_append_right _ (List.mem_append_right _ (List.mem_append_left _ (List.mem_of_getElem? (l := tables_1_9) (i := 211) (by decide +kernel)))))))))))) (by decide +kernel)
theorem kw_191 : Cond.fieldLink R_Th 22 "LuaMachineModel$Thread_" "room" "I" ∈ wA := kinm (show _ ∈ tables_1 from (List.mem_append_right _ (List.mem_append_right _ (List.mem_append_right _ (List.mem_append_right _ (List.mem_append_right _ (List.mem_append_right _ (List.mem_append_right _ (List.mem_append_right _ (List.mem_append_left _ (List.mem_of_getElem? (l := tables_1_9) (i := 213) (by decide +kernel)))))))))))) (by decide +kernel)
theorem kw_192 : Cond.fieldLink R_Th 25 "LuaMachineModel$Thread_" "begun" "Z" ∈ wA := kinm (show _ ∈ tables_1 from (List.mem_append_right _ (List.mem_append_right _ (List.mem_append_right _ (List.mem_append_right _ (List.mem_append_right _ (List.mem_append_right _ (List.mem_append_right _ (List.mem_append_right _ (List.mem_append_left _ (List.mem_of_getElem? (l := tables_1_9) (i := 214) (by decide +kernel)))))))))))) (by decide +kernel)
theorem kw_193 : Cond.fieldLink R_Th 29 "LuaMachineModel$Thread_" "resumer" "LLuaMachineModel$Thread_;" ∈ wA := kinm (show _ ∈ tables_1 from (List.mem_append_right _ (List.mem_append_right _ (List.mem_append_right _ (List.mem_append_right _ (List.mem_append_right _ (List.mem_append_right _ (List.mem_append_right _ (List.mem_append_right _ (List.mem_append_left _ (List.mem_of_getElem? (l := tables_1_9) (i := 216) (by decide +kernel)))))))))))) (by decide +kernel)
theorem kw_194 : Cond.classLink R_Th 33 R_Va ∈ wA := kinm (show _ ∈ tables_1 from (List.mem_append_right _ (List.mem_append_right _ (List.mem_append_right _ (List.mem_append_right _ (List.mem_append_right _ (List.mem_append_right _ (List.mem_append_right _ (List.mem_append_right _ (List.mem_append_left _ (List.mem_of_getElem? (l := tables_1_9) (i := 203) (by decide +kernel)))))))))))) (by decide +kernel)
theorem kw_195 : Cond.instantiable R_Va 3 ∈ wA := kinm (show _ ∈ tables_1 from (List.mem_append_right _ (List.mem_append_right _ (List.mem_append_right _ (List.mem_append_right _ (List.mem_append_right _ (List.mem_append_right _ (List.mem_append_right _ (List.mem_append_right _ (List.mem_append_left _ (List.mem_of_getElem? (l := tables_1_9) (i := 117) (by decide +kernel)))))))))))) (by decide +kernel)
theorem kw_196 : Cond.initialized R_Va ∈ wA := kinm (show _ ∈ tables_1 from (List.mem_append_left _ (List.mem_of_getElem? (l := tables_1_1) (i := 10) (by decide +kernel)))) (by decide +kernel)
theorem kw_197 : Cond.methodLink R_Th 35 y_Va_init ∈ wA := kinm (show _ ∈ tables_1 from (List.mem_append_right _ (List.mem_append_right _ (List.mem_append_right _ (List.mem_append_right _ (List.mem_append_right _ (List.mem_append_right _ (List.mem_append_right _ (List.mem_append_right _ (List.mem_append_left _ (List.mem_of_getElem? (l := tables_1_9) (i := 204) (by decide +kernel)))))))))))) (by decide +kernel)
theorem kw_198 : Cond.instanceMethod y_Va_init ∈ wA := kinm (show _ ∈ tables_1 from (List.mem_append_right _ (List.mem_append_right _ (List.mem_append_right _ (List.mem_append_right _ (List.mem_append_right _ (List.mem_append_right _ (List.mem_append_right _ (List.mem_append_right _ (List.mem_append_left _ (List.mem_of_getElem? (l := tables_1_9) (i := 119) (by decide +kernel)))))))))))) (by decide +kernel)
theorem kw_199 : Cond.fieldLink R_Th 38 "LuaMachineModel$Thread_" "stack" "LLuaMachineModel$Values;" ∈ wA := kinm (show _ ∈ tables_1 from (List.mem_append_right _ (List.mem_append_right _ (List.mem_append_right _ (List.mem_append_right _ (List.mem_append_right _ (List.mem_append_right _ (List.mem_append_right _ (List.mem_append_right _ (List.mem_append_left _ (List.mem_of_getElem? (l := tables_1_9) (i := 218) (by decide +kernel)))))))))))) (by decide +kernel)
theorem kw_200 : Cond.fieldLink R_Th 42 "LuaMachineModel$Thread_" "row" "LLuaMachineModel$Values;" ∈ wA := kinm (show _ ∈ tables_1 from (List.mem_append_right _ (List.mem_append_right _ (List.mem_append_right _ (List.mem_append_right _ (List.mem_append_right _ (List.mem_append_right _ (List.mem_append_right _ (List.mem_append_right _ (List.mem_append_left _ (List.mem_of_getElem? (l := tables_1_9) (i := 220) (by decide +kernel)))))))))))) (by decide +kernel)
theorem kw_201 : Cond.fieldLink R_Th 45 "LuaMachineModel$Thread_" "start" "LLuaMachineModel$Values;" ∈ wA := kinm (show _ ∈ tables_1 from (List.mem_append_right _ (List.mem_append_right _ (List.mem_append_right _ (List.mem_append_right _ (List.mem_append_right _ (List.mem_append_right _ (List.mem_append_right _ (List.mem_append_right _ (List.mem_append_left _ (List.mem_of_getElem? (l := tables_1_9) (i := 222) (by decide +kernel)))))))))))) (by decide +kernel)
theorem kw_202 : Cond.fieldLink R_Th 48 "LuaMachineModel$Thread_" "open" "[I" ∈ wA := kinm (show _ ∈ tables_1 from (List.mem_append_right _ (List.mem_append_right _ (List.mem_append_right _ (List.mem_append_right _ (List.mem_append_right _ (List.mem_append_right _ (List.mem_append_right _ (List.mem_append_right _ (List.mem_append_left _ (List.mem_of_getElem? (l := tables_1_9) (i := 224) (by decide +kernel)))))))))))) (by decide +kernel)
theorem kw_203 : Cond.fieldLink R_Th 52 "LuaMachineModel$Thread_" "kind" "[I" ∈ wA := kinm (show _ ∈ tables_1 from (List.mem_append_right _ (List.mem_append_right _ (List.mem_append_right _ (List.mem_append_right _ (List.mem_append_right _ (List.mem_append_right _ (List.mem_append_right _ (List.mem_append_right _ (List.mem_append_left _ (List.mem_of_getElem? (l := tables_1_9) (i := 226) (by decide +kernel)))))))))))) (by decide +kernel)
theorem kw_204 : Cond.fieldLink R_Th 55 "LuaMachineModel$Thread_" "function" "[I" ∈ wA := kinm (show _ ∈ tables_1 from (List.mem_append_right _ (List.mem_append_right _ (List.mem_append_right _ (List.mem_append_right _ (List.mem_append_right _ (List.mem_append_right _ (List.mem_append_right _ (List.mem_append_right _ (List.mem_append_left _ (List.mem_of_getElem? (l := tables_1_9) (i := 228) (by decide +kernel)))))))))))) (by decide +kernel)
theorem kw_205 : Cond.fieldLink R_Th 58 "LuaMachineModel$Thread_" "pc" "[I" ∈ wA := kinm (show _ ∈ tables_1 from (List.mem_append_right _ (List.mem_append_right _ (List.mem_append_right _ (List.mem_append_right _ (List.mem_append_right _ (List.mem_append_right _ (List.mem_append_right _ (List.mem_append_right _ (List.mem_append_left _ (List.mem_of_getElem? (l := tables_1_9) (i := 230) (by decide +kernel)))))))))))) (by decide +kernel)
theorem kw_206 : Cond.fieldLink R_Th 61 "LuaMachineModel$Thread_" "base" "[I" ∈ wA := kinm (show _ ∈ tables_1 from (List.mem_append_right _ (List.mem_append_right _ (List.mem_append_right _ (List.mem_append_right _ (List.mem_append_right _ (List.mem_append_right _ (List.mem_append_right _ (List.mem_append_right _ (List.mem_append_left _ (List.mem_of_getElem? (l := tables_1_9) (i := 232) (by decide +kernel)))))))))))) (by decide +kernel)
theorem kw_207 : Cond.fieldLink R_Th 64 "LuaMachineModel$Thread_" "extra" "[I" ∈ wA := kinm (show _ ∈ tables_1 from (List.mem_append_right _ (List.mem_append_right _ (List.mem_append_right _ (List.mem_append_right _ (List.mem_append_right _ (List.mem_append_right _ (List.mem_append_right _ (List.mem_append_right _ (List.mem_append_left _ (List.mem_of_getElem? (l := tables_1_9) (i := 234) (by decide +kernel)))))))))))) (by decide +kernel)
theorem kw_208 : Cond.fieldLink R_Th 67 "LuaMachineModel$Thread_" "rowAt" "[I" ∈ wA := kinm (show _ ∈ tables_1 from (List.mem_append_right _ (List.mem_append_right _ (List.mem_append_right _ (List.mem_append_right _ (List.mem_append_right _ (List.mem_append_right _ (List.mem_append_right _ (List.mem_append_right _ (List.mem_append_left _ (List.mem_of_getElem? (l := tables_1_9) (i := 236) (by decide +kernel)))))))))))) (by decide +kernel)
theorem kw_209 : Cond.fieldLink R_Th 70 "LuaMachineModel$Thread_" "rowCount" "[I" ∈ wA := kinm (show _ ∈ tables_1 from (List.mem_append_right _ (List.mem_append_right _ (List.mem_append_right _ (List.mem_append_right _ (List.mem_append_right _ (List.mem_append_right _ (List.mem_append_right _ (List.mem_append_right _ (List.mem_append_left _ (List.mem_of_getElem? (l := tables_1_9) (i := 238) (by decide +kernel)))))))))))) (by decide +kernel)
theorem kw_210 : Cond.fieldLink R_Th 73 "LuaMachineModel$Thread_" "mode" "[I" ∈ wA := kinm (show _ ∈ tables_1 from (List.mem_append_right _ (List.mem_append_right _ (List.mem_append_right _ (List.mem_append_right _ (List.mem_append_right _ (List.mem_append_right _ (List.mem_append_right _ (List.mem_append_right _ (List.mem_append_right _ (List.mem_append_left _ (List.mem_of_getElem? (l := tables_1_10) (i := 0) (by decide +kernel))))))))))))) (by decide +kernel)
theorem kw_211 : Cond.fieldLink R_Th 76 "LuaMachineModel$Thread_" "into" "[I" ∈ wA := kinm (show _ ∈ tables_1 from (List.mem_append_right _ (List.mem_append_right _ (List.mem_append_right _ (List.mem_append_right _ (List.mem_append_right _ (List.mem_append_right _ (List.mem_append_right _ (List.mem_append_right _ (List.mem_append_right _ (List.mem_append_left _ (List.mem_of_getElem? (l := tables_1_10) (i := 2) (by decide +kernel))))))))))))) (by decide +kernel)
theorem kw_212 : Cond.fieldLink R_Th 79 "LuaMachineModel$Thread_" "want" "[I" ∈ wA := kinm (show _ ∈ tables_1 from (List.mem_append_right _ (List.mem_append_right _ (List.mem_append_right _ (List.mem_append_right _ (List.mem_append_right _ (List.mem_append_right _ (List.mem_append_right _ (List.mem_append_right _ (List.mem_append_right _ (List.mem_append_left _ (List.mem_of_getElem? (l := tables_1_10) (i := 4) (by decide +kernel))))))))))))) (by decide +kernel)
theorem kw_213 : Cond.fieldLink R_Th 82 "LuaMachineModel$Thread_" "step" "[I" ∈ wA := kinm (show _ ∈ tables_1 from (List.mem_append_right _ (List.mem_append_right _ (List.mem_append_right _ (List.mem_append_right _ (List.mem_append_right _ (List.mem_append_right _ (List.mem_append_right _ (List.mem_append_right _ (List.mem_append_right _ (List.mem_append_left _ (List.mem_of_getElem? (l := tables_1_10) (i := 6) (by decide +kernel))))))))))))) (by decide +kernel)
set_option maxHeartbeats 4000000 in
set_option maxRecDepth 100000 in
theorem c_Va_init_20001 (l : Launch) (dC : Nat → ClassId) (dI : Nat → Nat → Nat) (h0 : Nat) (sz : Nat) : Met l y_Va_init w_Va_init ({ frames := 1, cells := 2, slots := 40002, locals := 12 }) (va_Pc [.ref h0, .int 20001] (fun U => U.heap.size = sz ∧ va_P (dC, dI) vwCl [(h0, .inr (10, [.null, .null, .int 0]))] U.heap ∧ va_K (dC, dI) vwCl [] U ∧ va_D (fun _ => True) [(h0, .inr (10, [.null, .null, .int 0]))] ∧ xB U ∧ xZ (va_A [(h0, .inr (10, [.null, .null, .int 0]))] sz) U U.heap)) (va_Qv (fun (_ : Unit) => True) (fun _ t => ∃ (q11 : Nat), ∃ (q18 : Nat), va_P (dC, dI) vwCl [(h0, .inr (10, [.ref q11, .ref q18, .int 0]))] t.heap ∧ va_K (dC, dI) vwCl [] t ∧ va_D (va_A [(h0, .inr (10, [.null, .null, .int 0]))] sz) [(h0, .inr (10, [.ref q11, .ref q18, .int 0]))]) (va_A [(h0, .inr (10, [.null, .null, .int 0]))] sz)) 2 40002 (va_A [(h0, .inr (10, [.null, .null, .int 0]))] sz) := by
  refine Met.ofW (cc := b_Va_init) (maxL := 2) (ret := none) (by decide) rfl ?_
  intro p e s m args below meth c s₁ B hml hv
  obtain ⟨rfl, hsz, hP, hK, hD0, hB, hZ⟩ := hv
  have hx := B.exec
  have hb := B.bytes
  have hr := B.returns
  have hts := atoms_spec (ws := w_Va_init) B.pre
  have hown : s.vm.findClass R_Va = some m.cls := findClass_of_methodNamed B.named
  have hlocks := B.notSynchronized
  have hin : meth.name = "<init>" := (name_of_methodNamed B.named B.method).1
  subst hsz
  have hD := hD0.self (sz := s.heap.size)
  generalize hAe : va_A [(h0, .inr (10, [.null, .null, .int 0]))] s.heap.size = A at hD hZ ⊢
  have hA : ∀ q : Nat, s.heap.size ≤ q → A q := fun q h => by rw [← hAe]; exact Or.inr h
  have hS : va_S A s.heap s.heap [] := va_S.rf
  have hl := lv_entry ([.ref h0, .int 20001]) (n := 2) (Nat.le_of_ble_eq_true rfl)
  rw [lg_entry_eq]
  generalize (lg_sl ([.ref h0, .int 20001]) ++ List.replicate (2 - (lg_sl ([.ref h0, .int 20001])).length) Slot.unset).toArray = ls at hl ⊢
  have hl : lv_has ls 2 [(0, .ref h0), (1, .int 20001)] := hl
  have hP : va_P (dC, dI) vwCl [(h0, .inr (10, [.null, .null, .int 0]))] s.heap := hP
  have hD : va_D A [(h0, .inr (10, [.null, .null, .int 0]))] := hD
  refine lv_aload_n hx hb d_Va_init_0 rfl (lv_at hl 0 rfl) ?_
  refine W.objInit hx hb hown (hts (.methodLink R_Va 1 objectInit) (List.mem_cons_of_mem _ kw_182)) (hts (.instanceMethod objectInit) (List.mem_cons_of_mem _ kw_1)) (hts (.code objectInit ⟨#[0xb1]⟩ 1 none) (List.mem_cons_of_mem _ kw_2)) rfl (by rw [hml]; exact hl.1) rfl d_Va_init_1 (Nat.le_of_ble_eq_true rfl) (Nat.le_of_ble_eq_true rfl) ?_
  refine W.eq (g2 := F0 m 4 ls []) rfl ?_
  refine lv_aload_n hx hb d_Va_init_4 rfl (lv_at hl 0 rfl) ?_
  refine lv_iconst (v := 0) hx hb d_Va_init_5 (by decide) ?_
  refine va_put (D := (dC, dI)) (ci := 10) (v := .int 0) (ty := .int) (C := R_Va) (T := TVa) (N := 3) hx hb hts (fun w h => List.mem_cons_of_mem _ (ic_Va w h)) tyVa tyVa_ok nmVa hown hK hP hD hS 0 rfl rfl 2 (by decide) (hts (.fieldLink R_Va 7 "LuaMachineModel$Values" "n" "I") (List.mem_cons_of_mem _ kw_183)) (fun _ h9 => h9) rfl (tyVa_ok 2 (by decide)) rfl rfl (Nat.le_of_ble_eq_true rfl) d_Va_init_6 (fun H locs hP hD hS => ?_)
  have hP : va_P (dC, dI) vwCl [(h0, .inr (10, [.null, .null, .int 0]))] H := hP
  have hD : va_D A [(h0, .inr (10, [.null, .null, .int 0]))] := hD
  refine lv_aload_n hx hb d_Va_init_9 rfl (lv_at hl 0 rfl) ?_
  refine lv_iload_n hx hb d_Va_init_10 rfl (lv_at hl 1 rfl) ?_
  refine va_newa (atype := .byte) (a0 := (20001, .inl (fun _ => 0))) hx hb (hts (.arrayClass .byte) (List.mem_cons_of_mem _ kw_9)) (ty := .byte) rfl hK hP hD hS hA (fun _ => rfl) (by decide) (by decide) (by decide) (Nat.le_of_ble_eq_true rfl) (Nat.le_of_ble_eq_true rfl) d_Va_init_11 (fun q11 k11 H hK hP hD hS => ?_)
  have hK : va_K (dC, dI) vwCl [(k11, .byte)] s := hK
  have hP : va_P (dC, dI) vwCl [(h0, .inr (10, [.null, .null, .int 0])), (q11, .inl (k11, 20001, .inl (fun _ => 0)))] H := hP
  have hD : va_D A [(h0, .inr (10, [.null, .null, .int 0])), (q11, .inl (k11, 20001, .inl (fun _ => 0)))] := hD
  refine W.widen (k := 1) (n := 20001) (Nat.le_of_ble_eq_true rfl) (Nat.le_of_ble_eq_true rfl) ?_
  refine va_putF (D := (dC, dI)) (ci := 10) (v := .ref q11) (ty := (.array .byte)) (C := R_Va) (T := TVa) (N := 3) hx hb hts (fun w h => List.mem_cons_of_mem _ (ic_Va w h)) tyVa tyVa_ok nmVa hown hK hP hD hS 0 rfl rfl 0 (by decide) (hts (.fieldLink R_Va 13 "LuaMachineModel$Values" "k" "[B") (List.mem_cons_of_mem _ kw_184)) (fun _ h9 => h9) rfl hin rfl (tyVa_ok 0 (by decide)) rfl rfl (Nat.le_of_ble_eq_true rfl) d_Va_init_13 (fun H locs hP hD hS => ?_)
  have hP : va_P (dC, dI) vwCl [(h0, .inr (10, [.ref q11, .null, .int 0])), (q11, .inl (k11, 20001, .inl (fun _ => 0)))] H := hP
  have hD : va_D A [(h0, .inr (10, [.ref q11, .null, .int 0])), (q11, .inl (k11, 20001, .inl (fun _ => 0)))] := hD
  refine lv_aload_n hx hb d_Va_init_16 rfl (lv_at hl 0 rfl) ?_
  refine lv_iload_n hx hb d_Va_init_17 rfl (lv_at hl 1 rfl) ?_
  refine va_newa (atype := .long) (a0 := (20001, .inr (.inl (fun _ => 0)))) hx hb (hts (.arrayClass .long) (List.mem_cons_of_mem _ kw_11)) (ty := .long) rfl hK hP hD hS hA (fun _ => rfl) (by decide) (by decide) (by decide) (Nat.le_of_ble_eq_true rfl) (Nat.le_of_ble_eq_true rfl) d_Va_init_18 (fun q18 k18 H hK hP hD hS => ?_)
  have hK : va_K (dC, dI) vwCl [(k11, .byte), (k18, .long)] s := hK
  have hP : va_P (dC, dI) vwCl [(h0, .inr (10, [.ref q11, .null, .int 0])), (q11, .inl (k11, 20001, .inl (fun _ => 0))), (q18, .inl (k18, 20001, .inr (.inl (fun _ => 0))))] H := hP
  have hD : va_D A [(h0, .inr (10, [.ref q11, .null, .int 0])), (q11, .inl (k11, 20001, .inl (fun _ => 0))), (q18, .inl (k18, 20001, .inr (.inl (fun _ => 0))))] := hD
  refine W.widen (k := 2) (n := 40002) (Nat.le_of_ble_eq_true rfl) (Nat.le_of_ble_eq_true rfl) ?_
  refine va_putF (D := (dC, dI)) (ci := 10) (v := .ref q18) (ty := (.array .long)) (C := R_Va) (T := TVa) (N := 3) hx hb hts (fun w h => List.mem_cons_of_mem _ (ic_Va w h)) tyVa tyVa_ok nmVa hown hK hP hD hS 0 rfl rfl 1 (by decide) (hts (.fieldLink R_Va 17 "LuaMachineModel$Values" "v" "[J") (List.mem_cons_of_mem _ kw_185)) (fun _ h9 => h9) rfl hin rfl (tyVa_ok 1 (by decide)) rfl rfl (Nat.le_of_ble_eq_true rfl) d_Va_init_20 (fun H locs hP hD hS => ?_)
  have hP : va_P (dC, dI) vwCl [(h0, .inr (10, [.ref q11, .ref q18, .int 0])), (q11, .inl (k11, 20001, .inl (fun _ => 0))), (q18, .inl (k18, 20001, .inr (.inl (fun _ => 0))))] H := hP
  have hD : va_D A [(h0, .inr (10, [.ref q11, .ref q18, .int 0])), (q11, .inl (k11, 20001, .inl (fun _ => 0))), (q18, .inl (k18, 20001, .inr (.inl (fun _ => 0))))] := hD
  have hP9 := hP.sub (ws' := [(h0, .inr (10, [.ref q11, .ref q18, .int 0]))]) [0] rfl
  have hD9 := hD.sub (ws' := [(h0, .inr (10, [.ref q11, .ref q18, .int 0]))]) [0] (by decide) rfl
  have hK9 := hK.sub (tys' := []) [] rfl
  refine W.widen (k := 2) (n := 40002) (Nat.le_of_ble_eq_true rfl) (Nat.le_of_ble_eq_true rfl) ?_
  exact W.vret hx hb hr (fun t ht hW => ⟨⟨(), rfl, trivial, q11, q18, by rw [ht]; exact hP9, va_K.moved hW.alike hK9, hD9⟩, hS.F ht⟩) hS.2.2 d_Va_init_23

set_option maxHeartbeats 4000000 in
set_option maxRecDepth 100000 in
theorem c_Va_init_4100 (l : Launch) (dC : Nat → ClassId) (dI : Nat → Nat → Nat) (h0 : Nat) (sz : Nat) : Met l y_Va_init w_Va_init ({ frames := 1, cells := 2, slots := 8200, locals := 12 }) (va_Pc [.ref h0, .int 4100] (fun U => U.heap.size = sz ∧ va_P (dC, dI) vwCl [(h0, .inr (10, [.null, .null, .int 0]))] U.heap ∧ va_K (dC, dI) vwCl [] U ∧ va_D (fun _ => True) [(h0, .inr (10, [.null, .null, .int 0]))] ∧ xB U ∧ xZ (va_A [(h0, .inr (10, [.null, .null, .int 0]))] sz) U U.heap)) (va_Qv (fun (_ : Unit) => True) (fun _ t => ∃ (q11 : Nat), ∃ (q18 : Nat), va_P (dC, dI) vwCl [(h0, .inr (10, [.ref q11, .ref q18, .int 0]))] t.heap ∧ va_K (dC, dI) vwCl [] t ∧ va_D (va_A [(h0, .inr (10, [.null, .null, .int 0]))] sz) [(h0, .inr (10, [.ref q11, .ref q18, .int 0]))]) (va_A [(h0, .inr (10, [.null, .null, .int 0]))] sz)) 2 8200 (va_A [(h0, .inr (10, [.null, .null, .int 0]))] sz) := by
  refine Met.ofW (cc := b_Va_init) (maxL := 2) (ret := none) (by decide) rfl ?_
  intro p e s m args below meth c s₁ B hml hv
  obtain ⟨rfl, hsz, hP, hK, hD0, hB, hZ⟩ := hv
  have hx := B.exec
  have hb := B.bytes
  have hr := B.returns
  have hts := atoms_spec (ws := w_Va_init) B.pre
  have hown : s.vm.findClass R_Va = some m.cls := findClass_of_methodNamed B.named
  have hlocks := B.notSynchronized
  have hin : meth.name = "<init>" := (name_of_methodNamed B.named B.method).1
  subst hsz
  have hD := hD0.self (sz := s.heap.size)
  generalize hAe : va_A [(h0, .inr (10, [.null, .null, .int 0]))] s.heap.size = A at hD hZ ⊢
  have hA : ∀ q : Nat, s.heap.size ≤ q → A q := fun q h => by rw [← hAe]; exact Or.inr h
  have hS : va_S A s.heap s.heap [] := va_S.rf
  have hl := lv_entry ([.ref h0, .int 4100]) (n := 2) (Nat.le_of_ble_eq_true rfl)
  rw [lg_entry_eq]
  generalize (lg_sl ([.ref h0, .int 4100]) ++ List.replicate (2 - (lg_sl ([.ref h0, .int 4100])).length) Slot.unset).toArray = ls at hl ⊢
  have hl : lv_has ls 2 [(0, .ref h0), (1, .int 4100)] := hl
  have hP : va_P (dC, dI) vwCl [(h0, .inr (10, [.null, .null, .int 0]))] s.heap := hP
  have hD : va_D A [(h0, .inr (10, [.null, .null, .int 0]))] := hD
  refine lv_aload_n hx hb d_Va_init_0 rfl (lv_at hl 0 rfl) ?_
  refine W.objInit hx hb hown (hts (.methodLink R_Va 1 objectInit) (List.mem_cons_of_mem _ kw_182)) (hts (.instanceMethod objectInit) (List.mem_cons_of_mem _ kw_1)) (hts (.code objectInit ⟨#[0xb1]⟩ 1 none) (List.mem_cons_of_mem _ kw_2)) rfl (by rw [hml]; exact hl.1) rfl d_Va_init_1 (Nat.le_of_ble_eq_true rfl) (Nat.le_of_ble_eq_true rfl) ?_
  refine W.eq (g2 := F0 m 4 ls []) rfl ?_
  refine lv_aload_n hx hb d_Va_init_4 rfl (lv_at hl 0 rfl) ?_
  refine lv_iconst (v := 0) hx hb d_Va_init_5 (by decide) ?_
  refine va_put (D := (dC, dI)) (ci := 10) (v := .int 0) (ty := .int) (C := R_Va) (T := TVa) (N := 3) hx hb hts (fun w h => List.mem_cons_of_mem _ (ic_Va w h)) tyVa tyVa_ok nmVa hown hK hP hD hS 0 rfl rfl 2 (by decide) (hts (.fieldLink R_Va 7 "LuaMachineModel$Values" "n" "I") (List.mem_cons_of_mem _ kw_183)) (fun _ h9 => h9) rfl (tyVa_ok 2 (by decide)) rfl rfl (Nat.le_of_ble_eq_true rfl) d_Va_init_6 (fun H locs hP hD hS => ?_)
  have hP : va_P (dC, dI) vwCl [(h0, .inr (10, [.null, .null, .int 0]))] H := hP
  have hD : va_D A [(h0, .inr (10, [.null, .null, .int 0]))] := hD
  refine lv_aload_n hx hb d_Va_init_9 rfl (lv_at hl 0 rfl) ?_
  refine lv_iload_n hx hb d_Va_init_10 rfl (lv_at hl 1 rfl) ?_
  refine va_newa (atype := .byte) (a0 := (4100, .inl (fun _ => 0))) hx hb (hts (.arrayClass .byte) (List.mem_cons_of_mem _ kw_9)) (ty := .byte) rfl hK hP hD hS hA (fun _ => rfl) (by decide) (by decide) (by decide) (Nat.le_of_ble_eq_true rfl) (Nat.le_of_ble_eq_true rfl) d_Va_init_11 (fun q11 k11 H hK hP hD hS => ?_)
  have hK : va_K (dC, dI) vwCl [(k11, .byte)] s := hK
  have hP : va_P (dC, dI) vwCl [(h0, .inr (10, [.null, .null, .int 0])), (q11, .inl (k11, 4100, .inl (fun _ => 0)))] H := hP
  have hD : va_D A [(h0, .inr (10, [.null, .null, .int 0])), (q11, .inl (k11, 4100, .inl (fun _ => 0)))] := hD
  refine W.widen (k := 1) (n := 4100) (Nat.le_of_ble_eq_true rfl) (Nat.le_of_ble_eq_true rfl) ?_
  refine va_putF (D := (dC, dI)) (ci := 10) (v := .ref q11) (ty := (.array .byte)) (C := R_Va) (T := TVa) (N := 3) hx hb hts (fun w h => List.mem_cons_of_mem _ (ic_Va w h)) tyVa tyVa_ok nmVa hown hK hP hD hS 0 rfl rfl 0 (by decide) (hts (.fieldLink R_Va 13 "LuaMachineModel$Values" "k" "[B") (List.mem_cons_of_mem _ kw_184)) (fun _ h9 => h9) rfl hin rfl (tyVa_ok 0 (by decide)) rfl rfl (Nat.le_of_ble_eq_true rfl) d_Va_init_13 (fun H locs hP hD hS => ?_)
  have hP : va_P (dC, dI) vwCl [(h0, .inr (10, [.ref q11, .null, .int 0])), (q11, .inl (k11, 4100, .inl (fun _ => 0)))] H := hP
  have hD : va_D A [(h0, .inr (10, [.ref q11, .null, .int 0])), (q11, .inl (k11, 4100, .inl (fun _ => 0)))] := hD
  refine lv_aload_n hx hb d_Va_init_16 rfl (lv_at hl 0 rfl) ?_
  refine lv_iload_n hx hb d_Va_init_17 rfl (lv_at hl 1 rfl) ?_
  refine va_newa (atype := .long) (a0 := (4100, .inr (.inl (fun _ => 0)))) hx hb (hts (.arrayClass .long) (List.mem_cons_of_mem _ kw_11)) (ty := .long) rfl hK hP hD hS hA (fun _ => rfl) (by decide) (by decide) (by decide) (Nat.le_of_ble_eq_true rfl) (Nat.le_of_ble_eq_true rfl) d_Va_init_18 (fun q18 k18 H hK hP hD hS => ?_)
  have hK : va_K (dC, dI) vwCl [(k11, .byte), (k18, .long)] s := hK
  have hP : va_P (dC, dI) vwCl [(h0, .inr (10, [.ref q11, .null, .int 0])), (q11, .inl (k11, 4100, .inl (fun _ => 0))), (q18, .inl (k18, 4100, .inr (.inl (fun _ => 0))))] H := hP
  have hD : va_D A [(h0, .inr (10, [.ref q11, .null, .int 0])), (q11, .inl (k11, 4100, .inl (fun _ => 0))), (q18, .inl (k18, 4100, .inr (.inl (fun _ => 0))))] := hD
  refine W.widen (k := 2) (n := 8200) (Nat.le_of_ble_eq_true rfl) (Nat.le_of_ble_eq_true rfl) ?_
  refine va_putF (D := (dC, dI)) (ci := 10) (v := .ref q18) (ty := (.array .long)) (C := R_Va) (T := TVa) (N := 3) hx hb hts (fun w h => List.mem_cons_of_mem _ (ic_Va w h)) tyVa tyVa_ok nmVa hown hK hP hD hS 0 rfl rfl 1 (by decide) (hts (.fieldLink R_Va 17 "LuaMachineModel$Values" "v" "[J") (List.mem_cons_of_mem _ kw_185)) (fun _ h9 => h9) rfl hin rfl (tyVa_ok 1 (by decide)) rfl rfl (Nat.le_of_ble_eq_true rfl) d_Va_init_20 (fun H locs hP hD hS => ?_)
  have hP : va_P (dC, dI) vwCl [(h0, .inr (10, [.ref q11, .ref q18, .int 0])), (q11, .inl (k11, 4100, .inl (fun _ => 0))), (q18, .inl (k18, 4100, .inr (.inl (fun _ => 0))))] H := hP
  have hD : va_D A [(h0, .inr (10, [.ref q11, .ref q18, .int 0])), (q11, .inl (k11, 4100, .inl (fun _ => 0))), (q18, .inl (k18, 4100, .inr (.inl (fun _ => 0))))] := hD
  have hP9 := hP.sub (ws' := [(h0, .inr (10, [.ref q11, .ref q18, .int 0]))]) [0] rfl
  have hD9 := hD.sub (ws' := [(h0, .inr (10, [.ref q11, .ref q18, .int 0]))]) [0] (by decide) rfl
  have hK9 := hK.sub (tys' := []) [] rfl
  refine W.widen (k := 2) (n := 8200) (Nat.le_of_ble_eq_true rfl) (Nat.le_of_ble_eq_true rfl) ?_
  exact W.vret hx hb hr (fun t ht hW => ⟨⟨(), rfl, trivial, q11, q18, by rw [ht]; exact hP9, va_K.moved hW.alike hK9, hD9⟩, hS.F ht⟩) hS.2.2 d_Va_init_23

set_option maxHeartbeats 4000000 in
set_option maxRecDepth 100000 in
theorem c_Va_init_64 (l : Launch) (dC : Nat → ClassId) (dI : Nat → Nat → Nat) (h0 : Nat) (sz : Nat) : Met l y_Va_init w_Va_init ({ frames := 1, cells := 2, slots := 128, locals := 12 }) (va_Pc [.ref h0, .int 64] (fun U => U.heap.size = sz ∧ va_P (dC, dI) vwCl [(h0, .inr (10, [.null, .null, .int 0]))] U.heap ∧ va_K (dC, dI) vwCl [] U ∧ va_D (fun _ => True) [(h0, .inr (10, [.null, .null, .int 0]))] ∧ xB U ∧ xZ (va_A [(h0, .inr (10, [.null, .null, .int 0]))] sz) U U.heap)) (va_Qv (fun (_ : Unit) => True) (fun _ t => ∃ (q11 : Nat), ∃ (q18 : Nat), va_P (dC, dI) vwCl [(h0, .inr (10, [.ref q11, .ref q18, .int 0]))] t.heap ∧ va_K (dC, dI) vwCl [] t ∧ va_D (va_A [(h0, .inr (10, [.null, .null, .int 0]))] sz) [(h0, .inr (10, [.ref q11, .ref q18, .int 0]))]) (va_A [(h0, .inr (10, [.null, .null, .int 0]))] sz)) 2 128 (va_A [(h0, .inr (10, [.null, .null, .int 0]))] sz) := by
  refine Met.ofW (cc := b_Va_init) (maxL := 2) (ret := none) (by decide) rfl ?_
  intro p e s m args below meth c s₁ B hml hv
  obtain ⟨rfl, hsz, hP, hK, hD0, hB, hZ⟩ := hv
  have hx := B.exec
  have hb := B.bytes
  have hr := B.returns
  have hts := atoms_spec (ws := w_Va_init) B.pre
  have hown : s.vm.findClass R_Va = some m.cls := findClass_of_methodNamed B.named
  have hlocks := B.notSynchronized
  have hin : meth.name = "<init>" := (name_of_methodNamed B.named B.method).1
  subst hsz
  have hD := hD0.self (sz := s.heap.size)
  generalize hAe : va_A [(h0, .inr (10, [.null, .null, .int 0]))] s.heap.size = A at hD hZ ⊢
  have hA : ∀ q : Nat, s.heap.size ≤ q → A q := fun q h => by rw [← hAe]; exact Or.inr h
  have hS : va_S A s.heap s.heap [] := va_S.rf
  have hl := lv_entry ([.ref h0, .int 64]) (n := 2) (Nat.le_of_ble_eq_true rfl)
  rw [lg_entry_eq]
  generalize (lg_sl ([.ref h0, .int 64]) ++ List.replicate (2 - (lg_sl ([.ref h0, .int 64])).length) Slot.unset).toArray = ls at hl ⊢
  have hl : lv_has ls 2 [(0, .ref h0), (1, .int 64)] := hl
  have hP : va_P (dC, dI) vwCl [(h0, .inr (10, [.null, .null, .int 0]))] s.heap := hP
  have hD : va_D A [(h0, .inr (10, [.null, .null, .int 0]))] := hD
  refine lv_aload_n hx hb d_Va_init_0 rfl (lv_at hl 0 rfl) ?_
  refine W.objInit hx hb hown (hts (.methodLink R_Va 1 objectInit) (List.mem_cons_of_mem _ kw_182)) (hts (.instanceMethod objectInit) (List.mem_cons_of_mem _ kw_1)) (hts (.code objectInit ⟨#[0xb1]⟩ 1 none) (List.mem_cons_of_mem _ kw_2)) rfl (by rw [hml]; exact hl.1) rfl d_Va_init_1 (Nat.le_of_ble_eq_true rfl) (Nat.le_of_ble_eq_true rfl) ?_
  refine W.eq (g2 := F0 m 4 ls []) rfl ?_
  refine lv_aload_n hx hb d_Va_init_4 rfl (lv_at hl 0 rfl) ?_
  refine lv_iconst (v := 0) hx hb d_Va_init_5 (by decide) ?_
  refine va_put (D := (dC, dI)) (ci := 10) (v := .int 0) (ty := .int) (C := R_Va) (T := TVa) (N := 3) hx hb hts (fun w h => List.mem_cons_of_mem _ (ic_Va w h)) tyVa tyVa_ok nmVa hown hK hP hD hS 0 rfl rfl 2 (by decide) (hts (.fieldLink R_Va 7 "LuaMachineModel$Values" "n" "I") (List.mem_cons_of_mem _ kw_183)) (fun _ h9 => h9) rfl (tyVa_ok 2 (by decide)) rfl rfl (Nat.le_of_ble_eq_true rfl) d_Va_init_6 (fun H locs hP hD hS => ?_)
  have hP : va_P (dC, dI) vwCl [(h0, .inr (10, [.null, .null, .int 0]))] H := hP
  have hD : va_D A [(h0, .inr (10, [.null, .null, .int 0]))] := hD
  refine lv_aload_n hx hb d_Va_init_9 rfl (lv_at hl 0 rfl) ?_
  refine lv_iload_n hx hb d_Va_init_10 rfl (lv_at hl 1 rfl) ?_
  refine va_newa (atype := .byte) (a0 := (64, .inl (fun _ => 0))) hx hb (hts (.arrayClass .byte) (List.mem_cons_of_mem _ kw_9)) (ty := .byte) rfl hK hP hD hS hA (fun _ => rfl) (by decide) (by decide) (by decide) (Nat.le_of_ble_eq_true rfl) (Nat.le_of_ble_eq_true rfl) d_Va_init_11 (fun q11 k11 H hK hP hD hS => ?_)
  have hK : va_K (dC, dI) vwCl [(k11, .byte)] s := hK
  have hP : va_P (dC, dI) vwCl [(h0, .inr (10, [.null, .null, .int 0])), (q11, .inl (k11, 64, .inl (fun _ => 0)))] H := hP
  have hD : va_D A [(h0, .inr (10, [.null, .null, .int 0])), (q11, .inl (k11, 64, .inl (fun _ => 0)))] := hD
  refine W.widen (k := 1) (n := 64) (Nat.le_of_ble_eq_true rfl) (Nat.le_of_ble_eq_true rfl) ?_
  refine va_putF (D := (dC, dI)) (ci := 10) (v := .ref q11) (ty := (.array .byte)) (C := R_Va) (T := TVa) (N := 3) hx hb hts (fun w h => List.mem_cons_of_mem _ (ic_Va w h)) tyVa tyVa_ok nmVa hown hK hP hD hS 0 rfl rfl 0 (by decide) (hts (.fieldLink R_Va 13 "LuaMachineModel$Values" "k" "[B") (List.mem_cons_of_mem _ kw_184)) (fun _ h9 => h9) rfl hin rfl (tyVa_ok 0 (by decide)) rfl rfl (Nat.le_of_ble_eq_true rfl) d_Va_init_13 (fun H locs hP hD hS => ?_)
  have hP : va_P (dC, dI) vwCl [(h0, .inr (10, [.ref q11, .null, .int 0])), (q11, .inl (k11, 64, .inl (fun _ => 0)))] H := hP
  have hD : va_D A [(h0, .inr (10, [.ref q11, .null, .int 0])), (q11, .inl (k11, 64, .inl (fun _ => 0)))] := hD
  refine lv_aload_n hx hb d_Va_init_16 rfl (lv_at hl 0 rfl) ?_
  refine lv_iload_n hx hb d_Va_init_17 rfl (lv_at hl 1 rfl) ?_
  refine va_newa (atype := .long) (a0 := (64, .inr (.inl (fun _ => 0)))) hx hb (hts (.arrayClass .long) (List.mem_cons_of_mem _ kw_11)) (ty := .long) rfl hK hP hD hS hA (fun _ => rfl) (by decide) (by decide) (by decide) (Nat.le_of_ble_eq_true rfl) (Nat.le_of_ble_eq_true rfl) d_Va_init_18 (fun q18 k18 H hK hP hD hS => ?_)
  have hK : va_K (dC, dI) vwCl [(k11, .byte), (k18, .long)] s := hK
  have hP : va_P (dC, dI) vwCl [(h0, .inr (10, [.ref q11, .null, .int 0])), (q11, .inl (k11, 64, .inl (fun _ => 0))), (q18, .inl (k18, 64, .inr (.inl (fun _ => 0))))] H := hP
  have hD : va_D A [(h0, .inr (10, [.ref q11, .null, .int 0])), (q11, .inl (k11, 64, .inl (fun _ => 0))), (q18, .inl (k18, 64, .inr (.inl (fun _ => 0))))] := hD
  refine W.widen (k := 2) (n := 128) (Nat.le_of_ble_eq_true rfl) (Nat.le_of_ble_eq_true rfl) ?_
  refine va_putF (D := (dC, dI)) (ci := 10) (v := .ref q18) (ty := (.array .long)) (C := R_Va) (T := TVa) (N := 3) hx hb hts (fun w h => List.mem_cons_of_mem _ (ic_Va w h)) tyVa tyVa_ok nmVa hown hK hP hD hS 0 rfl rfl 1 (by decide) (hts (.fieldLink R_Va 17 "LuaMachineModel$Values" "v" "[J") (List.mem_cons_of_mem _ kw_185)) (fun _ h9 => h9) rfl hin rfl (tyVa_ok 1 (by decide)) rfl rfl (Nat.le_of_ble_eq_true rfl) d_Va_init_20 (fun H locs hP hD hS => ?_)
  have hP : va_P (dC, dI) vwCl [(h0, .inr (10, [.ref q11, .ref q18, .int 0])), (q11, .inl (k11, 64, .inl (fun _ => 0))), (q18, .inl (k18, 64, .inr (.inl (fun _ => 0))))] H := hP
  have hD : va_D A [(h0, .inr (10, [.ref q11, .ref q18, .int 0])), (q11, .inl (k11, 64, .inl (fun _ => 0))), (q18, .inl (k18, 64, .inr (.inl (fun _ => 0))))] := hD
  have hP9 := hP.sub (ws' := [(h0, .inr (10, [.ref q11, .ref q18, .int 0]))]) [0] rfl
  have hD9 := hD.sub (ws' := [(h0, .inr (10, [.ref q11, .ref q18, .int 0]))]) [0] (by decide) rfl
  have hK9 := hK.sub (tys' := []) [] rfl
  refine W.widen (k := 2) (n := 128) (Nat.le_of_ble_eq_true rfl) (Nat.le_of_ble_eq_true rfl) ?_
  exact W.vret hx hb hr (fun t ht hW => ⟨⟨(), rfl, trivial, q11, q18, by rw [ht]; exact hP9, va_K.moved hW.alike hK9, hD9⟩, hS.F ht⟩) hS.2.2 d_Va_init_23

set_option maxHeartbeats 4000000 in
set_option maxRecDepth 100000 in
theorem c_Va_init_400 (l : Launch) (dC : Nat → ClassId) (dI : Nat → Nat → Nat) (h0 : Nat) (sz : Nat) : Met l y_Va_init w_Va_init ({ frames := 1, cells := 2, slots := 800, locals := 12 }) (va_Pc [.ref h0, .int 400] (fun U => U.heap.size = sz ∧ va_P (dC, dI) vwCl [(h0, .inr (10, [.null, .null, .int 0]))] U.heap ∧ va_K (dC, dI) vwCl [] U ∧ va_D (fun _ => True) [(h0, .inr (10, [.null, .null, .int 0]))] ∧ xB U ∧ xZ (va_A [(h0, .inr (10, [.null, .null, .int 0]))] sz) U U.heap)) (va_Qv (fun (_ : Unit) => True) (fun _ t => ∃ (q11 : Nat), ∃ (q18 : Nat), va_P (dC, dI) vwCl [(h0, .inr (10, [.ref q11, .ref q18, .int 0]))] t.heap ∧ va_K (dC, dI) vwCl [] t ∧ va_D (va_A [(h0, .inr (10, [.null, .null, .int 0]))] sz) [(h0, .inr (10, [.ref q11, .ref q18, .int 0]))]) (va_A [(h0, .inr (10, [.null, .null, .int 0]))] sz)) 2 800 (va_A [(h0, .inr (10, [.null, .null, .int 0]))] sz) := by
  refine Met.ofW (cc := b_Va_init) (maxL := 2) (ret := none) (by decide) rfl ?_
  intro p e s m args below meth c s₁ B hml hv
  obtain ⟨rfl, hsz, hP, hK, hD0, hB, hZ⟩ := hv
  have hx := B.exec
  have hb := B.bytes
  have hr := B.returns
  have hts := atoms_spec (ws := w_Va_init) B.pre
  have hown : s.vm.findClass R_Va = some m.cls := findClass_of_methodNamed B.named
  have hlocks := B.notSynchronized
  have hin : meth.name = "<init>" := (name_of_methodNamed B.named B.method).1
  subst hsz
  have hD := hD0.self (sz := s.heap.size)
  generalize hAe : va_A [(h0, .inr (10, [.null, .null, .int 0]))] s.heap.size = A at hD hZ ⊢
  have hA : ∀ q : Nat, s.heap.size ≤ q → A q := fun q h => by rw [← hAe]; exact Or.inr h
  have hS : va_S A s.heap s.heap [] := va_S.rf
  have hl := lv_entry ([.ref h0, .int 400]) (n := 2) (Nat.le_of_ble_eq_true rfl)
  rw [lg_entry_eq]
  generalize (lg_sl ([.ref h0, .int 400]) ++ List.replicate (2 - (lg_sl ([.ref h0, .int 400])).length) Slot.unset).toArray = ls at hl ⊢
  have hl : lv_has ls 2 [(0, .ref h0), (1, .int 400)] := hl
  have hP : va_P (dC, dI) vwCl [(h0, .inr (10, [.null, .null, .int 0]))] s.heap := hP
  have hD : va_D A [(h0, .inr (10, [.null, .null, .int 0]))] := hD
  refine lv_aload_n hx hb d_Va_init_0 rfl (lv_at hl 0 rfl) ?_
  refine W.objInit hx hb hown (hts (.methodLink R_Va 1 objectInit) (List.mem_cons_of_mem _ kw_182)) (hts (.instanceMethod objectInit) (List.mem_cons_of_mem _ kw_1)) (hts (.code objectInit ⟨#[0xb1]⟩ 1 none) (List.mem_cons_of_mem _ kw_2)) rfl (by rw [hml]; exact hl.1) rfl d_Va_init_1 (Nat.le_of_ble_eq_true rfl) (Nat.le_of_ble_eq_true rfl) ?_
  refine W.eq (g2 := F0 m 4 ls []) rfl ?_
  refine lv_aload_n hx hb d_Va_init_4 rfl (lv_at hl 0 rfl) ?_
  refine lv_iconst (v := 0) hx hb d_Va_init_5 (by decide) ?_
  refine va_put (D := (dC, dI)) (ci := 10) (v := .int 0) (ty := .int) (C := R_Va) (T := TVa) (N := 3) hx hb hts (fun w h => List.mem_cons_of_mem _ (ic_Va w h)) tyVa tyVa_ok nmVa hown hK hP hD hS 0 rfl rfl 2 (by decide) (hts (.fieldLink R_Va 7 "LuaMachineModel$Values" "n" "I") (List.mem_cons_of_mem _ kw_183)) (fun _ h9 => h9) rfl (tyVa_ok 2 (by decide)) rfl rfl (Nat.le_of_ble_eq_true rfl) d_Va_init_6 (fun H locs hP hD hS => ?_)
  have hP : va_P (dC, dI) vwCl [(h0, .inr (10, [.null, .null, .int 0]))] H := hP
  have hD : va_D A [(h0, .inr (10, [.null, .null, .int 0]))] := hD
  refine lv_aload_n hx hb d_Va_init_9 rfl (lv_at hl 0 rfl) ?_
  refine lv_iload_n hx hb d_Va_init_10 rfl (lv_at hl 1 rfl) ?_
  refine va_newa (atype := .byte) (a0 := (400, .inl (fun _ => 0))) hx hb (hts (.arrayClass .byte) (List.mem_cons_of_mem _ kw_9)) (ty := .byte) rfl hK hP hD hS hA (fun _ => rfl) (by decide) (by decide) (by decide) (Nat.le_of_ble_eq_true rfl) (Nat.le_of_ble_eq_true rfl) d_Va_init_11 (fun q11 k11 H hK hP hD hS => ?_)
  have hK : va_K (dC, dI) vwCl [(k11, .byte)] s := hK
  have hP : va_P (dC, dI) vwCl [(h0, .inr (10, [.null, .null, .int 0])), (q11, .inl (k11, 400, .inl (fun _ => 0)))] H := hP
  have hD : va_D A [(h0, .inr (10, [.null, .null, .int 0])), (q11, .inl (k11, 400, .inl (fun _ => 0)))] := hD
  refine W.widen (k := 1) (n := 400) (Nat.le_of_ble_eq_true rfl) (Nat.le_of_ble_eq_true rfl) ?_
  refine va_putF (D := (dC, dI)) (ci := 10) (v := .ref q11) (ty := (.array .byte)) (C := R_Va) (T := TVa) (N := 3) hx hb hts (fun w h => List.mem_cons_of_mem _ (ic_Va w h)) tyVa tyVa_ok nmVa hown hK hP hD hS 0 rfl rfl 0 (by decide) (hts (.fieldLink R_Va 13 "LuaMachineModel$Values" "k" "[B") (List.mem_cons_of_mem _ kw_184)) (fun _ h9 => h9) rfl hin rfl (tyVa_ok 0 (by decide)) rfl rfl (Nat.le_of_ble_eq_true rfl) d_Va_init_13 (fun H locs hP hD hS => ?_)
  have hP : va_P (dC, dI) vwCl [(h0, .inr (10, [.ref q11, .null, .int 0])), (q11, .inl (k11, 400, .inl (fun _ => 0)))] H := hP
  have hD : va_D A [(h0, .inr (10, [.ref q11, .null, .int 0])), (q11, .inl (k11, 400, .inl (fun _ => 0)))] := hD
  refine lv_aload_n hx hb d_Va_init_16 rfl (lv_at hl 0 rfl) ?_
  refine lv_iload_n hx hb d_Va_init_17 rfl (lv_at hl 1 rfl) ?_
  refine va_newa (atype := .long) (a0 := (400, .inr (.inl (fun _ => 0)))) hx hb (hts (.arrayClass .long) (List.mem_cons_of_mem _ kw_11)) (ty := .long) rfl hK hP hD hS hA (fun _ => rfl) (by decide) (by decide) (by decide) (Nat.le_of_ble_eq_true rfl) (Nat.le_of_ble_eq_true rfl) d_Va_init_18 (fun q18 k18 H hK hP hD hS => ?_)
  have hK : va_K (dC, dI) vwCl [(k11, .byte), (k18, .long)] s := hK
  have hP : va_P (dC, dI) vwCl [(h0, .inr (10, [.ref q11, .null, .int 0])), (q11, .inl (k11, 400, .inl (fun _ => 0))), (q18, .inl (k18, 400, .inr (.inl (fun _ => 0))))] H := hP
  have hD : va_D A [(h0, .inr (10, [.ref q11, .null, .int 0])), (q11, .inl (k11, 400, .inl (fun _ => 0))), (q18, .inl (k18, 400, .inr (.inl (fun _ => 0))))] := hD
  refine W.widen (k := 2) (n := 800) (Nat.le_of_ble_eq_true rfl) (Nat.le_of_ble_eq_true rfl) ?_
  refine va_putF (D := (dC, dI)) (ci := 10) (v := .ref q18) (ty := (.array .long)) (C := R_Va) (T := TVa) (N := 3) hx hb hts (fun w h => List.mem_cons_of_mem _ (ic_Va w h)) tyVa tyVa_ok nmVa hown hK hP hD hS 0 rfl rfl 1 (by decide) (hts (.fieldLink R_Va 17 "LuaMachineModel$Values" "v" "[J") (List.mem_cons_of_mem _ kw_185)) (fun _ h9 => h9) rfl hin rfl (tyVa_ok 1 (by decide)) rfl rfl (Nat.le_of_ble_eq_true rfl) d_Va_init_20 (fun H locs hP hD hS => ?_)
  have hP : va_P (dC, dI) vwCl [(h0, .inr (10, [.ref q11, .ref q18, .int 0])), (q11, .inl (k11, 400, .inl (fun _ => 0))), (q18, .inl (k18, 400, .inr (.inl (fun _ => 0))))] H := hP
  have hD : va_D A [(h0, .inr (10, [.ref q11, .ref q18, .int 0])), (q11, .inl (k11, 400, .inl (fun _ => 0))), (q18, .inl (k18, 400, .inr (.inl (fun _ => 0))))] := hD
  have hP9 := hP.sub (ws' := [(h0, .inr (10, [.ref q11, .ref q18, .int 0]))]) [0] rfl
  have hD9 := hD.sub (ws' := [(h0, .inr (10, [.ref q11, .ref q18, .int 0]))]) [0] (by decide) rfl
  have hK9 := hK.sub (tys' := []) [] rfl
  refine W.widen (k := 2) (n := 800) (Nat.le_of_ble_eq_true rfl) (Nat.le_of_ble_eq_true rfl) ?_
  exact W.vret hx hb hr (fun t ht hW => ⟨⟨(), rfl, trivial, q11, q18, by rw [ht]; exact hP9, va_K.moved hW.alike hK9, hD9⟩, hS.F ht⟩) hS.2.2 d_Va_init_23

set_option maxHeartbeats 4000000 in
set_option maxRecDepth 100000 in
theorem c_Va_init_4300 (l : Launch) (dC : Nat → ClassId) (dI : Nat → Nat → Nat) (h0 : Nat) (sz : Nat) : Met l y_Va_init w_Va_init ({ frames := 1, cells := 2, slots := 8600, locals := 12 }) (va_Pc [.ref h0, .int 4300] (fun U => U.heap.size = sz ∧ va_P (dC, dI) vwCl [(h0, .inr (10, [.null, .null, .int 0]))] U.heap ∧ va_K (dC, dI) vwCl [] U ∧ va_D (fun _ => True) [(h0, .inr (10, [.null, .null, .int 0]))] ∧ xB U ∧ xZ (va_A [(h0, .inr (10, [.null, .null, .int 0]))] sz) U U.heap)) (va_Qv (fun (_ : Unit) => True) (fun _ t => ∃ (q11 : Nat), ∃ (q18 : Nat), va_P (dC, dI) vwCl [(h0, .inr (10, [.ref q11, .ref q18, .int 0]))] t.heap ∧ va_K (dC, dI) vwCl [] t ∧ va_D (va_A [(h0, .inr (10, [.null, .null, .int 0]))] sz) [(h0, .inr (10, [.ref q11, .ref q18, .int 0]))]) (va_A [(h0, .inr (10, [.null, .null, .int 0]))] sz)) 2 8600 (va_A [(h0, .inr (10, [.null, .null, .int 0]))] sz) := by
  refine Met.ofW (cc := b_Va_init) (maxL := 2) (ret := none) (by decide) rfl ?_
  intro p e s m args below meth c s₁ B hml hv
  obtain ⟨rfl, hsz, hP, hK, hD0, hB, hZ⟩ := hv
  have hx := B.exec
  have hb := B.bytes
  have hr := B.returns
  have hts := atoms_spec (ws := w_Va_init) B.pre
  have hown : s.vm.findClass R_Va = some m.cls := findClass_of_methodNamed B.named
  have hlocks := B.notSynchronized
  have hin : meth.name = "<init>" := (name_of_methodNamed B.named B.method).1
  subst hsz
  have hD := hD0.self (sz := s.heap.size)
  generalize hAe : va_A [(h0, .inr (10, [.null, .null, .int 0]))] s.heap.size = A at hD hZ ⊢
  have hA : ∀ q : Nat, s.heap.size ≤ q → A q := fun q h => by rw [← hAe]; exact Or.inr h
  have hS : va_S A s.heap s.heap [] := va_S.rf
  have hl := lv_entry ([.ref h0, .int 4300]) (n := 2) (Nat.le_of_ble_eq_true rfl)
  rw [lg_entry_eq]
  generalize (lg_sl ([.ref h0, .int 4300]) ++ List.replicate (2 - (lg_sl ([.ref h0, .int 4300])).length) Slot.unset).toArray = ls at hl ⊢
  have hl : lv_has ls 2 [(0, .ref h0), (1, .int 4300)] := hl
  have hP : va_P (dC, dI) vwCl [(h0, .inr (10, [.null, .null, .int 0]))] s.heap := hP
  have hD : va_D A [(h0, .inr (10, [.null, .null, .int 0]))] := hD
  refine lv_aload_n hx hb d_Va_init_0 rfl (lv_at hl 0 rfl) ?_
  refine W.objInit hx hb hown (hts (.methodLink R_Va 1 objectInit) (List.mem_cons_of_mem _ kw_182)) (hts (.instanceMethod objectInit) (List.mem_cons_of_mem _ kw_1)) (hts (.code objectInit ⟨#[0xb1]⟩ 1 none) (List.mem_cons_of_mem _ kw_2)) rfl (by rw [hml]; exact hl.1) rfl d_Va_init_1 (Nat.le_of_ble_eq_true rfl) (Nat.le_of_ble_eq_true rfl) ?_
  refine W.eq (g2 := F0 m 4 ls []) rfl ?_
  refine lv_aload_n hx hb d_Va_init_4 rfl (lv_at hl 0 rfl) ?_
  refine lv_iconst (v := 0) hx hb d_Va_init_5 (by decide) ?_
  refine va_put (D := (dC, dI)) (ci := 10) (v := .int 0) (ty := .int) (C := R_Va) (T := TVa) (N := 3) hx hb hts (fun w h => List.mem_cons_of_mem _ (ic_Va w h)) tyVa tyVa_ok nmVa hown hK hP hD hS 0 rfl rfl 2 (by decide) (hts (.fieldLink R_Va 7 "LuaMachineModel$Values" "n" "I") (List.mem_cons_of_mem _ kw_183)) (fun _ h9 => h9) rfl (tyVa_ok 2 (by decide)) rfl rfl (Nat.le_of_ble_eq_true rfl) d_Va_init_6 (fun H locs hP hD hS => ?_)
  have hP : va_P (dC, dI) vwCl [(h0, .inr (10, [.null, .null, .int 0]))] H := hP
  have hD : va_D A [(h0, .inr (10, [.null, .null, .int 0]))] := hD
  refine lv_aload_n hx hb d_Va_init_9 rfl (lv_at hl 0 rfl) ?_
  refine lv_iload_n hx hb d_Va_init_10 rfl (lv_at hl 1 rfl) ?_
  refine va_newa (atype := .byte) (a0 := (4300, .inl (fun _ => 0))) hx hb (hts (.arrayClass .byte) (List.mem_cons_of_mem _ kw_9)) (ty := .byte) rfl hK hP hD hS hA (fun _ => rfl) (by decide) (by decide) (by decide) (Nat.le_of_ble_eq_true rfl) (Nat.le_of_ble_eq_true rfl) d_Va_init_11 (fun q11 k11 H hK hP hD hS => ?_)
  have hK : va_K (dC, dI) vwCl [(k11, .byte)] s := hK
  have hP : va_P (dC, dI) vwCl [(h0, .inr (10, [.null, .null, .int 0])), (q11, .inl (k11, 4300, .inl (fun _ => 0)))] H := hP
  have hD : va_D A [(h0, .inr (10, [.null, .null, .int 0])), (q11, .inl (k11, 4300, .inl (fun _ => 0)))] := hD
  refine W.widen (k := 1) (n := 4300) (Nat.le_of_ble_eq_true rfl) (Nat.le_of_ble_eq_true rfl) ?_
  refine va_putF (D := (dC, dI)) (ci := 10) (v := .ref q11) (ty := (.array .byte)) (C := R_Va) (T := TVa) (N := 3) hx hb hts (fun w h => List.mem_cons_of_mem _ (ic_Va w h)) tyVa tyVa_ok nmVa hown hK hP hD hS 0 rfl rfl 0 (by decide) (hts (.fieldLink R_Va 13 "LuaMachineModel$Values" "k" "[B") (List.mem_cons_of_mem _ kw_184)) (fun _ h9 => h9) rfl hin rfl (tyVa_ok 0 (by decide)) rfl rfl (Nat.le_of_ble_eq_true rfl) d_Va_init_13 (fun H locs hP hD hS => ?_)
  have hP : va_P (dC, dI) vwCl [(h0, .inr (10, [.ref q11, .null, .int 0])), (q11, .inl (k11, 4300, .inl (fun _ => 0)))] H := hP
  have hD : va_D A [(h0, .inr (10, [.ref q11, .null, .int 0])), (q11, .inl (k11, 4300, .inl (fun _ => 0)))] := hD
  refine lv_aload_n hx hb d_Va_init_16 rfl (lv_at hl 0 rfl) ?_
  refine lv_iload_n hx hb d_Va_init_17 rfl (lv_at hl 1 rfl) ?_
  refine va_newa (atype := .long) (a0 := (4300, .inr (.inl (fun _ => 0)))) hx hb (hts (.arrayClass .long) (List.mem_cons_of_mem _ kw_11)) (ty := .long) rfl hK hP hD hS hA (fun _ => rfl) (by decide) (by decide) (by decide) (Nat.le_of_ble_eq_true rfl) (Nat.le_of_ble_eq_true rfl) d_Va_init_18 (fun q18 k18 H hK hP hD hS => ?_)
  have hK : va_K (dC, dI) vwCl [(k11, .byte), (k18, .long)] s := hK
  have hP : va_P (dC, dI) vwCl [(h0, .inr (10, [.ref q11, .null, .int 0])), (q11, .inl (k11, 4300, .inl (fun _ => 0))), (q18, .inl (k18, 4300, .inr (.inl (fun _ => 0))))] H := hP
  have hD : va_D A [(h0, .inr (10, [.ref q11, .null, .int 0])), (q11, .inl (k11, 4300, .inl (fun _ => 0))), (q18, .inl (k18, 4300, .inr (.inl (fun _ => 0))))] := hD
  refine W.widen (k := 2) (n := 8600) (Nat.le_of_ble_eq_true rfl) (Nat.le_of_ble_eq_true rfl) ?_
  refine va_putF (D := (dC, dI)) (ci := 10) (v := .ref q18) (ty := (.array .long)) (C := R_Va) (T := TVa) (N := 3) hx hb hts (fun w h => List.mem_cons_of_mem _ (ic_Va w h)) tyVa tyVa_ok nmVa hown hK hP hD hS 0 rfl rfl 1 (by decide) (hts (.fieldLink R_Va 17 "LuaMachineModel$Values" "v" "[J") (List.mem_cons_of_mem _ kw_185)) (fun _ h9 => h9) rfl hin rfl (tyVa_ok 1 (by decide)) rfl rfl (Nat.le_of_ble_eq_true rfl) d_Va_init_20 (fun H locs hP hD hS => ?_)
  have hP : va_P (dC, dI) vwCl [(h0, .inr (10, [.ref q11, .ref q18, .int 0])), (q11, .inl (k11, 4300, .inl (fun _ => 0))), (q18, .inl (k18, 4300, .inr (.inl (fun _ => 0))))] H := hP
  have hD : va_D A [(h0, .inr (10, [.ref q11, .ref q18, .int 0])), (q11, .inl (k11, 4300, .inl (fun _ => 0))), (q18, .inl (k18, 4300, .inr (.inl (fun _ => 0))))] := hD
  have hP9 := hP.sub (ws' := [(h0, .inr (10, [.ref q11, .ref q18, .int 0]))]) [0] rfl
  have hD9 := hD.sub (ws' := [(h0, .inr (10, [.ref q11, .ref q18, .int 0]))]) [0] (by decide) rfl
  have hK9 := hK.sub (tys' := []) [] rfl
  refine W.widen (k := 2) (n := 8600) (Nat.le_of_ble_eq_true rfl) (Nat.le_of_ble_eq_true rfl) ?_
  exact W.vret hx hb hr (fun t ht hW => ⟨⟨(), rfl, trivial, q11, q18, by rw [ht]; exact hP9, va_K.moved hW.alike hK9, hD9⟩, hS.F ht⟩) hS.2.2 d_Va_init_23

set_option maxHeartbeats 4000000 in
set_option maxRecDepth 100000 in
theorem c_Va_init_260 (l : Launch) (dC : Nat → ClassId) (dI : Nat → Nat → Nat) (h0 : Nat) (sz : Nat) : Met l y_Va_init w_Va_init ({ frames := 1, cells := 2, slots := 520, locals := 12 }) (va_Pc [.ref h0, .int 260] (fun U => U.heap.size = sz ∧ va_P (dC, dI) vwCl [(h0, .inr (10, [.null, .null, .int 0]))] U.heap ∧ va_K (dC, dI) vwCl [] U ∧ va_D (fun _ => True) [(h0, .inr (10, [.null, .null, .int 0]))] ∧ xB U ∧ xZ (va_A [(h0, .inr (10, [.null, .null, .int 0]))] sz) U U.heap)) (va_Qv (fun (_ : Unit) => True) (fun _ t => ∃ (q11 : Nat), ∃ (q18 : Nat), va_P (dC, dI) vwCl [(h0, .inr (10, [.ref q11, .ref q18, .int 0]))] t.heap ∧ va_K (dC, dI) vwCl [] t ∧ va_D (va_A [(h0, .inr (10, [.null, .null, .int 0]))] sz) [(h0, .inr (10, [.ref q11, .ref q18, .int 0]))]) (va_A [(h0, .inr (10, [.null, .null, .int 0]))] sz)) 2 520 (va_A [(h0, .inr (10, [.null, .null, .int 0]))] sz) := by
  refine Met.ofW (cc := b_Va_init) (maxL := 2) (ret := none) (by decide) rfl ?_
  intro p e s m args below meth c s₁ B hml hv
  obtain ⟨rfl, hsz, hP, hK, hD0, hB, hZ⟩ := hv
  have hx := B.exec
  have hb := B.bytes
  have hr := B.returns
  have hts := atoms_spec (ws := w_Va_init) B.pre
  have hown : s.vm.findClass R_Va = some m.cls := findClass_of_methodNamed B.named
  have hlocks := B.notSynchronized
  have hin : meth.name = "<init>" := (name_of_methodNamed B.named B.method).1
  subst hsz
  have hD := hD0.self (sz := s.heap.size)
  generalize hAe : va_A [(h0, .inr (10, [.null, .null, .int 0]))] s.heap.size = A at hD hZ ⊢
  have hA : ∀ q : Nat, s.heap.size ≤ q → A q := fun q h => by rw [← hAe]; exact Or.inr h
  have hS : va_S A s.heap s.heap [] := va_S.rf
  have hl := lv_entry ([.ref h0, .int 260]) (n := 2) (Nat.le_of_ble_eq_true rfl)
  rw [lg_entry_eq]
  generalize (lg_sl ([.ref h0, .int 260]) ++ List.replicate (2 - (lg_sl ([.ref h0, .int 260])).length) Slot.unset).toArray = ls at hl ⊢
  have hl : lv_has ls 2 [(0, .ref h0), (1, .int 260)] := hl
  have hP : va_P (dC, dI) vwCl [(h0, .inr (10, [.null, .null, .int 0]))] s.heap := hP
  have hD : va_D A [(h0, .inr (10, [.null, .null, .int 0]))] := hD
  refine lv_aload_n hx hb d_Va_init_0 rfl (lv_at hl 0 rfl) ?_
  refine W.objInit hx hb hown (hts (.methodLink R_Va 1 objectInit) (List.mem_cons_of_mem _ kw_182)) (hts (.instanceMethod objectInit) (List.mem_cons_of_mem _ kw_1)) (hts (.code objectInit ⟨#[0xb1]⟩ 1 none) (List.mem_cons_of_mem _ kw_2)) rfl (by rw [hml]; exact hl.1) rfl d_Va_init_1 (Nat.le_of_ble_eq_true rfl) (Nat.le_of_ble_eq_true rfl) ?_
  refine W.eq (g2 := F0 m 4 ls []) rfl ?_
  refine lv_aload_n hx hb d_Va_init_4 rfl (lv_at hl 0 rfl) ?_
  refine lv_iconst (v := 0) hx hb d_Va_init_5 (by decide) ?_
  refine va_put (D := (dC, dI)) (ci := 10) (v := .int 0) (ty := .int) (C := R_Va) (T := TVa) (N := 3) hx hb hts (fun w h => List.mem_cons_of_mem _ (ic_Va w h)) tyVa tyVa_ok nmVa hown hK hP hD hS 0 rfl rfl 2 (by decide) (hts (.fieldLink R_Va 7 "LuaMachineModel$Values" "n" "I") (List.mem_cons_of_mem _ kw_183)) (fun _ h9 => h9) rfl (tyVa_ok 2 (by decide)) rfl rfl (Nat.le_of_ble_eq_true rfl) d_Va_init_6 (fun H locs hP hD hS => ?_)
  have hP : va_P (dC, dI) vwCl [(h0, .inr (10, [.null, .null, .int 0]))] H := hP
  have hD : va_D A [(h0, .inr (10, [.null, .null, .int 0]))] := hD
  refine lv_aload_n hx hb d_Va_init_9 rfl (lv_at hl 0 rfl) ?_
  refine lv_iload_n hx hb d_Va_init_10 rfl (lv_at hl 1 rfl) ?_
  refine va_newa (atype := .byte) (a0 := (260, .inl (fun _ => 0))) hx hb (hts (.arrayClass .byte) (List.mem_cons_of_mem _ kw_9)) (ty := .byte) rfl hK hP hD hS hA (fun _ => rfl) (by decide) (by decide) (by decide) (Nat.le_of_ble_eq_true rfl) (Nat.le_of_ble_eq_true rfl) d_Va_init_11 (fun q11 k11 H hK hP hD hS => ?_)
  have hK : va_K (dC, dI) vwCl [(k11, .byte)] s := hK
  have hP : va_P (dC, dI) vwCl [(h0, .inr (10, [.null, .null, .int 0])), (q11, .inl (k11, 260, .inl (fun _ => 0)))] H := hP
  have hD : va_D A [(h0, .inr (10, [.null, .null, .int 0])), (q11, .inl (k11, 260, .inl (fun _ => 0)))] := hD
  refine W.widen (k := 1) (n := 260) (Nat.le_of_ble_eq_true rfl) (Nat.le_of_ble_eq_true rfl) ?_
  refine va_putF (D := (dC, dI)) (ci := 10) (v := .ref q11) (ty := (.array .byte)) (C := R_Va) (T := TVa) (N := 3) hx hb hts (fun w h => List.mem_cons_of_mem _ (ic_Va w h)) tyVa tyVa_ok nmVa hown hK hP hD hS 0 rfl rfl 0 (by decide) (hts (.fieldLink R_Va 13 "LuaMachineModel$Values" "k" "[B") (List.mem_cons_of_mem _ kw_184)) (fun _ h9 => h9) rfl hin rfl (tyVa_ok 0 (by decide)) rfl rfl (Nat.le_of_ble_eq_true rfl) d_Va_init_13 (fun H locs hP hD hS => ?_)
  have hP : va_P (dC, dI) vwCl [(h0, .inr (10, [.ref q11, .null, .int 0])), (q11, .inl (k11, 260, .inl (fun _ => 0)))] H := hP
  have hD : va_D A [(h0, .inr (10, [.ref q11, .null, .int 0])), (q11, .inl (k11, 260, .inl (fun _ => 0)))] := hD
  refine lv_aload_n hx hb d_Va_init_16 rfl (lv_at hl 0 rfl) ?_
  refine lv_iload_n hx hb d_Va_init_17 rfl (lv_at hl 1 rfl) ?_
  refine va_newa (atype := .long) (a0 := (260, .inr (.inl (fun _ => 0)))) hx hb (hts (.arrayClass .long) (List.mem_cons_of_mem _ kw_11)) (ty := .long) rfl hK hP hD hS hA (fun _ => rfl) (by decide) (by decide) (by decide) (Nat.le_of_ble_eq_true rfl) (Nat.le_of_ble_eq_true rfl) d_Va_init_18 (fun q18 k18 H hK hP hD hS => ?_)
  have hK : va_K (dC, dI) vwCl [(k11, .byte), (k18, .long)] s := hK
  have hP : va_P (dC, dI) vwCl [(h0, .inr (10, [.ref q11, .null, .int 0])), (q11, .inl (k11, 260, .inl (fun _ => 0))), (q18, .inl (k18, 260, .inr (.inl (fun _ => 0))))] H := hP
  have hD : va_D A [(h0, .inr (10, [.ref q11, .null, .int 0])), (q11, .inl (k11, 260, .inl (fun _ => 0))), (q18, .inl (k18, 260, .inr (.inl (fun _ => 0))))] := hD
  refine W.widen (k := 2) (n := 520) (Nat.le_of_ble_eq_true rfl) (Nat.le_of_ble_eq_true rfl) ?_
  refine va_putF (D := (dC, dI)) (ci := 10) (v := .ref q18) (ty := (.array .long)) (C := R_Va) (T := TVa) (N := 3) hx hb hts (fun w h => List.mem_cons_of_mem _ (ic_Va w h)) tyVa tyVa_ok nmVa hown hK hP hD hS 0 rfl rfl 1 (by decide) (hts (.fieldLink R_Va 17 "LuaMachineModel$Values" "v" "[J") (List.mem_cons_of_mem _ kw_185)) (fun _ h9 => h9) rfl hin rfl (tyVa_ok 1 (by decide)) rfl rfl (Nat.le_of_ble_eq_true rfl) d_Va_init_20 (fun H locs hP hD hS => ?_)
  have hP : va_P (dC, dI) vwCl [(h0, .inr (10, [.ref q11, .ref q18, .int 0])), (q11, .inl (k11, 260, .inl (fun _ => 0))), (q18, .inl (k18, 260, .inr (.inl (fun _ => 0))))] H := hP
  have hD : va_D A [(h0, .inr (10, [.ref q11, .ref q18, .int 0])), (q11, .inl (k11, 260, .inl (fun _ => 0))), (q18, .inl (k18, 260, .inr (.inl (fun _ => 0))))] := hD
  have hP9 := hP.sub (ws' := [(h0, .inr (10, [.ref q11, .ref q18, .int 0]))]) [0] rfl
  have hD9 := hD.sub (ws' := [(h0, .inr (10, [.ref q11, .ref q18, .int 0]))]) [0] (by decide) rfl
  have hK9 := hK.sub (tys' := []) [] rfl
  refine W.widen (k := 2) (n := 520) (Nat.le_of_ble_eq_true rfl) (Nat.le_of_ble_eq_true rfl) ?_
  exact W.vret hx hb hr (fun t ht hW => ⟨⟨(), rfl, trivial, q11, q18, by rw [ht]; exact hP9, va_K.moved hW.alike hK9, hD9⟩, hS.F ht⟩) hS.2.2 d_Va_init_23

set_option maxHeartbeats 4000000 in
set_option maxRecDepth 100000 in
theorem c_Th_init (l : Launch) (dC : Nat → ClassId) (dI : Nat → Nat → Nat) (h0 : Nat) (sz : Nat) : Met l y_Th_init w_Th_init ({ frames := 2, cells := 21, slots := 15960, locals := 33 }) (va_Pc [.ref h0] (fun U => U.heap.size = sz ∧ va_P (dC, dI) vwCl [(h0, .inr (11, [.int 0, .int 0, .int 0, .int 0, .int 0, .int 0, .null, .null, .null, .null, .null, .null, .null, .null, .null, .null, .null, .null, .null, .null, .null, .null]))] U.heap ∧ va_K (dC, dI) vwCl [] U ∧ va_D (fun _ => True) [(h0, .inr (11, [.int 0, .int 0, .int 0, .int 0, .int 0, .int 0, .null, .null, .null, .null, .null, .null, .null, .null, .null, .null, .null, .null, .null, .null, .null, .null]))] ∧ xB U ∧ xZ (va_A [(h0, .inr (11, [.int 0, .int 0, .int 0, .int 0, .int 0, .int 0, .null, .null, .null, .null, .null, .null, .null, .null, .null, .null, .null, .null, .null, .null, .null, .null]))] sz) U U.heap)) (va_Qv (fun (_ : Unit) => True) (fun _ t => ∃ (q40 : Nat), ∃ (q54 : Nat), ∃ (q68 : Nat), ∃ (q85 : Nat), ∃ (q94 : Nat), ∃ (q103 : Nat), ∃ (q112 : Nat), ∃ (q121 : Nat), ∃ (q130 : Nat), ∃ (q139 : Nat), ∃ (q148 : Nat), ∃ (q157 : Nat), ∃ (q166 : Nat), ∃ (q175 : Nat), ∃ (q184 : Nat), va_P (dC, dI) vwCl [(h0, .inr (11, [.int (-1), .int 0, .int 0, .int 0, .int 0, .int 0, .null, .ref q40, .ref q54, .ref q68, .ref q85, .ref q94, .ref q103, .ref q112, .ref q121, .ref q130, .ref q139, .ref q148, .ref q157, .ref q166, .ref q175, .ref q184]))] t.heap ∧ va_K (dC, dI) vwCl [] t ∧ va_D (va_A [(h0, .inr (11, [.int 0, .int 0, .int 0, .int 0, .int 0, .int 0, .null, .null, .null, .null, .null, .null, .null, .null, .null, .null, .null, .null, .null, .null, .null, .null]))] sz) [(h0, .inr (11, [.int (-1), .int 0, .int 0, .int 0, .int 0, .int 0, .null, .ref q40, .ref q54, .ref q68, .ref q85, .ref q94, .ref q103, .ref q112, .ref q121, .ref q130, .ref q139, .ref q148, .ref q157, .ref q166, .ref q175, .ref q184]))]) (va_A [(h0, .inr (11, [.int 0, .int 0, .int 0, .int 0, .int 0, .int 0, .null, .null, .null, .null, .null, .null, .null, .null, .null, .null, .null, .null, .null, .null, .null, .null]))] sz)) 21 15960 (va_A [(h0, .inr (11, [.int 0, .int 0, .int 0, .int 0, .int 0, .int 0, .null, .null, .null, .null, .null, .null, .null, .null, .null, .null, .null, .null, .null, .null, .null, .null]))] sz) := by
  refine Met.ofW (cc := b_Th_init) (maxL := 1) (ret := none) (by decide) rfl ?_
  intro p e s m args below meth c s₁ B hml hv
  obtain ⟨rfl, hsz, hP, hK, hD0, hB, hZ⟩ := hv
  have hx := B.exec
  have hb := B.bytes
  have hr := B.returns
  have hts := atoms_spec (ws := w_Th_init) B.pre
  have hown : s.vm.findClass R_Th = some m.cls := findClass_of_methodNamed B.named
  have hlocks := B.notSynchronized
  have hin : meth.name = "<init>" := (name_of_methodNamed B.named B.method).1
  subst hsz
  have hD := hD0.self (sz := s.heap.size)
  generalize hAe : va_A [(h0, .inr (11, [.int 0, .int 0, .int 0, .int 0, .int 0, .int 0, .null, .null, .null, .null, .null, .null, .null, .null, .null, .null, .null, .null, .null, .null, .null, .null]))] s.heap.size = A at hD hZ ⊢
  have hA : ∀ q : Nat, s.heap.size ≤ q → A q := fun q h => by rw [← hAe]; exact Or.inr h
  have hS : va_S A s.heap s.heap [] := va_S.rf
  have hl := lv_entry ([.ref h0]) (n := 1) (Nat.le_of_ble_eq_true rfl)
  rw [lg_entry_eq]
  generalize (lg_sl ([.ref h0]) ++ List.replicate (1 - (lg_sl ([.ref h0])).length) Slot.unset).toArray = ls at hl ⊢
  have hl : lv_has ls 1 [(0, .ref h0)] := hl
  have hP : va_P (dC, dI) vwCl [(h0, .inr (11, [.int 0, .int 0, .int 0, .int 0, .int 0, .int 0, .null, .null, .null, .null, .null, .null, .null, .null, .null, .null, .null, .null, .null, .null, .null, .null]))] s.heap := hP
  have hD : va_D A [(h0, .inr (11, [.int 0, .int 0, .int 0, .int 0, .int 0, .int 0, .null, .null, .null, .null, .null, .null, .null, .null, .null, .null, .null, .null, .null, .null, .null, .null]))] := hD
  refine lv_aload_n hx hb d_Th_init_0 rfl (lv_at hl 0 rfl) ?_
  refine W.objInit hx hb hown (hts (.methodLink R_Th 1 objectInit) (List.mem_cons_of_mem _ kw_186)) (hts (.instanceMethod objectInit) (List.mem_cons_of_mem _ kw_1)) (hts (.code objectInit ⟨#[0xb1]⟩ 1 none) (List.mem_cons_of_mem _ kw_2)) rfl (by rw [hml]; exact hl.1) rfl d_Th_init_1 (Nat.le_of_ble_eq_true rfl) (Nat.le_of_ble_eq_true rfl) ?_
  refine W.eq (g2 := F0 m 4 ls []) rfl ?_
  refine lv_aload_n hx hb d_Th_init_4 rfl (lv_at hl 0 rfl) ?_
  refine lv_iconst (v := (-1)) hx hb d_Th_init_5 (by decide) ?_
  refine va_put (D := (dC, dI)) (ci := 11) (v := .int (-1)) (ty := .int) (C := R_Th) (T := TTh) (N := 22) hx hb hts (fun w h => List.mem_cons_of_mem _ (ic_Th w h)) tyTh tyTh_ok nmTh hown hK hP hD hS 0 rfl rfl 0 (by decide) (hts (.fieldLink R_Th 7 "LuaMachineModel$Thread_" "place" "I") (List.mem_cons_of_mem _ kw_187)) (fun _ h9 => h9) rfl (tyTh_ok 0 (by decide)) rfl rfl (Nat.le_of_ble_eq_true rfl) d_Th_init_6 (fun H locs hP hD hS => ?_)
  have hP : va_P (dC, dI) vwCl [(h0, .inr (11, [.int (-1), .int 0, .int 0, .int 0, .int 0, .int 0, .null, .null, .null, .null, .null, .null, .null, .null, .null, .null, .null, .null, .null, .null, .null, .null]))] H := hP
  have hD : va_D A [(h0, .inr (11, [.int (-1), .int 0, .int 0, .int 0, .int 0, .int 0, .null, .null, .null, .null, .null, .null, .null, .null, .null, .null, .null, .null, .null, .null, .null, .null]))] := hD
  refine lv_aload_n hx hb d_Th_init_9 rfl (lv_at hl 0 rfl) ?_
  refine lv_iconst (v := 0) hx hb d_Th_init_10 (by decide) ?_
  refine va_put (D := (dC, dI)) (ci := 11) (v := .int 0) (ty := .int) (C := R_Th) (T := TTh) (N := 22) hx hb hts (fun w h => List.mem_cons_of_mem _ (ic_Th w h)) tyTh tyTh_ok nmTh hown hK hP hD hS 0 rfl rfl 1 (by decide) (hts (.fieldLink R_Th 13 "LuaMachineModel$Thread_" "state" "I") (List.mem_cons_of_mem _ kw_188)) (fun _ h9 => h9) rfl (tyTh_ok 1 (by decide)) rfl rfl (Nat.le_of_ble_eq_true rfl) d_Th_init_11 (fun H locs hP hD hS => ?_)
  have hP : va_P (dC, dI) vwCl [(h0, .inr (11, [.int (-1), .int 0, .int 0, .int 0, .int 0, .int 0, .null, .null, .null, .null, .null, .null, .null, .null, .null, .null, .null, .null, .null, .null, .null, .null]))] H := hP
  have hD : va_D A [(h0, .inr (11, [.int (-1), .int 0, .int 0, .int 0, .int 0, .int 0, .null, .null, .null, .null, .null, .null, .null, .null, .null, .null, .null, .null, .null, .null, .null, .null]))] := hD
  refine lv_aload_n hx hb d_Th_init_14 rfl (lv_at hl 0 rfl) ?_
  refine lv_iconst (v := 0) hx hb d_Th_init_15 (by decide) ?_
  refine va_put (D := (dC, dI)) (ci := 11) (v := .int 0) (ty := .int) (C := R_Th) (T := TTh) (N := 22) hx hb hts (fun w h => List.mem_cons_of_mem _ (ic_Th w h)) tyTh tyTh_ok nmTh hown hK hP hD hS 0 rfl rfl 2 (by decide) (hts (.fieldLink R_Th 16 "LuaMachineModel$Thread_" "frames" "I") (List.mem_cons_of_mem _ kw_189)) (fun _ h9 => h9) rfl (tyTh_ok 2 (by decide)) rfl rfl (Nat.le_of_ble_eq_true rfl) d_Th_init_16 (fun H locs hP hD hS => ?_)
  have hP : va_P (dC, dI) vwCl [(h0, .inr (11, [.int (-1), .int 0, .int 0, .int 0, .int 0, .int 0, .null, .null, .null, .null, .null, .null, .null, .null, .null, .null, .null, .null, .null, .null, .null, .null]))] H := hP
  have hD : va_D A [(h0, .inr (11, [.int (-1), .int 0, .int 0, .int 0, .int 0, .int 0, .null, .null, .null, .null, .null, .null, .null, .null, .null, .null, .null, .null, .null, .null, .null, .null]))] := hD
  refine lv_aload_n hx hb d_Th_init_19 rfl (lv_at hl 0 rfl) ?_
  refine lv_iconst (v := 0) hx hb d_Th_init_20 (by decide) ?_
  refine va_put (D := (dC, dI)) (ci := 11) (v := .int 0) (ty := .int) (C := R_Th) (T := TTh) (N := 22) hx hb hts (fun w h => List.mem_cons_of_mem _ (ic_Th w h)) tyTh tyTh_ok nmTh hown hK hP hD hS 0 rfl rfl 3 (by decide) (hts (.fieldLink R_Th 19 "LuaMachineModel$Thread_" "openCount" "I") (List.mem_cons_of_mem _ kw_190)) (fun _ h9 => h9) rfl (tyTh_ok 3 (by decide)) rfl rfl (Nat.le_of_ble_eq_true rfl) d_Th_init_21 (fun H locs hP hD hS => ?_)
  have hP : va_P (dC, dI) vwCl [(h0, .inr (11, [.int (-1), .int 0, .int 0, .int 0, .int 0, .int 0, .null, .null, .null, .null, .null, .null, .null, .null, .null, .null, .null, .null, .null, .null, .null, .null]))] H := hP
  have hD : va_D A [(h0, .inr (11, [.int (-1), .int 0, .int 0, .int 0, .int 0, .int 0, .null, .null, .null, .null, .null, .null, .null, .null, .null, .null, .null, .null, .null, .null, .null, .null]))] := hD
  refine lv_aload_n hx hb d_Th_init_24 rfl (lv_at hl 0 rfl) ?_
  refine lv_iconst (v := 0) hx hb d_Th_init_25 (by decide) ?_
  refine va_put (D := (dC, dI)) (ci := 11) (v := .int 0) (ty := .int) (C := R_Th) (T := TTh) (N := 22) hx hb hts (fun w h => List.mem_cons_of_mem _ (ic_Th w h)) tyTh tyTh_ok nmTh hown hK hP hD hS 0 rfl rfl 4 (by decide) (hts (.fieldLink R_Th 22 "LuaMachineModel$Thread_" "room" "I") (List.mem_cons_of_mem _ kw_191)) (fun _ h9 => h9) rfl (tyTh_ok 4 (by decide)) rfl rfl (Nat.le_of_ble_eq_true rfl) d_Th_init_26 (fun H locs hP hD hS => ?_)
  have hP : va_P (dC, dI) vwCl [(h0, .inr (11, [.int (-1), .int 0, .int 0, .int 0, .int 0, .int 0, .null, .null, .null, .null, .null, .null, .null, .null, .null, .null, .null, .null, .null, .null, .null, .null]))] H := hP
  have hD : va_D A [(h0, .inr (11, [.int (-1), .int 0, .int 0, .int 0, .int 0, .int 0, .null, .null, .null, .null, .null, .null, .null, .null, .null, .null, .null, .null, .null, .null, .null, .null]))] := hD
  refine lv_aload_n hx hb d_Th_init_29 rfl (lv_at hl 0 rfl) ?_
  refine lv_iconst (v := 0) hx hb d_Th_init_30 (by decide) ?_
  refine va_put (D := (dC, dI)) (ci := 11) (v := .int 0) (ty := .boolean) (C := R_Th) (T := TTh) (N := 22) hx hb hts (fun w h => List.mem_cons_of_mem _ (ic_Th w h)) tyTh tyTh_ok nmTh hown hK hP hD hS 0 rfl rfl 5 (by decide) (hts (.fieldLink R_Th 25 "LuaMachineModel$Thread_" "begun" "Z") (List.mem_cons_of_mem _ kw_192)) (fun _ h9 => h9) rfl (tyTh_ok 5 (by decide)) rfl rfl (Nat.le_of_ble_eq_true rfl) d_Th_init_31 (fun H locs hP hD hS => ?_)
  have hP : va_P (dC, dI) vwCl [(h0, .inr (11, [.int (-1), .int 0, .int 0, .int 0, .int 0, .int 0, .null, .null, .null, .null, .null, .null, .null, .null, .null, .null, .null, .null, .null, .null, .null, .null]))] H := hP
  have hD : va_D A [(h0, .inr (11, [.int (-1), .int 0, .int 0, .int 0, .int 0, .int 0, .null, .null, .null, .null, .null, .null, .null, .null, .null, .null, .null, .null, .null, .null, .null, .null]))] := hD
  refine lv_aload_n hx hb d_Th_init_34 rfl (lv_at hl 0 rfl) ?_
  refine lv_null hx hb d_Th_init_35 ?_
  refine va_put (D := (dC, dI)) (ci := 11) (v := .null) (ty := (.object "LuaMachineModel$Thread_")) (C := R_Th) (T := TTh) (N := 22) hx hb hts (fun w h => List.mem_cons_of_mem _ (ic_Th w h)) tyTh tyTh_ok nmTh hown hK hP hD hS 0 rfl rfl 6 (by decide) (hts (.fieldLink R_Th 29 "LuaMachineModel$Thread_" "resumer" "LLuaMachineModel$Thread_;") (List.mem_cons_of_mem _ kw_193)) (fun _ h9 => h9) rfl (tyTh_ok 6 (by decide)) rfl rfl (Nat.le_of_ble_eq_true rfl) d_Th_init_36 (fun H locs hP hD hS => ?_)
  have hP : va_P (dC, dI) vwCl [(h0, .inr (11, [.int (-1), .int 0, .int 0, .int 0, .int 0, .int 0, .null, .null, .null, .null, .null, .null, .null, .null, .null, .null, .null, .null, .null, .null, .null, .null]))] H := hP
  have hD : va_D A [(h0, .inr (11, [.int (-1), .int 0, .int 0, .int 0, .int 0, .int 0, .null, .null, .null, .null, .null, .null, .null, .null, .null, .null, .null, .null, .null, .null, .null, .null]))] := hD
  refine lv_aload_n hx hb d_Th_init_39 rfl (lv_at hl 0 rfl) ?_
  refine va_new (ci := 10) (fs := [.null, .null, .int 0]) (C := R_Va) (T := TVa) (N := 3) hx hb hts (fun w h => List.mem_cons_of_mem _ (ic_Va w h)) tyVa tyVa_ok hown (hts (.classLink R_Th 33 R_Va) (List.mem_cons_of_mem _ kw_194)) (hts (.instantiable R_Va 3) (List.mem_cons_of_mem _ kw_195)) (hts (.initialized R_Va) (List.mem_cons_of_mem _ kw_196)) hK hP hD hS hA rfl dvVa (Nat.le_of_ble_eq_true rfl) (Nat.le_of_ble_eq_true rfl) d_Th_init_40 (fun q40 H hP hD hS => ?_)
  have hP : va_P (dC, dI) vwCl [(h0, .inr (11, [.int (-1), .int 0, .int 0, .int 0, .int 0, .int 0, .null, .null, .null, .null, .null, .null, .null, .null, .null, .null, .null, .null, .null, .null, .null, .null])), (q40, .inr (10, [.null, .null, .int 0]))] H := hP
  have hD : va_D A [(h0, .inr (11, [.int (-1), .int 0, .int 0, .int 0, .int 0, .int 0, .null, .null, .null, .null, .null, .null, .null, .null, .null, .null, .null, .null, .null, .null, .null, .null])), (q40, .inr (10, [.null, .null, .int 0]))] := hD
  refine W.widen (k := 1) (n := 3) (Nat.le_of_ble_eq_true rfl) (Nat.le_of_ble_eq_true rfl) ?_
  refine lv_dup hx hb d_Th_init_43 rfl ?_
  refine lv_sipush (v := 4300) hx hb d_Th_init_44 (by decide) ?_
  have hPc := hP.sub (ws' := [(q40, .inr (10, [.null, .null, .int 0]))]) [1] rfl
  have hDc := hD.sub (ws' := [(q40, .inr (10, [.null, .null, .int 0]))]) [1] (by decide) rfl
  have hKc := hK.sub (tys' := []) [] rfl
  have hFc := va_free (wc := [(q40, .inr (10, [.null, .null, .int 0]))]) hD hS hA [1] rfl
  refine va_callv (va_runI (As := [.int 4300]) (rest := [.ref q40, .ref h0]) ⟨hx, hb, hml, hown, hts⟩ (c_Va_init_4300 l dC dI q40 H.size ) (cwI 1 hts (gC k_Va_init) rfl rfl rfl (hts (.initialized R_Va) (List.mem_cons_of_mem _ kw_196)) (hts (.methodLink R_Th 35 y_Va_init) (List.mem_cons_of_mem _ kw_197)) (hts (.instanceMethod y_Va_init) (List.mem_cons_of_mem _ kw_198)) rfl (by decide +kernel) ⟨(Nat.le_of_ble_eq_true rfl), (Nat.le_of_ble_eq_true rfl)⟩) ⟨fun a U g mk q => by obtain ⟨q0, q1, qP, qK, qD, qhB, qhZ⟩ := q; exact ⟨q0, q1, qP, va_K.moved (u := U) (U := U.calling g mk a) (Vm.Alike.refl U.vm) qK, qD, xB.warm (s := U) (U := U.calling g mk a) (State.WarmedH.refl U) qhB, xZ.moved (u := U) (U := U.calling g mk a) (Vm.Alike.refl U.vm) qhZ⟩, fun U hU hW => ⟨rfl, by rw [hU], by rw [hU]; exact hPc, va_K.moved hW.alike hKc, hDc.weaken (fun _ _ _ _ => trivial), xB.warm hW hB, (by rw [hU]; exact xZ.moved hW.alike ((hZ.kept hS.2.1).narrow hFc))⟩⟩ rfl rfl hl.1 rfl (lv_room (Nat.le_of_ble_eq_true rfl)) d_Th_init_47 ⟨(Nat.le_of_ble_eq_true rfl), (Nat.le_of_ble_eq_true rfl)⟩) hS (fun q _ h => hFc q h) hFc (fun u t H1 locs ht hvm hw hB hz1 hk1 hS => ?_)
  obtain ⟨q11_47, q18_47, hP1, hK1, hD1⟩ := hB
  rw [ht] at hP1
  have hK1 := va_K.moved hvm.symm hK1
  obtain ⟨hP, hD⟩ := va_join (wr := [(h0, .inr (11, [.int (-1), .int 0, .int 0, .int 0, .int 0, .int 0, .null, .null, .null, .null, .null, .null, .null, .null, .null, .null, .null, .null, .null, .null, .null, .null]))]) (w1 := [(q40, .inr (10, [.ref q11_47, .ref q18_47, .int 0]))]) hP hD [1] [0] rfl rfl (by decide) (by decide) hk1 hFc hP1 hD1
  have hK := (hK.sub (tys' := []) [] rfl).app hK1
  generalize H1 = H at hP hS ⊢
  have hK : va_K (dC, dI) vwCl [] s := hK
  have hP : va_P (dC, dI) vwCl [(h0, .inr (11, [.int (-1), .int 0, .int 0, .int 0, .int 0, .int 0, .null, .null, .null, .null, .null, .null, .null, .null, .null, .null, .null, .null, .null, .null, .null, .null])), (q40, .inr (10, [.ref q11_47, .ref q18_47, .int 0]))] H := hP
  have hD : va_D A [(h0, .inr (11, [.int (-1), .int 0, .int 0, .int 0, .int 0, .int 0, .null, .null, .null, .null, .null, .null, .null, .null, .null, .null, .null, .null, .null, .null, .null, .null])), (q40, .inr (10, [.ref q11_47, .ref q18_47, .int 0]))] := hD
  refine W.widen (k := 3) (n := 8603) (Nat.le_of_ble_eq_true rfl) (Nat.le_of_ble_eq_true rfl) ?_
  refine va_putF (D := (dC, dI)) (ci := 11) (v := .ref q40) (ty := (.object "LuaMachineModel$Values")) (C := R_Th) (T := TTh) (N := 22) hx hb hts (fun w h => List.mem_cons_of_mem _ (ic_Th w h)) tyTh tyTh_ok nmTh hown hK hP hD hS 0 rfl rfl 7 (by decide) (hts (.fieldLink R_Th 38 "LuaMachineModel$Thread_" "stack" "LLuaMachineModel$Values;") (List.mem_cons_of_mem _ kw_199)) (fun _ h9 => h9) rfl hin rfl (tyTh_ok 7 (by decide)) rfl rfl (Nat.le_of_ble_eq_true rfl) d_Th_init_50 (fun H locs hP hD hS => ?_)
  have hP : va_P (dC, dI) vwCl [(h0, .inr (11, [.int (-1), .int 0, .int 0, .int 0, .int 0, .int 0, .null, .ref q40, .null, .null, .null, .null, .null, .null, .null, .null, .null, .null, .null, .null, .null, .null])), (q40, .inr (10, [.ref q11_47, .ref q18_47, .int 0]))] H := hP
  have hD : va_D A [(h0, .inr (11, [.int (-1), .int 0, .int 0, .int 0, .int 0, .int 0, .null, .ref q40, .null, .null, .null, .null, .null, .null, .null, .null, .null, .null, .null, .null, .null, .null])), (q40, .inr (10, [.ref q11_47, .ref q18_47, .int 0]))] := hD
  have hP := hP.sub (ws' := [(h0, .inr (11, [.int (-1), .int 0, .int 0, .int 0, .int 0, .int 0, .null, .ref q40, .null, .null, .null, .null, .null, .null, .null, .null, .null, .null, .null, .null, .null, .null]))]) [0] rfl
  have hD := hD.sub (ws' := [(h0, .inr (11, [.int (-1), .int 0, .int 0, .int 0, .int 0, .int 0, .null, .ref q40, .null, .null, .null, .null, .null, .null, .null, .null, .null, .null, .null, .null, .null, .null]))]) [0] (by decide) rfl
  have hK := hK.sub (tys' := []) [] rfl
  refine lv_aload_n hx hb d_Th_init_53 rfl (lv_at hl 0 rfl) ?_
  refine va_new (ci := 10) (fs := [.null, .null, .int 0]) (C := R_Va) (T := TVa) (N := 3) hx hb hts (fun w h => List.mem_cons_of_mem _ (ic_Va w h)) tyVa tyVa_ok hown (hts (.classLink R_Th 33 R_Va) (List.mem_cons_of_mem _ kw_194)) (hts (.instantiable R_Va 3) (List.mem_cons_of_mem _ kw_195)) (hts (.initialized R_Va) (List.mem_cons_of_mem _ kw_196)) hK hP hD hS hA rfl dvVa (Nat.le_of_ble_eq_true rfl) (Nat.le_of_ble_eq_true rfl) d_Th_init_54 (fun q54 H hP hD hS => ?_)
  have hP : va_P (dC, dI) vwCl [(h0, .inr (11, [.int (-1), .int 0, .int 0, .int 0, .int 0, .int 0, .null, .ref q40, .null, .null, .null, .null, .null, .null, .null, .null, .null, .null, .null, .null, .null, .null])), (q54, .inr (10, [.null, .null, .int 0]))] H := hP
  have hD : va_D A [(h0, .inr (11, [.int (-1), .int 0, .int 0, .int 0, .int 0, .int 0, .null, .ref q40, .null, .null, .null, .null, .null, .null, .null, .null, .null, .null, .null, .null, .null, .null])), (q54, .inr (10, [.null, .null, .int 0]))] := hD
  refine W.widen (k := 4) (n := 8606) (Nat.le_of_ble_eq_true rfl) (Nat.le_of_ble_eq_true rfl) ?_
  refine lv_dup hx hb d_Th_init_57 rfl ?_
  refine lv_sipush (v := 260) hx hb d_Th_init_58 (by decide) ?_
  have hPc := hP.sub (ws' := [(q54, .inr (10, [.null, .null, .int 0]))]) [1] rfl
  have hDc := hD.sub (ws' := [(q54, .inr (10, [.null, .null, .int 0]))]) [1] (by decide) rfl
  have hKc := hK.sub (tys' := []) [] rfl
  have hFc := va_free (wc := [(q54, .inr (10, [.null, .null, .int 0]))]) hD hS hA [1] rfl
  refine va_callv (va_runI (As := [.int 260]) (rest := [.ref q54, .ref h0]) ⟨hx, hb, hml, hown, hts⟩ (c_Va_init_260 l dC dI q54 H.size ) (cwI 1 hts (gC k_Va_init) rfl rfl rfl (hts (.initialized R_Va) (List.mem_cons_of_mem _ kw_196)) (hts (.methodLink R_Th 35 y_Va_init) (List.mem_cons_of_mem _ kw_197)) (hts (.instanceMethod y_Va_init) (List.mem_cons_of_mem _ kw_198)) rfl (by decide +kernel) ⟨(Nat.le_of_ble_eq_true rfl), (Nat.le_of_ble_eq_true rfl)⟩) ⟨fun a U g mk q => by obtain ⟨q0, q1, qP, qK, qD, qhB, qhZ⟩ := q; exact ⟨q0, q1, qP, va_K.moved (u := U) (U := U.calling g mk a) (Vm.Alike.refl U.vm) qK, qD, xB.warm (s := U) (U := U.calling g mk a) (State.WarmedH.refl U) qhB, xZ.moved (u := U) (U := U.calling g mk a) (Vm.Alike.refl U.vm) qhZ⟩, fun U hU hW => ⟨rfl, by rw [hU], by rw [hU]; exact hPc, va_K.moved hW.alike hKc, hDc.weaken (fun _ _ _ _ => trivial), xB.warm hW hB, (by rw [hU]; exact xZ.moved hW.alike ((hZ.kept hS.2.1).narrow hFc))⟩⟩ rfl rfl hl.1 rfl (lv_room (Nat.le_of_ble_eq_true rfl)) d_Th_init_61 ⟨(Nat.le_of_ble_eq_true rfl), (Nat.le_of_ble_eq_true rfl)⟩) hS (fun q _ h => hFc q h) hFc (fun u t H1 locs ht hvm hw hB hz1 hk1 hS => ?_)
  obtain ⟨q11_61, q18_61, hP1, hK1, hD1⟩ := hB
  rw [ht] at hP1
  have hK1 := va_K.moved hvm.symm hK1
  obtain ⟨hP, hD⟩ := va_join (wr := [(h0, .inr (11, [.int (-1), .int 0, .int 0, .int 0, .int 0, .int 0, .null, .ref q40, .null, .null, .null, .null, .null, .null, .null, .null, .null, .null, .null, .null, .null, .null]))]) (w1 := [(q54, .inr (10, [.ref q11_61, .ref q18_61, .int 0]))]) hP hD [1] [0] rfl rfl (by decide) (by decide) hk1 hFc hP1 hD1
  have hK := (hK.sub (tys' := []) [] rfl).app hK1
  generalize H1 = H at hP hS ⊢
  have hK : va_K (dC, dI) vwCl [] s := hK
  have hP : va_P (dC, dI) vwCl [(h0, .inr (11, [.int (-1), .int 0, .int 0, .int 0, .int 0, .int 0, .null, .ref q40, .null, .null, .null, .null, .null, .null, .null, .null, .null, .null, .null, .null, .null, .null])), (q54, .inr (10, [.ref q11_61, .ref q18_61, .int 0]))] H := hP
  have hD : va_D A [(h0, .inr (11, [.int (-1), .int 0, .int 0, .int 0, .int 0, .int 0, .null, .ref q40, .null, .null, .null, .null, .null, .null, .null, .null, .null, .null, .null, .null, .null, .null])), (q54, .inr (10, [.ref q11_61, .ref q18_61, .int 0]))] := hD
  refine W.widen (k := 6) (n := 9126) (Nat.le_of_ble_eq_true rfl) (Nat.le_of_ble_eq_true rfl) ?_
  refine va_putF (D := (dC, dI)) (ci := 11) (v := .ref q54) (ty := (.object "LuaMachineModel$Values")) (C := R_Th) (T := TTh) (N := 22) hx hb hts (fun w h => List.mem_cons_of_mem _ (ic_Th w h)) tyTh tyTh_ok nmTh hown hK hP hD hS 0 rfl rfl 8 (by decide) (hts (.fieldLink R_Th 42 "LuaMachineModel$Thread_" "row" "LLuaMachineModel$Values;") (List.mem_cons_of_mem _ kw_200)) (fun _ h9 => h9) rfl hin rfl (tyTh_ok 8 (by decide)) rfl rfl (Nat.le_of_ble_eq_true rfl) d_Th_init_64 (fun H locs hP hD hS => ?_)
  have hP : va_P (dC, dI) vwCl [(h0, .inr (11, [.int (-1), .int 0, .int 0, .int 0, .int 0, .int 0, .null, .ref q40, .ref q54, .null, .null, .null, .null, .null, .null, .null, .null, .null, .null, .null, .null, .null])), (q54, .inr (10, [.ref q11_61, .ref q18_61, .int 0]))] H := hP
  have hD : va_D A [(h0, .inr (11, [.int (-1), .int 0, .int 0, .int 0, .int 0, .int 0, .null, .ref q40, .ref q54, .null, .null, .null, .null, .null, .null, .null, .null, .null, .null, .null, .null, .null])), (q54, .inr (10, [.ref q11_61, .ref q18_61, .int 0]))] := hD
  have hP := hP.sub (ws' := [(h0, .inr (11, [.int (-1), .int 0, .int 0, .int 0, .int 0, .int 0, .null, .ref q40, .ref q54, .null, .null, .null, .null, .null, .null, .null, .null, .null, .null, .null, .null, .null]))]) [0] rfl
  have hD := hD.sub (ws' := [(h0, .inr (11, [.int (-1), .int 0, .int 0, .int 0, .int 0, .int 0, .null, .ref q40, .ref q54, .null, .null, .null, .null, .null, .null, .null, .null, .null, .null, .null, .null, .null]))]) [0] (by decide) rfl
  have hK := hK.sub (tys' := []) [] rfl
  refine lv_aload_n hx hb d_Th_init_67 rfl (lv_at hl 0 rfl) ?_
  refine va_new (ci := 10) (fs := [.null, .null, .int 0]) (C := R_Va) (T := TVa) (N := 3) hx hb hts (fun w h => List.mem_cons_of_mem _ (ic_Va w h)) tyVa tyVa_ok hown (hts (.classLink R_Th 33 R_Va) (List.mem_cons_of_mem _ kw_194)) (hts (.instantiable R_Va 3) (List.mem_cons_of_mem _ kw_195)) (hts (.initialized R_Va) (List.mem_cons_of_mem _ kw_196)) hK hP hD hS hA rfl dvVa (Nat.le_of_ble_eq_true rfl) (Nat.le_of_ble_eq_true rfl) d_Th_init_68 (fun q68 H hP hD hS => ?_)
  have hP : va_P (dC, dI) vwCl [(h0, .inr (11, [.int (-1), .int 0, .int 0, .int 0, .int 0, .int 0, .null, .ref q40, .ref q54, .null, .null, .null, .null, .null, .null, .null, .null, .null, .null, .null, .null, .null])), (q68, .inr (10, [.null, .null, .int 0]))] H := hP
  have hD : va_D A [(h0, .inr (11, [.int (-1), .int 0, .int 0, .int 0, .int 0, .int 0, .null, .ref q40, .ref q54, .null, .null, .null, .null, .null, .null, .null, .null, .null, .null, .null, .null, .null])), (q68, .inr (10, [.null, .null, .int 0]))] := hD
  refine W.widen (k := 7) (n := 9129) (Nat.le_of_ble_eq_true rfl) (Nat.le_of_ble_eq_true rfl) ?_
  refine lv_dup hx hb d_Th_init_71 rfl ?_
  refine lv_sipush (v := 260) hx hb d_Th_init_72 (by decide) ?_
  have hPc := hP.sub (ws' := [(q68, .inr (10, [.null, .null, .int 0]))]) [1] rfl
  have hDc := hD.sub (ws' := [(q68, .inr (10, [.null, .null, .int 0]))]) [1] (by decide) rfl
  have hKc := hK.sub (tys' := []) [] rfl
  have hFc := va_free (wc := [(q68, .inr (10, [.null, .null, .int 0]))]) hD hS hA [1] rfl
  refine va_callv (va_runI (As := [.int 260]) (rest := [.ref q68, .ref h0]) ⟨hx, hb, hml, hown, hts⟩ (c_Va_init_260 l dC dI q68 H.size ) (cwI 1 hts (gC k_Va_init) rfl rfl rfl (hts (.initialized R_Va) (List.mem_cons_of_mem _ kw_196)) (hts (.methodLink R_Th 35 y_Va_init) (List.mem_cons_of_mem _ kw_197)) (hts (.instanceMethod y_Va_init) (List.mem_cons_of_mem _ kw_198)) rfl (by decide +kernel) ⟨(Nat.le_of_ble_eq_true rfl), (Nat.le_of_ble_eq_true rfl)⟩) ⟨fun a U g mk q => by obtain ⟨q0, q1, qP, qK, qD, qhB, qhZ⟩ := q; exact ⟨q0, q1, qP, va_K.moved (u := U) (U := U.calling g mk a) (Vm.Alike.refl U.vm) qK, qD, xB.warm (s := U) (U := U.calling g mk a) (State.WarmedH.refl U) qhB, xZ.moved (u := U) (U := U.calling g mk a) (Vm.Alike.refl U.vm) qhZ⟩, fun U hU hW => ⟨rfl, by rw [hU], by rw [hU]; exact hPc, va_K.moved hW.alike hKc, hDc.weaken (fun _ _ _ _ => trivial), xB.warm hW hB, (by rw [hU]; exact xZ.moved hW.alike ((hZ.kept hS.2.1).narrow hFc))⟩⟩ rfl rfl hl.1 rfl (lv_room (Nat.le_of_ble_eq_true rfl)) d_Th_init_75 ⟨(Nat.le_of_ble_eq_true rfl), (Nat.le_of_ble_eq_true rfl)⟩) hS (fun q _ h => hFc q h) hFc (fun u t H1 locs ht hvm hw hB hz1 hk1 hS => ?_)
  obtain ⟨q11_75, q18_75, hP1, hK1, hD1⟩ := hB
  rw [ht] at hP1
  have hK1 := va_K.moved hvm.symm hK1
  obtain ⟨hP, hD⟩ := va_join (wr := [(h0, .inr (11, [.int (-1), .int 0, .int 0, .int 0, .int 0, .int 0, .null, .ref q40, .ref q54, .null, .null, .null, .null, .null, .null, .null, .null, .null, .null, .null, .null, .null]))]) (w1 := [(q68, .inr (10, [.ref q11_75, .ref q18_75, .int 0]))]) hP hD [1] [0] rfl rfl (by decide) (by decide) hk1 hFc hP1 hD1
  have hK := (hK.sub (tys' := []) [] rfl).app hK1
  generalize H1 = H at hP hS ⊢
  have hK : va_K (dC, dI) vwCl [] s := hK
  have hP : va_P (dC, dI) vwCl [(h0, .inr (11, [.int (-1), .int 0, .int 0, .int 0, .int 0, .int 0, .null, .ref q40, .ref q54, .null, .null, .null, .null, .null, .null, .null, .null, .null, .null, .null, .null, .null])), (q68, .inr (10, [.ref q11_75, .ref q18_75, .int 0]))] H := hP
  have hD : va_D A [(h0, .inr (11, [.int (-1), .int 0, .int 0, .int 0, .int 0, .int 0, .null, .ref q40, .ref q54, .null, .null, .null, .null, .null, .null, .null, .null, .null, .null, .null, .null, .null])), (q68, .inr (10, [.ref q11_75, .ref q18_75, .int 0]))] := hD
  refine W.widen (k := 9) (n := 9649) (Nat.le_of_ble_eq_true rfl) (Nat.le_of_ble_eq_true rfl) ?_
  refine va_putF (D := (dC, dI)) (ci := 11) (v := .ref q68) (ty := (.object "LuaMachineModel$Values")) (C := R_Th) (T := TTh) (N := 22) hx hb hts (fun w h => List.mem_cons_of_mem _ (ic_Th w h)) tyTh tyTh_ok nmTh hown hK hP hD hS 0 rfl rfl 9 (by decide) (hts (.fieldLink R_Th 45 "LuaMachineModel$Thread_" "start" "LLuaMachineModel$Values;") (List.mem_cons_of_mem _ kw_201)) (fun _ h9 => h9) rfl hin rfl (tyTh_ok 9 (by decide)) rfl rfl (Nat.le_of_ble_eq_true rfl) d_Th_init_78 (fun H locs hP hD hS => ?_)
  have hP : va_P (dC, dI) vwCl [(h0, .inr (11, [.int (-1), .int 0, .int 0, .int 0, .int 0, .int 0, .null, .ref q40, .ref q54, .ref q68, .null, .null, .null, .null, .null, .null, .null, .null, .null, .null, .null, .null])), (q68, .inr (10, [.ref q11_75, .ref q18_75, .int 0]))] H := hP
  have hD : va_D A [(h0, .inr (11, [.int (-1), .int 0, .int 0, .int 0, .int 0, .int 0, .null, .ref q40, .ref q54, .ref q68, .null, .null, .null, .null, .null, .null, .null, .null, .null, .null, .null, .null])), (q68, .inr (10, [.ref q11_75, .ref q18_75, .int 0]))] := hD
  have hP := hP.sub (ws' := [(h0, .inr (11, [.int (-1), .int 0, .int 0, .int 0, .int 0, .int 0, .null, .ref q40, .ref q54, .ref q68, .null, .null, .null, .null, .null, .null, .null, .null, .null, .null, .null, .null]))]) [0] rfl
  have hD := hD.sub (ws' := [(h0, .inr (11, [.int (-1), .int 0, .int 0, .int 0, .int 0, .int 0, .null, .ref q40, .ref q54, .ref q68, .null, .null, .null, .null, .null, .null, .null, .null, .null, .null, .null, .null]))]) [0] (by decide) rfl
  have hK := hK.sub (tys' := []) [] rfl
  refine lv_aload_n hx hb d_Th_init_81 rfl (lv_at hl 0 rfl) ?_
  refine lv_sipush (v := 4100) hx hb d_Th_init_82 (by decide) ?_
  refine va_newa (atype := .int) (a0 := (4100, .inl (fun _ => 0))) hx hb (hts (.arrayClass .int) (List.mem_cons_of_mem _ kw_6)) (ty := .int) rfl hK hP hD hS hA (fun _ => rfl) (by decide) (by decide) (by decide) (Nat.le_of_ble_eq_true rfl) (Nat.le_of_ble_eq_true rfl) d_Th_init_85 (fun q85 k85 H hK hP hD hS => ?_)
  have hK : va_K (dC, dI) vwCl [(k85, .int)] s := hK
  have hP : va_P (dC, dI) vwCl [(h0, .inr (11, [.int (-1), .int 0, .int 0, .int 0, .int 0, .int 0, .null, .ref q40, .ref q54, .ref q68, .null, .null, .null, .null, .null, .null, .null, .null, .null, .null, .null, .null])), (q85, .inl (k85, 4100, .inl (fun _ => 0)))] H := hP
  have hD : va_D A [(h0, .inr (11, [.int (-1), .int 0, .int 0, .int 0, .int 0, .int 0, .null, .ref q40, .ref q54, .ref q68, .null, .null, .null, .null, .null, .null, .null, .null, .null, .null, .null, .null])), (q85, .inl (k85, 4100, .inl (fun _ => 0)))] := hD
  refine W.widen (k := 10) (n := 13749) (Nat.le_of_ble_eq_true rfl) (Nat.le_of_ble_eq_true rfl) ?_
  refine va_putF (D := (dC, dI)) (ci := 11) (v := .ref q85) (ty := (.array .int)) (C := R_Th) (T := TTh) (N := 22) hx hb hts (fun w h => List.mem_cons_of_mem _ (ic_Th w h)) tyTh tyTh_ok nmTh hown hK hP hD hS 0 rfl rfl 10 (by decide) (hts (.fieldLink R_Th 48 "LuaMachineModel$Thread_" "open" "[I") (List.mem_cons_of_mem _ kw_202)) (fun _ h9 => h9) rfl hin rfl (tyTh_ok 10 (by decide)) rfl rfl (Nat.le_of_ble_eq_true rfl) d_Th_init_87 (fun H locs hP hD hS => ?_)
  have hP : va_P (dC, dI) vwCl [(h0, .inr (11, [.int (-1), .int 0, .int 0, .int 0, .int 0, .int 0, .null, .ref q40, .ref q54, .ref q68, .ref q85, .null, .null, .null, .null, .null, .null, .null, .null, .null, .null, .null])), (q85, .inl (k85, 4100, .inl (fun _ => 0)))] H := hP
  have hD : va_D A [(h0, .inr (11, [.int (-1), .int 0, .int 0, .int 0, .int 0, .int 0, .null, .ref q40, .ref q54, .ref q68, .ref q85, .null, .null, .null, .null, .null, .null, .null, .null, .null, .null, .null])), (q85, .inl (k85, 4100, .inl (fun _ => 0)))] := hD
  have hP := hP.sub (ws' := [(h0, .inr (11, [.int (-1), .int 0, .int 0, .int 0, .int 0, .int 0, .null, .ref q40, .ref q54, .ref q68, .ref q85, .null, .null, .null, .null, .null, .null, .null, .null, .null, .null, .null]))]) [0] rfl
  have hD := hD.sub (ws' := [(h0, .inr (11, [.int (-1), .int 0, .int 0, .int 0, .int 0, .int 0, .null, .ref q40, .ref q54, .ref q68, .ref q85, .null, .null, .null, .null, .null, .null, .null, .null, .null, .null, .null]))]) [0] (by decide) rfl
  have hK := hK.sub (tys' := []) [] rfl
  refine lv_aload_n hx hb d_Th_init_90 rfl (lv_at hl 0 rfl) ?_
  refine lv_sipush (v := 201) hx hb d_Th_init_91 (by decide) ?_
  refine va_newa (atype := .int) (a0 := (201, .inl (fun _ => 0))) hx hb (hts (.arrayClass .int) (List.mem_cons_of_mem _ kw_6)) (ty := .int) rfl hK hP hD hS hA (fun _ => rfl) (by decide) (by decide) (by decide) (Nat.le_of_ble_eq_true rfl) (Nat.le_of_ble_eq_true rfl) d_Th_init_94 (fun q94 k94 H hK hP hD hS => ?_)
  have hK : va_K (dC, dI) vwCl [(k94, .int)] s := hK
  have hP : va_P (dC, dI) vwCl [(h0, .inr (11, [.int (-1), .int 0, .int 0, .int 0, .int 0, .int 0, .null, .ref q40, .ref q54, .ref q68, .ref q85, .null, .null, .null, .null, .null, .null, .null, .null, .null, .null, .null])), (q94, .inl (k94, 201, .inl (fun _ => 0)))] H := hP
  have hD : va_D A [(h0, .inr (11, [.int (-1), .int 0, .int 0, .int 0, .int 0, .int 0, .null, .ref q40, .ref q54, .ref q68, .ref q85, .null, .null, .null, .null, .null, .null, .null, .null, .null, .null, .null])), (q94, .inl (k94, 201, .inl (fun _ => 0)))] := hD
  refine W.widen (k := 11) (n := 13950) (Nat.le_of_ble_eq_true rfl) (Nat.le_of_ble_eq_true rfl) ?_
  refine va_putF (D := (dC, dI)) (ci := 11) (v := .ref q94) (ty := (.array .int)) (C := R_Th) (T := TTh) (N := 22) hx hb hts (fun w h => List.mem_cons_of_mem _ (ic_Th w h)) tyTh tyTh_ok nmTh hown hK hP hD hS 0 rfl rfl 11 (by decide) (hts (.fieldLink R_Th 52 "LuaMachineModel$Thread_" "kind" "[I") (List.mem_cons_of_mem _ kw_203)) (fun _ h9 => h9) rfl hin rfl (tyTh_ok 11 (by decide)) rfl rfl (Nat.le_of_ble_eq_true rfl) d_Th_init_96 (fun H locs hP hD hS => ?_)
  have hP : va_P (dC, dI) vwCl [(h0, .inr (11, [.int (-1), .int 0, .int 0, .int 0, .int 0, .int 0, .null, .ref q40, .ref q54, .ref q68, .ref q85, .ref q94, .null, .null, .null, .null, .null, .null, .null, .null, .null, .null])), (q94, .inl (k94, 201, .inl (fun _ => 0)))] H := hP
  have hD : va_D A [(h0, .inr (11, [.int (-1), .int 0, .int 0, .int 0, .int 0, .int 0, .null, .ref q40, .ref q54, .ref q68, .ref q85, .ref q94, .null, .null, .null, .null, .null, .null, .null, .null, .null, .null])), (q94, .inl (k94, 201, .inl (fun _ => 0)))] := hD
  have hP := hP.sub (ws' := [(h0, .inr (11, [.int (-1), .int 0, .int 0, .int 0, .int 0, .int 0, .null, .ref q40, .ref q54, .ref q68, .ref q85, .ref q94, .null, .null, .null, .null, .null, .null, .null, .null, .null, .null]))]) [0] rfl
  have hD := hD.sub (ws' := [(h0, .inr (11, [.int (-1), .int 0, .int 0, .int 0, .int 0, .int 0, .null, .ref q40, .ref q54, .ref q68, .ref q85, .ref q94, .null, .null, .null, .null, .null, .null, .null, .null, .null, .null]))]) [0] (by decide) rfl
  have hK := hK.sub (tys' := []) [] rfl
  refine lv_aload_n hx hb d_Th_init_99 rfl (lv_at hl 0 rfl) ?_
  refine lv_sipush (v := 201) hx hb d_Th_init_100 (by decide) ?_
  refine va_newa (atype := .int) (a0 := (201, .inl (fun _ => 0))) hx hb (hts (.arrayClass .int) (List.mem_cons_of_mem _ kw_6)) (ty := .int) rfl hK hP hD hS hA (fun _ => rfl) (by decide) (by decide) (by decide) (Nat.le_of_ble_eq_true rfl) (Nat.le_of_ble_eq_true rfl) d_Th_init_103 (fun q103 k103 H hK hP hD hS => ?_)
  have hK : va_K (dC, dI) vwCl [(k103, .int)] s := hK
  have hP : va_P (dC, dI) vwCl [(h0, .inr (11, [.int (-1), .int 0, .int 0, .int 0, .int 0, .int 0, .null, .ref q40, .ref q54, .ref q68, .ref q85, .ref q94, .null, .null, .null, .null, .null, .null, .null, .null, .null, .null])), (q103, .inl (k103, 201, .inl (fun _ => 0)))] H := hP
  have hD : va_D A [(h0, .inr (11, [.int (-1), .int 0, .int 0, .int 0, .int 0, .int 0, .null, .ref q40, .ref q54, .ref q68, .ref q85, .ref q94, .null, .null, .null, .null, .null, .null, .null, .null, .null, .null])), (q103, .inl (k103, 201, .inl (fun _ => 0)))] := hD
  refine W.widen (k := 12) (n := 14151) (Nat.le_of_ble_eq_true rfl) (Nat.le_of_ble_eq_true rfl) ?_
  refine va_putF (D := (dC, dI)) (ci := 11) (v := .ref q103) (ty := (.array .int)) (C := R_Th) (T := TTh) (N := 22) hx hb hts (fun w h => List.mem_cons_of_mem _ (ic_Th w h)) tyTh tyTh_ok nmTh hown hK hP hD hS 0 rfl rfl 12 (by decide) (hts (.fieldLink R_Th 55 "LuaMachineModel$Thread_" "function" "[I") (List.mem_cons_of_mem _ kw_204)) (fun _ h9 => h9) rfl hin rfl (tyTh_ok 12 (by decide)) rfl rfl (Nat.le_of_ble_eq_true rfl) d_Th_init_105 (fun H locs hP hD hS => ?_)
  have hP : va_P (dC, dI) vwCl [(h0, .inr (11, [.int (-1), .int 0, .int 0, .int 0, .int 0, .int 0, .null, .ref q40, .ref q54, .ref q68, .ref q85, .ref q94, .ref q103, .null, .null, .null, .null, .null, .null, .null, .null, .null])), (q103, .inl (k103, 201, .inl (fun _ => 0)))] H := hP
  have hD : va_D A [(h0, .inr (11, [.int (-1), .int 0, .int 0, .int 0, .int 0, .int 0, .null, .ref q40, .ref q54, .ref q68, .ref q85, .ref q94, .ref q103, .null, .null, .null, .null, .null, .null, .null, .null, .null])), (q103, .inl (k103, 201, .inl (fun _ => 0)))] := hD
  have hP := hP.sub (ws' := [(h0, .inr (11, [.int (-1), .int 0, .int 0, .int 0, .int 0, .int 0, .null, .ref q40, .ref q54, .ref q68, .ref q85, .ref q94, .ref q103, .null, .null, .null, .null, .null, .null, .null, .null, .null]))]) [0] rfl
  have hD := hD.sub (ws' := [(h0, .inr (11, [.int (-1), .int 0, .int 0, .int 0, .int 0, .int 0, .null, .ref q40, .ref q54, .ref q68, .ref q85, .ref q94, .ref q103, .null, .null, .null, .null, .null, .null, .null, .null, .null]))]) [0] (by decide) rfl
  have hK := hK.sub (tys' := []) [] rfl
  refine lv_aload_n hx hb d_Th_init_108 rfl (lv_at hl 0 rfl) ?_
  refine lv_sipush (v := 201) hx hb d_Th_init_109 (by decide) ?_
  refine va_newa (atype := .int) (a0 := (201, .inl (fun _ => 0))) hx hb (hts (.arrayClass .int) (List.mem_cons_of_mem _ kw_6)) (ty := .int) rfl hK hP hD hS hA (fun _ => rfl) (by decide) (by decide) (by decide) (Nat.le_of_ble_eq_true rfl) (Nat.le_of_ble_eq_true rfl) d_Th_init_112 (fun q112 k112 H hK hP hD hS => ?_)
  have hK : va_K (dC, dI) vwCl [(k112, .int)] s := hK
  have hP : va_P (dC, dI) vwCl [(h0, .inr (11, [.int (-1), .int 0, .int 0, .int 0, .int 0, .int 0, .null, .ref q40, .ref q54, .ref q68, .ref q85, .ref q94, .ref q103, .null, .null, .null, .null, .null, .null, .null, .null, .null])), (q112, .inl (k112, 201, .inl (fun _ => 0)))] H := hP
  have hD : va_D A [(h0, .inr (11, [.int (-1), .int 0, .int 0, .int 0, .int 0, .int 0, .null, .ref q40, .ref q54, .ref q68, .ref q85, .ref q94, .ref q103, .null, .null, .null, .null, .null, .null, .null, .null, .null])), (q112, .inl (k112, 201, .inl (fun _ => 0)))] := hD
  refine W.widen (k := 13) (n := 14352) (Nat.le_of_ble_eq_true rfl) (Nat.le_of_ble_eq_true rfl) ?_
  refine va_putF (D := (dC, dI)) (ci := 11) (v := .ref q112) (ty := (.array .int)) (C := R_Th) (T := TTh) (N := 22) hx hb hts (fun w h => List.mem_cons_of_mem _ (ic_Th w h)) tyTh tyTh_ok nmTh hown hK hP hD hS 0 rfl rfl 13 (by decide) (hts (.fieldLink R_Th 58 "LuaMachineModel$Thread_" "pc" "[I") (List.mem_cons_of_mem _ kw_205)) (fun _ h9 => h9) rfl hin rfl (tyTh_ok 13 (by decide)) rfl rfl (Nat.le_of_ble_eq_true rfl) d_Th_init_114 (fun H locs hP hD hS => ?_)
  have hP : va_P (dC, dI) vwCl [(h0, .inr (11, [.int (-1), .int 0, .int 0, .int 0, .int 0, .int 0, .null, .ref q40, .ref q54, .ref q68, .ref q85, .ref q94, .ref q103, .ref q112, .null, .null, .null, .null, .null, .null, .null, .null])), (q112, .inl (k112, 201, .inl (fun _ => 0)))] H := hP
  have hD : va_D A [(h0, .inr (11, [.int (-1), .int 0, .int 0, .int 0, .int 0, .int 0, .null, .ref q40, .ref q54, .ref q68, .ref q85, .ref q94, .ref q103, .ref q112, .null, .null, .null, .null, .null, .null, .null, .null])), (q112, .inl (k112, 201, .inl (fun _ => 0)))] := hD
  have hP := hP.sub (ws' := [(h0, .inr (11, [.int (-1), .int 0, .int 0, .int 0, .int 0, .int 0, .null, .ref q40, .ref q54, .ref q68, .ref q85, .ref q94, .ref q103, .ref q112, .null, .null, .null, .null, .null, .null, .null, .null]))]) [0] rfl
  have hD := hD.sub (ws' := [(h0, .inr (11, [.int (-1), .int 0, .int 0, .int 0, .int 0, .int 0, .null, .ref q40, .ref q54, .ref q68, .ref q85, .ref q94, .ref q103, .ref q112, .null, .null, .null, .null, .null, .null, .null, .null]))]) [0] (by decide) rfl
  have hK := hK.sub (tys' := []) [] rfl
  refine lv_aload_n hx hb d_Th_init_117 rfl (lv_at hl 0 rfl) ?_
  refine lv_sipush (v := 201) hx hb d_Th_init_118 (by decide) ?_
  refine va_newa (atype := .int) (a0 := (201, .inl (fun _ => 0))) hx hb (hts (.arrayClass .int) (List.mem_cons_of_mem _ kw_6)) (ty := .int) rfl hK hP hD hS hA (fun _ => rfl) (by decide) (by decide) (by decide) (Nat.le_of_ble_eq_true rfl) (Nat.le_of_ble_eq_true rfl) d_Th_init_121 (fun q121 k121 H hK hP hD hS => ?_)
  have hK : va_K (dC, dI) vwCl [(k121, .int)] s := hK
  have hP : va_P (dC, dI) vwCl [(h0, .inr (11, [.int (-1), .int 0, .int 0, .int 0, .int 0, .int 0, .null, .ref q40, .ref q54, .ref q68, .ref q85, .ref q94, .ref q103, .ref q112, .null, .null, .null, .null, .null, .null, .null, .null])), (q121, .inl (k121, 201, .inl (fun _ => 0)))] H := hP
  have hD : va_D A [(h0, .inr (11, [.int (-1), .int 0, .int 0, .int 0, .int 0, .int 0, .null, .ref q40, .ref q54, .ref q68, .ref q85, .ref q94, .ref q103, .ref q112, .null, .null, .null, .null, .null, .null, .null, .null])), (q121, .inl (k121, 201, .inl (fun _ => 0)))] := hD
  refine W.widen (k := 14) (n := 14553) (Nat.le_of_ble_eq_true rfl) (Nat.le_of_ble_eq_true rfl) ?_
  refine va_putF (D := (dC, dI)) (ci := 11) (v := .ref q121) (ty := (.array .int)) (C := R_Th) (T := TTh) (N := 22) hx hb hts (fun w h => List.mem_cons_of_mem _ (ic_Th w h)) tyTh tyTh_ok nmTh hown hK hP hD hS 0 rfl rfl 14 (by decide) (hts (.fieldLink R_Th 61 "LuaMachineModel$Thread_" "base" "[I") (List.mem_cons_of_mem _ kw_206)) (fun _ h9 => h9) rfl hin rfl (tyTh_ok 14 (by decide)) rfl rfl (Nat.le_of_ble_eq_true rfl) d_Th_init_123 (fun H locs hP hD hS => ?_)
  have hP : va_P (dC, dI) vwCl [(h0, .inr (11, [.int (-1), .int 0, .int 0, .int 0, .int 0, .int 0, .null, .ref q40, .ref q54, .ref q68, .ref q85, .ref q94, .ref q103, .ref q112, .ref q121, .null, .null, .null, .null, .null, .null, .null])), (q121, .inl (k121, 201, .inl (fun _ => 0)))] H := hP
  have hD : va_D A [(h0, .inr (11, [.int (-1), .int 0, .int 0, .int 0, .int 0, .int 0, .null, .ref q40, .ref q54, .ref q68, .ref q85, .ref q94, .ref q103, .ref q112, .ref q121, .null, .null, .null, .null, .null, .null, .null])), (q121, .inl (k121, 201, .inl (fun _ => 0)))] := hD
  have hP := hP.sub (ws' := [(h0, .inr (11, [.int (-1), .int 0, .int 0, .int 0, .int 0, .int 0, .null, .ref q40, .ref q54, .ref q68, .ref q85, .ref q94, .ref q103, .ref q112, .ref q121, .null, .null, .null, .null, .null, .null, .null]))]) [0] rfl
  have hD := hD.sub (ws' := [(h0, .inr (11, [.int (-1), .int 0, .int 0, .int 0, .int 0, .int 0, .null, .ref q40, .ref q54, .ref q68, .ref q85, .ref q94, .ref q103, .ref q112, .ref q121, .null, .null, .null, .null, .null, .null, .null]))]) [0] (by decide) rfl
  have hK := hK.sub (tys' := []) [] rfl
  refine lv_aload_n hx hb d_Th_init_126 rfl (lv_at hl 0 rfl) ?_
  refine lv_sipush (v := 201) hx hb d_Th_init_127 (by decide) ?_
  refine va_newa (atype := .int) (a0 := (201, .inl (fun _ => 0))) hx hb (hts (.arrayClass .int) (List.mem_cons_of_mem _ kw_6)) (ty := .int) rfl hK hP hD hS hA (fun _ => rfl) (by decide) (by decide) (by decide) (Nat.le_of_ble_eq_true rfl) (Nat.le_of_ble_eq_true rfl) d_Th_init_130 (fun q130 k130 H hK hP hD hS => ?_)
  have hK : va_K (dC, dI) vwCl [(k130, .int)] s := hK
  have hP : va_P (dC, dI) vwCl [(h0, .inr (11, [.int (-1), .int 0, .int 0, .int 0, .int 0, .int 0, .null, .ref q40, .ref q54, .ref q68, .ref q85, .ref q94, .ref q103, .ref q112, .ref q121, .null, .null, .null, .null, .null, .null, .null])), (q130, .inl (k130, 201, .inl (fun _ => 0)))] H := hP
  have hD : va_D A [(h0, .inr (11, [.int (-1), .int 0, .int 0, .int 0, .int 0, .int 0, .null, .ref q40, .ref q54, .ref q68, .ref q85, .ref q94, .ref q103, .ref q112, .ref q121, .null, .null, .null, .null, .null, .null, .null])), (q130, .inl (k130, 201, .inl (fun _ => 0)))] := hD
  refine W.widen (k := 15) (n := 14754) (Nat.le_of_ble_eq_true rfl) (Nat.le_of_ble_eq_true rfl) ?_
  refine va_putF (D := (dC, dI)) (ci := 11) (v := .ref q130) (ty := (.array .int)) (C := R_Th) (T := TTh) (N := 22) hx hb hts (fun w h => List.mem_cons_of_mem _ (ic_Th w h)) tyTh tyTh_ok nmTh hown hK hP hD hS 0 rfl rfl 15 (by decide) (hts (.fieldLink R_Th 64 "LuaMachineModel$Thread_" "extra" "[I") (List.mem_cons_of_mem _ kw_207)) (fun _ h9 => h9) rfl hin rfl (tyTh_ok 15 (by decide)) rfl rfl (Nat.le_of_ble_eq_true rfl) d_Th_init_132 (fun H locs hP hD hS => ?_)
  have hP : va_P (dC, dI) vwCl [(h0, .inr (11, [.int (-1), .int 0, .int 0, .int 0, .int 0, .int 0, .null, .ref q40, .ref q54, .ref q68, .ref q85, .ref q94, .ref q103, .ref q112, .ref q121, .ref q130, .null, .null, .null, .null, .null, .null])), (q130, .inl (k130, 201, .inl (fun _ => 0)))] H := hP
  have hD : va_D A [(h0, .inr (11, [.int (-1), .int 0, .int 0, .int 0, .int 0, .int 0, .null, .ref q40, .ref q54, .ref q68, .ref q85, .ref q94, .ref q103, .ref q112, .ref q121, .ref q130, .null, .null, .null, .null, .null, .null])), (q130, .inl (k130, 201, .inl (fun _ => 0)))] := hD
  have hP := hP.sub (ws' := [(h0, .inr (11, [.int (-1), .int 0, .int 0, .int 0, .int 0, .int 0, .null, .ref q40, .ref q54, .ref q68, .ref q85, .ref q94, .ref q103, .ref q112, .ref q121, .ref q130, .null, .null, .null, .null, .null, .null]))]) [0] rfl
  have hD := hD.sub (ws' := [(h0, .inr (11, [.int (-1), .int 0, .int 0, .int 0, .int 0, .int 0, .null, .ref q40, .ref q54, .ref q68, .ref q85, .ref q94, .ref q103, .ref q112, .ref q121, .ref q130, .null, .null, .null, .null, .null, .null]))]) [0] (by decide) rfl
  have hK := hK.sub (tys' := []) [] rfl
  refine lv_aload_n hx hb d_Th_init_135 rfl (lv_at hl 0 rfl) ?_
  refine lv_sipush (v := 201) hx hb d_Th_init_136 (by decide) ?_
  refine va_newa (atype := .int) (a0 := (201, .inl (fun _ => 0))) hx hb (hts (.arrayClass .int) (List.mem_cons_of_mem _ kw_6)) (ty := .int) rfl hK hP hD hS hA (fun _ => rfl) (by decide) (by decide) (by decide) (Nat.le_of_ble_eq_true rfl) (Nat.le_of_ble_eq_true rfl) d_Th_init_139 (fun q139 k139 H hK hP hD hS => ?_)
  have hK : va_K (dC, dI) vwCl [(k139, .int)] s := hK
  have hP : va_P (dC, dI) vwCl [(h0, .inr (11, [.int (-1), .int 0, .int 0, .int 0, .int 0, .int 0, .null, .ref q40, .ref q54, .ref q68, .ref q85, .ref q94, .ref q103, .ref q112, .ref q121, .ref q130, .null, .null, .null, .null, .null, .null])), (q139, .inl (k139, 201, .inl (fun _ => 0)))] H := hP
  have hD : va_D A [(h0, .inr (11, [.int (-1), .int 0, .int 0, .int 0, .int 0, .int 0, .null, .ref q40, .ref q54, .ref q68, .ref q85, .ref q94, .ref q103, .ref q112, .ref q121, .ref q130, .null, .null, .null, .null, .null, .null])), (q139, .inl (k139, 201, .inl (fun _ => 0)))] := hD
  refine W.widen (k := 16) (n := 14955) (Nat.le_of_ble_eq_true rfl) (Nat.le_of_ble_eq_true rfl) ?_
  refine va_putF (D := (dC, dI)) (ci := 11) (v := .ref q139) (ty := (.array .int)) (C := R_Th) (T := TTh) (N := 22) hx hb hts (fun w h => List.mem_cons_of_mem _ (ic_Th w h)) tyTh tyTh_ok nmTh hown hK hP hD hS 0 rfl rfl 16 (by decide) (hts (.fieldLink R_Th 67 "LuaMachineModel$Thread_" "rowAt" "[I") (List.mem_cons_of_mem _ kw_208)) (fun _ h9 => h9) rfl hin rfl (tyTh_ok 16 (by decide)) rfl rfl (Nat.le_of_ble_eq_true rfl) d_Th_init_141 (fun H locs hP hD hS => ?_)
  have hP : va_P (dC, dI) vwCl [(h0, .inr (11, [.int (-1), .int 0, .int 0, .int 0, .int 0, .int 0, .null, .ref q40, .ref q54, .ref q68, .ref q85, .ref q94, .ref q103, .ref q112, .ref q121, .ref q130, .ref q139, .null, .null, .null, .null, .null])), (q139, .inl (k139, 201, .inl (fun _ => 0)))] H := hP
  have hD : va_D A [(h0, .inr (11, [.int (-1), .int 0, .int 0, .int 0, .int 0, .int 0, .null, .ref q40, .ref q54, .ref q68, .ref q85, .ref q94, .ref q103, .ref q112, .ref q121, .ref q130, .ref q139, .null, .null, .null, .null, .null])), (q139, .inl (k139, 201, .inl (fun _ => 0)))] := hD
  have hP := hP.sub (ws' := [(h0, .inr (11, [.int (-1), .int 0, .int 0, .int 0, .int 0, .int 0, .null, .ref q40, .ref q54, .ref q68, .ref q85, .ref q94, .ref q103, .ref q112, .ref q121, .ref q130, .ref q139, .null, .null, .null, .null, .null]))]) [0] rfl
  have hD := hD.sub (ws' := [(h0, .inr (11, [.int (-1), .int 0, .int 0, .int 0, .int 0, .int 0, .null, .ref q40, .ref q54, .ref q68, .ref q85, .ref q94, .ref q103, .ref q112, .ref q121, .ref q130, .ref q139, .null, .null, .null, .null, .null]))]) [0] (by decide) rfl
  have hK := hK.sub (tys' := []) [] rfl
  refine lv_aload_n hx hb d_Th_init_144 rfl (lv_at hl 0 rfl) ?_
  refine lv_sipush (v := 201) hx hb d_Th_init_145 (by decide) ?_
  refine va_newa (atype := .int) (a0 := (201, .inl (fun _ => 0))) hx hb (hts (.arrayClass .int) (List.mem_cons_of_mem _ kw_6)) (ty := .int) rfl hK hP hD hS hA (fun _ => rfl) (by decide) (by decide) (by decide) (Nat.le_of_ble_eq_true rfl) (Nat.le_of_ble_eq_true rfl) d_Th_init_148 (fun q148 k148 H hK hP hD hS => ?_)
  have hK : va_K (dC, dI) vwCl [(k148, .int)] s := hK
  have hP : va_P (dC, dI) vwCl [(h0, .inr (11, [.int (-1), .int 0, .int 0, .int 0, .int 0, .int 0, .null, .ref q40, .ref q54, .ref q68, .ref q85, .ref q94, .ref q103, .ref q112, .ref q121, .ref q130, .ref q139, .null, .null, .null, .null, .null])), (q148, .inl (k148, 201, .inl (fun _ => 0)))] H := hP
  have hD : va_D A [(h0, .inr (11, [.int (-1), .int 0, .int 0, .int 0, .int 0, .int 0, .null, .ref q40, .ref q54, .ref q68, .ref q85, .ref q94, .ref q103, .ref q112, .ref q121, .ref q130, .ref q139, .null, .null, .null, .null, .null])), (q148, .inl (k148, 201, .inl (fun _ => 0)))] := hD
  refine W.widen (k := 17) (n := 15156) (Nat.le_of_ble_eq_true rfl) (Nat.le_of_ble_eq_true rfl) ?_
  refine va_putF (D := (dC, dI)) (ci := 11) (v := .ref q148) (ty := (.array .int)) (C := R_Th) (T := TTh) (N := 22) hx hb hts (fun w h => List.mem_cons_of_mem _ (ic_Th w h)) tyTh tyTh_ok nmTh hown hK hP hD hS 0 rfl rfl 17 (by decide) (hts (.fieldLink R_Th 70 "LuaMachineModel$Thread_" "rowCount" "[I") (List.mem_cons_of_mem _ kw_209)) (fun _ h9 => h9) rfl hin rfl (tyTh_ok 17 (by decide)) rfl rfl (Nat.le_of_ble_eq_true rfl) d_Th_init_150 (fun H locs hP hD hS => ?_)
  have hP : va_P (dC, dI) vwCl [(h0, .inr (11, [.int (-1), .int 0, .int 0, .int 0, .int 0, .int 0, .null, .ref q40, .ref q54, .ref q68, .ref q85, .ref q94, .ref q103, .ref q112, .ref q121, .ref q130, .ref q139, .ref q148, .null, .null, .null, .null])), (q148, .inl (k148, 201, .inl (fun _ => 0)))] H := hP
  have hD : va_D A [(h0, .inr (11, [.int (-1), .int 0, .int 0, .int 0, .int 0, .int 0, .null, .ref q40, .ref q54, .ref q68, .ref q85, .ref q94, .ref q103, .ref q112, .ref q121, .ref q130, .ref q139, .ref q148, .null, .null, .null, .null])), (q148, .inl (k148, 201, .inl (fun _ => 0)))] := hD
  have hP := hP.sub (ws' := [(h0, .inr (11, [.int (-1), .int 0, .int 0, .int 0, .int 0, .int 0, .null, .ref q40, .ref q54, .ref q68, .ref q85, .ref q94, .ref q103, .ref q112, .ref q121, .ref q130, .ref q139, .ref q148, .null, .null, .null, .null]))]) [0] rfl
  have hD := hD.sub (ws' := [(h0, .inr (11, [.int (-1), .int 0, .int 0, .int 0, .int 0, .int 0, .null, .ref q40, .ref q54, .ref q68, .ref q85, .ref q94, .ref q103, .ref q112, .ref q121, .ref q130, .ref q139, .ref q148, .null, .null, .null, .null]))]) [0] (by decide) rfl
  have hK := hK.sub (tys' := []) [] rfl
  refine lv_aload_n hx hb d_Th_init_153 rfl (lv_at hl 0 rfl) ?_
  refine lv_sipush (v := 201) hx hb d_Th_init_154 (by decide) ?_
  refine va_newa (atype := .int) (a0 := (201, .inl (fun _ => 0))) hx hb (hts (.arrayClass .int) (List.mem_cons_of_mem _ kw_6)) (ty := .int) rfl hK hP hD hS hA (fun _ => rfl) (by decide) (by decide) (by decide) (Nat.le_of_ble_eq_true rfl) (Nat.le_of_ble_eq_true rfl) d_Th_init_157 (fun q157 k157 H hK hP hD hS => ?_)
  have hK : va_K (dC, dI) vwCl [(k157, .int)] s := hK
  have hP : va_P (dC, dI) vwCl [(h0, .inr (11, [.int (-1), .int 0, .int 0, .int 0, .int 0, .int 0, .null, .ref q40, .ref q54, .ref q68, .ref q85, .ref q94, .ref q103, .ref q112, .ref q121, .ref q130, .ref q139, .ref q148, .null, .null, .null, .null])), (q157, .inl (k157, 201, .inl (fun _ => 0)))] H := hP
  have hD : va_D A [(h0, .inr (11, [.int (-1), .int 0, .int 0, .int 0, .int 0, .int 0, .null, .ref q40, .ref q54, .ref q68, .ref q85, .ref q94, .ref q103, .ref q112, .ref q121, .ref q130, .ref q139, .ref q148, .null, .null, .null, .null])), (q157, .inl (k157, 201, .inl (fun _ => 0)))] := hD
  refine W.widen (k := 18) (n := 15357) (Nat.le_of_ble_eq_true rfl) (Nat.le_of_ble_eq_true rfl) ?_
  refine va_putF (D := (dC, dI)) (ci := 11) (v := .ref q157) (ty := (.array .int)) (C := R_Th) (T := TTh) (N := 22) hx hb hts (fun w h => List.mem_cons_of_mem _ (ic_Th w h)) tyTh tyTh_ok nmTh hown hK hP hD hS 0 rfl rfl 18 (by decide) (hts (.fieldLink R_Th 73 "LuaMachineModel$Thread_" "mode" "[I") (List.mem_cons_of_mem _ kw_210)) (fun _ h9 => h9) rfl hin rfl (tyTh_ok 18 (by decide)) rfl rfl (Nat.le_of_ble_eq_true rfl) d_Th_init_159 (fun H locs hP hD hS => ?_)
  have hP : va_P (dC, dI) vwCl [(h0, .inr (11, [.int (-1), .int 0, .int 0, .int 0, .int 0, .int 0, .null, .ref q40, .ref q54, .ref q68, .ref q85, .ref q94, .ref q103, .ref q112, .ref q121, .ref q130, .ref q139, .ref q148, .ref q157, .null, .null, .null])), (q157, .inl (k157, 201, .inl (fun _ => 0)))] H := hP
  have hD : va_D A [(h0, .inr (11, [.int (-1), .int 0, .int 0, .int 0, .int 0, .int 0, .null, .ref q40, .ref q54, .ref q68, .ref q85, .ref q94, .ref q103, .ref q112, .ref q121, .ref q130, .ref q139, .ref q148, .ref q157, .null, .null, .null])), (q157, .inl (k157, 201, .inl (fun _ => 0)))] := hD
  have hP := hP.sub (ws' := [(h0, .inr (11, [.int (-1), .int 0, .int 0, .int 0, .int 0, .int 0, .null, .ref q40, .ref q54, .ref q68, .ref q85, .ref q94, .ref q103, .ref q112, .ref q121, .ref q130, .ref q139, .ref q148, .ref q157, .null, .null, .null]))]) [0] rfl
  have hD := hD.sub (ws' := [(h0, .inr (11, [.int (-1), .int 0, .int 0, .int 0, .int 0, .int 0, .null, .ref q40, .ref q54, .ref q68, .ref q85, .ref q94, .ref q103, .ref q112, .ref q121, .ref q130, .ref q139, .ref q148, .ref q157, .null, .null, .null]))]) [0] (by decide) rfl
  have hK := hK.sub (tys' := []) [] rfl
  refine lv_aload_n hx hb d_Th_init_162 rfl (lv_at hl 0 rfl) ?_
  refine lv_sipush (v := 201) hx hb d_Th_init_163 (by decide) ?_
  refine va_newa (atype := .int) (a0 := (201, .inl (fun _ => 0))) hx hb (hts (.arrayClass .int) (List.mem_cons_of_mem _ kw_6)) (ty := .int) rfl hK hP hD hS hA (fun _ => rfl) (by decide) (by decide) (by decide) (Nat.le_of_ble_eq_true rfl) (Nat.le_of_ble_eq_true rfl) d_Th_init_166 (fun q166 k166 H hK hP hD hS => ?_)
  have hK : va_K (dC, dI) vwCl [(k166, .int)] s := hK
  have hP : va_P (dC, dI) vwCl [(h0, .inr (11, [.int (-1), .int 0, .int 0, .int 0, .int 0, .int 0, .null, .ref q40, .ref q54, .ref q68, .ref q85, .ref q94, .ref q103, .ref q112, .ref q121, .ref q130, .ref q139, .ref q148, .ref q157, .null, .null, .null])), (q166, .inl (k166, 201, .inl (fun _ => 0)))] H := hP
  have hD : va_D A [(h0, .inr (11, [.int (-1), .int 0, .int 0, .int 0, .int 0, .int 0, .null, .ref q40, .ref q54, .ref q68, .ref q85, .ref q94, .ref q103, .ref q112, .ref q121, .ref q130, .ref q139, .ref q148, .ref q157, .null, .null, .null])), (q166, .inl (k166, 201, .inl (fun _ => 0)))] := hD
  refine W.widen (k := 19) (n := 15558) (Nat.le_of_ble_eq_true rfl) (Nat.le_of_ble_eq_true rfl) ?_
  refine va_putF (D := (dC, dI)) (ci := 11) (v := .ref q166) (ty := (.array .int)) (C := R_Th) (T := TTh) (N := 22) hx hb hts (fun w h => List.mem_cons_of_mem _ (ic_Th w h)) tyTh tyTh_ok nmTh hown hK hP hD hS 0 rfl rfl 19 (by decide) (hts (.fieldLink R_Th 76 "LuaMachineModel$Thread_" "into" "[I") (List.mem_cons_of_mem _ kw_211)) (fun _ h9 => h9) rfl hin rfl (tyTh_ok 19 (by decide)) rfl rfl (Nat.le_of_ble_eq_true rfl) d_Th_init_168 (fun H locs hP hD hS => ?_)
  have hP : va_P (dC, dI) vwCl [(h0, .inr (11, [.int (-1), .int 0, .int 0, .int 0, .int 0, .int 0, .null, .ref q40, .ref q54, .ref q68, .ref q85, .ref q94, .ref q103, .ref q112, .ref q121, .ref q130, .ref q139, .ref q148, .ref q157, .ref q166, .null, .null])), (q166, .inl (k166, 201, .inl (fun _ => 0)))] H := hP
  have hD : va_D A [(h0, .inr (11, [.int (-1), .int 0, .int 0, .int 0, .int 0, .int 0, .null, .ref q40, .ref q54, .ref q68, .ref q85, .ref q94, .ref q103, .ref q112, .ref q121, .ref q130, .ref q139, .ref q148, .ref q157, .ref q166, .null, .null])), (q166, .inl (k166, 201, .inl (fun _ => 0)))] := hD
  have hP := hP.sub (ws' := [(h0, .inr (11, [.int (-1), .int 0, .int 0, .int 0, .int 0, .int 0, .null, .ref q40, .ref q54, .ref q68, .ref q85, .ref q94, .ref q103, .ref q112, .ref q121, .ref q130, .ref q139, .ref q148, .ref q157, .ref q166, .null, .null]))]) [0] rfl
  have hD := hD.sub (ws' := [(h0, .inr (11, [.int (-1), .int 0, .int 0, .int 0, .int 0, .int 0, .null, .ref q40, .ref q54, .ref q68, .ref q85, .ref q94, .ref q103, .ref q112, .ref q121, .ref q130, .ref q139, .ref q148, .ref q157, .ref q166, .null, .null]))]) [0] (by decide) rfl
  have hK := hK.sub (tys' := []) [] rfl
  refine lv_aload_n hx hb d_Th_init_171 rfl (lv_at hl 0 rfl) ?_
  refine lv_sipush (v := 201) hx hb d_Th_init_172 (by decide) ?_
  refine va_newa (atype := .int) (a0 := (201, .inl (fun _ => 0))) hx hb (hts (.arrayClass .int) (List.mem_cons_of_mem _ kw_6)) (ty := .int) rfl hK hP hD hS hA (fun _ => rfl) (by decide) (by decide) (by decide) (Nat.le_of_ble_eq_true rfl) (Nat.le_of_ble_eq_true rfl) d_Th_init_175 (fun q175 k175 H hK hP hD hS => ?_)
  have hK : va_K (dC, dI) vwCl [(k175, .int)] s := hK
  have hP : va_P (dC, dI) vwCl [(h0, .inr (11, [.int (-1), .int 0, .int 0, .int 0, .int 0, .int 0, .null, .ref q40, .ref q54, .ref q68, .ref q85, .ref q94, .ref q103, .ref q112, .ref q121, .ref q130, .ref q139, .ref q148, .ref q157, .ref q166, .null, .null])), (q175, .inl (k175, 201, .inl (fun _ => 0)))] H := hP
  have hD : va_D A [(h0, .inr (11, [.int (-1), .int 0, .int 0, .int 0, .int 0, .int 0, .null, .ref q40, .ref q54, .ref q68, .ref q85, .ref q94, .ref q103, .ref q112, .ref q121, .ref q130, .ref q139, .ref q148, .ref q157, .ref q166, .null, .null])), (q175, .inl (k175, 201, .inl (fun _ => 0)))] := hD
  refine W.widen (k := 20) (n := 15759) (Nat.le_of_ble_eq_true rfl) (Nat.le_of_ble_eq_true rfl) ?_
  refine va_putF (D := (dC, dI)) (ci := 11) (v := .ref q175) (ty := (.array .int)) (C := R_Th) (T := TTh) (N := 22) hx hb hts (fun w h => List.mem_cons_of_mem _ (ic_Th w h)) tyTh tyTh_ok nmTh hown hK hP hD hS 0 rfl rfl 20 (by decide) (hts (.fieldLink R_Th 79 "LuaMachineModel$Thread_" "want" "[I") (List.mem_cons_of_mem _ kw_212)) (fun _ h9 => h9) rfl hin rfl (tyTh_ok 20 (by decide)) rfl rfl (Nat.le_of_ble_eq_true rfl) d_Th_init_177 (fun H locs hP hD hS => ?_)
  have hP : va_P (dC, dI) vwCl [(h0, .inr (11, [.int (-1), .int 0, .int 0, .int 0, .int 0, .int 0, .null, .ref q40, .ref q54, .ref q68, .ref q85, .ref q94, .ref q103, .ref q112, .ref q121, .ref q130, .ref q139, .ref q148, .ref q157, .ref q166, .ref q175, .null])), (q175, .inl (k175, 201, .inl (fun _ => 0)))] H := hP
  have hD : va_D A [(h0, .inr (11, [.int (-1), .int 0, .int 0, .int 0, .int 0, .int 0, .null, .ref q40, .ref q54, .ref q68, .ref q85, .ref q94, .ref q103, .ref q112, .ref q121, .ref q130, .ref q139, .ref q148, .ref q157, .ref q166, .ref q175, .null])), (q175, .inl (k175, 201, .inl (fun _ => 0)))] := hD
  have hP := hP.sub (ws' := [(h0, .inr (11, [.int (-1), .int 0, .int 0, .int 0, .int 0, .int 0, .null, .ref q40, .ref q54, .ref q68, .ref q85, .ref q94, .ref q103, .ref q112, .ref q121, .ref q130, .ref q139, .ref q148, .ref q157, .ref q166, .ref q175, .null]))]) [0] rfl
  have hD := hD.sub (ws' := [(h0, .inr (11, [.int (-1), .int 0, .int 0, .int 0, .int 0, .int 0, .null, .ref q40, .ref q54, .ref q68, .ref q85, .ref q94, .ref q103, .ref q112, .ref q121, .ref q130, .ref q139, .ref q148, .ref q157, .ref q166, .ref q175, .null]))]) [0] (by decide) rfl
  have hK := hK.sub (tys' := []) [] rfl
  refine lv_aload_n hx hb d_Th_init_180 rfl (lv_at hl 0 rfl) ?_
  refine lv_sipush (v := 201) hx hb d_Th_init_181 (by decide) ?_
  refine va_newa (atype := .int) (a0 := (201, .inl (fun _ => 0))) hx hb (hts (.arrayClass .int) (List.mem_cons_of_mem _ kw_6)) (ty := .int) rfl hK hP hD hS hA (fun _ => rfl) (by decide) (by decide) (by decide) (Nat.le_of_ble_eq_true rfl) (Nat.le_of_ble_eq_true rfl) d_Th_init_184 (fun q184 k184 H hK hP hD hS => ?_)
  have hK : va_K (dC, dI) vwCl [(k184, .int)] s := hK
  have hP : va_P (dC, dI) vwCl [(h0, .inr (11, [.int (-1), .int 0, .int 0, .int 0, .int 0, .int 0, .null, .ref q40, .ref q54, .ref q68, .ref q85, .ref q94, .ref q103, .ref q112, .ref q121, .ref q130, .ref q139, .ref q148, .ref q157, .ref q166, .ref q175, .null])), (q184, .inl (k184, 201, .inl (fun _ => 0)))] H := hP
  have hD : va_D A [(h0, .inr (11, [.int (-1), .int 0, .int 0, .int 0, .int 0, .int 0, .null, .ref q40, .ref q54, .ref q68, .ref q85, .ref q94, .ref q103, .ref q112, .ref q121, .ref q130, .ref q139, .ref q148, .ref q157, .ref q166, .ref q175, .null])), (q184, .inl (k184, 201, .inl (fun _ => 0)))] := hD
  refine W.widen (k := 21) (n := 15960) (Nat.le_of_ble_eq_true rfl) (Nat.le_of_ble_eq_true rfl) ?_
  refine va_putF (D := (dC, dI)) (ci := 11) (v := .ref q184) (ty := (.array .int)) (C := R_Th) (T := TTh) (N := 22) hx hb hts (fun w h => List.mem_cons_of_mem _ (ic_Th w h)) tyTh tyTh_ok nmTh hown hK hP hD hS 0 rfl rfl 21 (by decide) (hts (.fieldLink R_Th 82 "LuaMachineModel$Thread_" "step" "[I") (List.mem_cons_of_mem _ kw_213)) (fun _ h9 => h9) rfl hin rfl (tyTh_ok 21 (by decide)) rfl rfl (Nat.le_of_ble_eq_true rfl) d_Th_init_186 (fun H locs hP hD hS => ?_)
  have hP : va_P (dC, dI) vwCl [(h0, .inr (11, [.int (-1), .int 0, .int 0, .int 0, .int 0, .int 0, .null, .ref q40, .ref q54, .ref q68, .ref q85, .ref q94, .ref q103, .ref q112, .ref q121, .ref q130, .ref q139, .ref q148, .ref q157, .ref q166, .ref q175, .ref q184])), (q184, .inl (k184, 201, .inl (fun _ => 0)))] H := hP
  have hD : va_D A [(h0, .inr (11, [.int (-1), .int 0, .int 0, .int 0, .int 0, .int 0, .null, .ref q40, .ref q54, .ref q68, .ref q85, .ref q94, .ref q103, .ref q112, .ref q121, .ref q130, .ref q139, .ref q148, .ref q157, .ref q166, .ref q175, .ref q184])), (q184, .inl (k184, 201, .inl (fun _ => 0)))] := hD
  have hP := hP.sub (ws' := [(h0, .inr (11, [.int (-1), .int 0, .int 0, .int 0, .int 0, .int 0, .null, .ref q40, .ref q54, .ref q68, .ref q85, .ref q94, .ref q103, .ref q112, .ref q121, .ref q130, .ref q139, .ref q148, .ref q157, .ref q166, .ref q175, .ref q184]))]) [0] rfl
  have hD := hD.sub (ws' := [(h0, .inr (11, [.int (-1), .int 0, .int 0, .int 0, .int 0, .int 0, .null, .ref q40, .ref q54, .ref q68, .ref q85, .ref q94, .ref q103, .ref q112, .ref q121, .ref q130, .ref q139, .ref q148, .ref q157, .ref q166, .ref q175, .ref q184]))]) [0] (by decide) rfl
  have hK := hK.sub (tys' := []) [] rfl
  have hP9 := hP.sub (ws' := [(h0, .inr (11, [.int (-1), .int 0, .int 0, .int 0, .int 0, .int 0, .null, .ref q40, .ref q54, .ref q68, .ref q85, .ref q94, .ref q103, .ref q112, .ref q121, .ref q130, .ref q139, .ref q148, .ref q157, .ref q166, .ref q175, .ref q184]))]) [0] rfl
  have hD9 := hD.sub (ws' := [(h0, .inr (11, [.int (-1), .int 0, .int 0, .int 0, .int 0, .int 0, .null, .ref q40, .ref q54, .ref q68, .ref q85, .ref q94, .ref q103, .ref q112, .ref q121, .ref q130, .ref q139, .ref q148, .ref q157, .ref q166, .ref q175, .ref q184]))]) [0] (by decide) rfl
  have hK9 := hK.sub (tys' := []) [] rfl
  refine W.widen (k := 21) (n := 15960) (Nat.le_of_ble_eq_true rfl) (Nat.le_of_ble_eq_true rfl) ?_
  exact W.vret hx hb hr (fun t ht hW => ⟨⟨(), rfl, trivial, q40, q54, q68, q85, q94, q103, q112, q121, q130, q139, q148, q157, q166, q175, q184, by rw [ht]; exact hP9, va_K.moved hW.alike hK9, hD9⟩, hS.F ht⟩) hS.2.2 d_Th_init_189

