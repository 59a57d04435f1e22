abbrev b_LM_run : ByteArray := prog_1_method_8_code
def y_LM_run : MethodName := ⟨R_LM, "run", "(I)I"⟩
abbrev w_LM_run : List Cond := .code y_LM_run b_LM_run 4 (some .int) :: wA
set_option maxRecDepth 20000 in
theorem k_LM_run : Cond.code y_LM_run b_LM_run 4 (some .int) ∈ wA := kinm (show _ ∈ tables_1 from (List.mem_append_right _ (List.mem_append_right _ (List.mem_append_right _ (List.mem_append_right _ (List.mem_append_right _ (List.mem_append_right _ (List.mem_append_left _ (List.mem_of_getElem? (l := tables_1_7) (i := 17) rfl))))))))) rfl
theorem d_LM_run_0 : decode b_LM_run 0 = .ok (.iload_n 1, 1) := by decide +kernel
theorem d_LM_run_1 : decode b_LM_run 1 = .ok (.iconst 1, 1) := by decide +kernel
theorem d_LM_run_2 : decode b_LM_run 2 = .ok (.if_icmp .lt 9, 3) := by decide +kernel
theorem d_LM_run_5 : decode b_LM_run 5 = .ok (.iload_n 1, 1) := by decide +kernel
theorem d_LM_run_6 : decode b_LM_run 6 = .ok (.ldc 110, 2) := by decide +kernel
theorem d_LM_run_8 : decode b_LM_run 8 = .ok (.if_icmp .le 11, 3) := by decide +kernel
theorem d_LM_run_11 : decode b_LM_run 11 = .ok (.new 74, 3) := by decide +kernel
theorem d_LM_run_14 : decode b_LM_run 14 = .ok (.dup, 1) := by decide +kernel
theorem d_LM_run_15 : decode b_LM_run 15 = .ok (.invokespecial 76, 3) := by decide +kernel
theorem d_LM_run_18 : decode b_LM_run 18 = .ok (.athrow, 1) := by decide +kernel
theorem d_LM_run_19 : decode b_LM_run 19 = .ok (.aload_n 0, 1) := by decide +kernel
theorem d_LM_run_20 : decode b_LM_run 20 = .ok (.getfield 77, 3) := by decide +kernel
theorem d_LM_run_23 : decode b_LM_run 23 = .ok (.ifCond .ne 11, 3) := by decide +kernel
theorem d_LM_run_26 : decode b_LM_run 26 = .ok (.new 63, 3) := by decide +kernel
theorem d_LM_run_29 : decode b_LM_run 29 = .ok (.dup, 1) := by decide +kernel
theorem d_LM_run_30 : decode b_LM_run 30 = .ok (.invokespecial 65, 3) := by decide +kernel
theorem d_LM_run_33 : decode b_LM_run 33 = .ok (.athrow, 1) := by decide +kernel
theorem d_LM_run_34 : decode b_LM_run 34 = .ok (.iload_n 1, 1) := by decide +kernel
theorem d_LM_run_35 : decode b_LM_run 35 = .ok (.istore_n 2, 1) := by decide +kernel
theorem d_LM_run_36 : decode b_LM_run 36 = .ok (.iload_n 2, 1) := by decide +kernel
theorem d_LM_run_37 : decode b_LM_run 37 = .ok (.ifCond .le 152, 3) := by decide +kernel
theorem d_LM_run_40 : decode b_LM_run 40 = .ok (.aload_n 0, 1) := by decide +kernel
theorem d_LM_run_41 : decode b_LM_run 41 = .ok (.getfield 33, 3) := by decide +kernel
theorem d_LM_run_44 : decode b_LM_run 44 = .ok (.getfield 111, 3) := by decide +kernel
theorem d_LM_run_47 : decode b_LM_run 47 = .ok (.ifCond .ne 142, 3) := by decide +kernel
theorem d_LM_run_50 : decode b_LM_run 50 = .ok (.aload_n 0, 1) := by decide +kernel
theorem d_LM_run_51 : decode b_LM_run 51 = .ok (.getfield 47, 3) := by decide +kernel
theorem d_LM_run_54 : decode b_LM_run 54 = .ok (.invokevirtual 114, 3) := by decide +kernel
theorem d_LM_run_57 : decode b_LM_run 57 = .ok (.iconst 0, 1) := by decide +kernel
theorem d_LM_run_58 : decode b_LM_run 58 = .ok (.istore_n 3, 1) := by decide +kernel
theorem d_LM_run_59 : decode b_LM_run 59 = .ok (.iload_n 3, 1) := by decide +kernel
theorem d_LM_run_60 : decode b_LM_run 60 = .ok (.ldc 117, 2) := by decide +kernel
theorem d_LM_run_62 : decode b_LM_run 62 = .ok (.if_icmp .ge 121, 3) := by decide +kernel
theorem d_LM_run_65 : decode b_LM_run 65 = .ok (.aload_n 0, 1) := by decide +kernel
theorem d_LM_run_66 : decode b_LM_run 66 = .ok (.getfield 33, 3) := by decide +kernel
theorem d_LM_run_69 : decode b_LM_run 69 = .ok (.getfield 118, 3) := by decide +kernel
theorem d_LM_run_72 : decode b_LM_run 72 = .ok (.ifCond .eq 111, 3) := by decide +kernel
theorem d_LM_run_75 : decode b_LM_run 75 = .ok (.aload_n 0, 1) := by decide +kernel
theorem d_LM_run_76 : decode b_LM_run 76 = .ok (.getfield 33, 3) := by decide +kernel
theorem d_LM_run_79 : decode b_LM_run 79 = .ok (.getfield 118, 3) := by decide +kernel
theorem d_LM_run_82 : decode b_LM_run 82 = .ok (.tableswitch 88 1 6 #[38, 48, 58, 68, 88, 78], 38) := by decide +kernel
theorem d_LM_run_120 : decode b_LM_run 120 = .ok (.aload_n 0, 1) := by decide +kernel
theorem d_LM_run_121 : decode b_LM_run 121 = .ok (.getfield 33, 3) := by decide +kernel
theorem d_LM_run_124 : decode b_LM_run 124 = .ok (.invokevirtual 121, 3) := by decide +kernel
theorem d_LM_run_127 : decode b_LM_run 127 = .ok (.goto 50, 3) := by decide +kernel
theorem d_LM_run_130 : decode b_LM_run 130 = .ok (.aload_n 0, 1) := by decide +kernel
theorem d_LM_run_131 : decode b_LM_run 131 = .ok (.getfield 54, 3) := by decide +kernel
theorem d_LM_run_134 : decode b_LM_run 134 = .ok (.invokevirtual 124, 3) := by decide +kernel
theorem d_LM_run_137 : decode b_LM_run 137 = .ok (.goto 40, 3) := by decide +kernel
theorem d_LM_run_140 : decode b_LM_run 140 = .ok (.aload_n 0, 1) := by decide +kernel
theorem d_LM_run_141 : decode b_LM_run 141 = .ok (.getfield 33, 3) := by decide +kernel
theorem d_LM_run_144 : decode b_LM_run 144 = .ok (.invokevirtual 127, 3) := by decide +kernel
theorem d_LM_run_147 : decode b_LM_run 147 = .ok (.goto 30, 3) := by decide +kernel
theorem d_LM_run_150 : decode b_LM_run 150 = .ok (.aload_n 0, 1) := by decide +kernel
theorem d_LM_run_151 : decode b_LM_run 151 = .ok (.getfield 47, 3) := by decide +kernel
theorem d_LM_run_154 : decode b_LM_run 154 = .ok (.invokevirtual 130, 3) := by decide +kernel
theorem d_LM_run_157 : decode b_LM_run 157 = .ok (.goto 20, 3) := by decide +kernel
theorem d_LM_run_160 : decode b_LM_run 160 = .ok (.aload_n 0, 1) := by decide +kernel
theorem d_LM_run_161 : decode b_LM_run 161 = .ok (.getfield 47, 3) := by decide +kernel
theorem d_LM_run_164 : decode b_LM_run 164 = .ok (.invokevirtual 133, 3) := by decide +kernel
theorem d_LM_run_167 : decode b_LM_run 167 = .ok (.goto 10, 3) := by decide +kernel
theorem d_LM_run_170 : decode b_LM_run 170 = .ok (.aload_n 0, 1) := by decide +kernel
theorem d_LM_run_171 : decode b_LM_run 171 = .ok (.getfield 33, 3) := by decide +kernel
theorem d_LM_run_174 : decode b_LM_run 174 = .ok (.invokevirtual 136, 3) := by decide +kernel
theorem d_LM_run_177 : decode b_LM_run 177 = .ok (.iinc 3 1, 3) := by decide +kernel
theorem d_LM_run_180 : decode b_LM_run 180 = .ok (.goto (-121), 3) := by decide +kernel
theorem d_LM_run_183 : decode b_LM_run 183 = .ok (.iinc 2 (-1), 3) := by decide +kernel
theorem d_LM_run_186 : decode b_LM_run 186 = .ok (.goto (-150), 3) := by decide +kernel
theorem d_LM_run_189 : decode b_LM_run 189 = .ok (.aload_n 0, 1) := by decide +kernel
theorem d_LM_run_190 : decode b_LM_run 190 = .ok (.getfield 33, 3) := by decide +kernel
theorem d_LM_run_193 : decode b_LM_run 193 = .ok (.getfield 111, 3) := by decide +kernel
theorem d_LM_run_196 : decode b_LM_run 196 = .ok (.ireturn, 1) := by decide +kernel
theorem kw_130 : Cond.constant R_LM 110 100000 ∈ wA := kinm (show _ ∈ tables_1 from (List.mem_append_right _ (List.mem_append_right _ (List.mem_append_right _ (List.mem_append_right _ (List.mem_append_right _ (List.mem_append_right _ (List.mem_append_left _ (List.mem_of_getElem? (l := tables_1_7) (i := 18) (by decide +kernel)))))))))) (by decide +kernel)
theorem kw_131 : Cond.fieldLink R_LM 77 "LuaMachine" "loaded" "Z" ∈ wA := kinm (show _ ∈ tables_1 from (List.mem_append_right _ (List.mem_append_left _ (List.mem_of_getElem? (l := tables_1_2) (i := 211) (by decide +kernel))))) (by decide +kernel)
theorem kw_132 : Cond.classLink R_LM 63 "java/lang/IllegalStateException" ∈ wA := kinm (show _ ∈ tables_1 from (List.mem_append_right _ (List.mem_append_right _ (List.mem_append_left _ (List.mem_of_getElem? (l := tables_1_3) (i := 5) (by decide +kernel)))))) (by decide +kernel)
theorem kw_133 : Cond.initialized "java/lang/IllegalStateException" ∈ wA := kinm (show _ ∈ tables_1 from (List.mem_append_left _ (List.mem_of_getElem? (l := tables_1_1) (i := 15) (by decide +kernel)))) (by decide +kernel)
theorem kw_134 : Cond.instantiable "java/lang/IllegalStateException" 6 ∈ wA := kinm (show _ ∈ tables_1 from (List.mem_append_right _ (List.mem_append_right _ (List.mem_append_left _ (List.mem_of_getElem? (l := tables_1_3) (i := 6) (by decide +kernel)))))) (by decide +kernel)
set_option maxRecDepth 20000 in
theorem xo_IllegalStateException : ∀ w ∈ (Bundle.ownAtoms0 R_LM 65 "java/lang/IllegalStateException" ["java/lang/RuntimeException", "java/lang/Exception"]).filter goodWord, w ∈ wA := by decide +kernel
set_option maxRecDepth 20000 in
theorem xn_IllegalStateException : ∀ w ∈ (Bundle.ownAtoms0 R_LM 65 "java/lang/IllegalStateException" ["java/lang/RuntimeException", "java/lang/Exception"]).filter (fun w => !goodWord w), w ∈ xFour ∨ (w ∈ xW ∧ w.onTables = true) := by decide +kernel
abbrev b_LM_collect : ByteArray := prog_1_method_9_code
def y_LM_collect : MethodName := ⟨R_LM, "collect", "()I"⟩
abbrev w_LM_collect : List Cond := .code y_LM_collect b_LM_collect 1 (some .int) :: wA
theorem k_LM_collect : Cond.code y_LM_collect b_LM_collect 1 (some .int) ∈ wA := kinm (show _ ∈ tables_1 from (List.mem_append_right _ (List.mem_append_right _ (List.mem_append_right _ (List.mem_append_right _ (List.mem_append_right _ (List.mem_append_right _ (List.mem_append_right _ (List.mem_append_right _ (List.mem_append_left _ (List.mem_of_getElem? (l := tables_1_9) (i := 58) (by decide +kernel)))))))))))) (by decide +kernel)
theorem d_LM_collect_0 : decode b_LM_collect 0 = .ok (.aload_n 0, 1) := by decide +kernel
theorem d_LM_collect_1 : decode b_LM_collect 1 = .ok (.getfield 77, 3) := by decide +kernel
theorem d_LM_collect_4 : decode b_LM_collect 4 = .ok (.ifCond .ne 11, 3) := by decide +kernel
theorem d_LM_collect_7 : decode b_LM_collect 7 = .ok (.new 63, 3) := by decide +kernel
theorem d_LM_collect_10 : decode b_LM_collect 10 = .ok (.dup, 1) := by decide +kernel
theorem d_LM_collect_11 : decode b_LM_collect 11 = .ok (.invokespecial 65, 3) := by decide +kernel
theorem d_LM_collect_14 : decode b_LM_collect 14 = .ok (.athrow, 1) := by decide +kernel
theorem d_LM_collect_15 : decode b_LM_collect 15 = .ok (.aload_n 0, 1) := by decide +kernel
theorem d_LM_collect_16 : decode b_LM_collect 16 = .ok (.getfield 19, 3) := by decide +kernel
theorem d_LM_collect_19 : decode b_LM_collect 19 = .ok (.invokevirtual 139, 3) := by decide +kernel
theorem d_LM_collect_22 : decode b_LM_collect 22 = .ok (.aload_n 0, 1) := by decide +kernel
theorem d_LM_collect_23 : decode b_LM_collect 23 = .ok (.getfield 19, 3) := by decide +kernel
theorem d_LM_collect_26 : decode b_LM_collect 26 = .ok (.getfield 142, 3) := by decide +kernel
theorem d_LM_collect_29 : decode b_LM_collect 29 = .ok (.iconst 3, 1) := by decide +kernel
theorem d_LM_collect_30 : decode b_LM_collect 30 = .ok (.iaload, 1) := by decide +kernel
theorem d_LM_collect_31 : decode b_LM_collect 31 = .ok (.ireturn, 1) := by decide +kernel
abbrev b_LM_hasNoResult : ByteArray := prog_1_method_13_code
def y_LM_hasNoResult : MethodName := ⟨R_LM, "hasNoResult", "(I)Z"⟩
abbrev w_LM_hasNoResult : List Cond := .code y_LM_hasNoResult b_LM_hasNoResult 2 (some .boolean) :: wA
theorem k_LM_hasNoResult : Cond.code y_LM_hasNoResult b_LM_hasNoResult 2 (some .boolean) ∈ wA := kinm (show _ ∈ tables_1 from (List.mem_append_right _ (List.mem_append_right _ (List.mem_append_right _ (List.mem_append_right _ (List.mem_append_right _ (List.mem_append_right _ (List.mem_append_right _ (List.mem_append_right _ (List.mem_append_left _ (List.mem_of_getElem? (l := tables_1_9) (i := 71) (by decide +kernel)))))))))))) (by decide +kernel)
theorem d_LM_hasNoResult_0 : decode b_LM_hasNoResult 0 = .ok (.aload_n 0, 1) := by decide +kernel
theorem d_LM_hasNoResult_1 : decode b_LM_hasNoResult 1 = .ok (.getfield 77, 3) := by decide +kernel
theorem d_LM_hasNoResult_4 : decode b_LM_hasNoResult 4 = .ok (.ifCond .eq 21, 3) := by decide +kernel
theorem d_LM_hasNoResult_7 : decode b_LM_hasNoResult 7 = .ok (.iload_n 1, 1) := by decide +kernel
theorem d_LM_hasNoResult_8 : decode b_LM_hasNoResult 8 = .ok (.ifCond .lt 17, 3) := by decide +kernel
theorem d_LM_hasNoResult_11 : decode b_LM_hasNoResult 11 = .ok (.iload_n 1, 1) := by decide +kernel
theorem d_LM_hasNoResult_12 : decode b_LM_hasNoResult 12 = .ok (.aload_n 0, 1) := by decide +kernel
theorem d_LM_hasNoResult_13 : decode b_LM_hasNoResult 13 = .ok (.getfield 33, 3) := by decide +kernel
theorem d_LM_hasNoResult_16 : decode b_LM_hasNoResult 16 = .ok (.getfield 152, 3) := by decide +kernel
theorem d_LM_hasNoResult_19 : decode b_LM_hasNoResult 19 = .ok (.getfield 178, 3) := by decide +kernel
theorem d_LM_hasNoResult_22 : decode b_LM_hasNoResult 22 = .ok (.if_icmp .lt 7, 3) := by decide +kernel
theorem d_LM_hasNoResult_25 : decode b_LM_hasNoResult 25 = .ok (.iconst 1, 1) := by decide +kernel
theorem d_LM_hasNoResult_26 : decode b_LM_hasNoResult 26 = .ok (.goto 4, 3) := by decide +kernel
theorem d_LM_hasNoResult_29 : decode b_LM_hasNoResult 29 = .ok (.iconst 0, 1) := by decide +kernel
theorem d_LM_hasNoResult_30 : decode b_LM_hasNoResult 30 = .ok (.ireturn, 1) := by decide +kernel
abbrev b_LM_kind : ByteArray := prog_1_method_10_code
def y_LM_kind : MethodName := ⟨R_LM, "kind", "(I)I"⟩
abbrev w_LM_kind : List Cond := .code y_LM_kind b_LM_kind 2 (some .int) :: wA
theorem k_LM_kind : Cond.code y_LM_kind b_LM_kind 2 (some .int) ∈ wA := kinm (show _ ∈ tables_1 from (List.mem_append_right _ (List.mem_append_right _ (List.mem_append_right _ (List.mem_append_right _ (List.mem_append_right _ (List.mem_append_right _ (List.mem_append_right _ (List.mem_append_right _ (List.mem_append_left _ (List.mem_of_getElem? (l := tables_1_9) (i := 67) (by decide +kernel)))))))))))) (by decide +kernel)
theorem d_LM_kind_0 : decode b_LM_kind 0 = .ok (.aload_n 0, 1) := by decide +kernel
theorem d_LM_kind_1 : decode b_LM_kind 1 = .ok (.iload_n 1, 1) := by decide +kernel
theorem d_LM_kind_2 : decode b_LM_kind 2 = .ok (.invokevirtual 146, 3) := by decide +kernel
theorem d_LM_kind_5 : decode b_LM_kind 5 = .ok (.ifCond .eq 11, 3) := by decide +kernel
theorem d_LM_kind_8 : decode b_LM_kind 8 = .ok (.new 149, 3) := by decide +kernel
theorem d_LM_kind_11 : decode b_LM_kind 11 = .ok (.dup, 1) := by decide +kernel
theorem d_LM_kind_12 : decode b_LM_kind 12 = .ok (.invokespecial 151, 3) := by decide +kernel
theorem d_LM_kind_15 : decode b_LM_kind 15 = .ok (.athrow, 1) := by decide +kernel
theorem d_LM_kind_16 : decode b_LM_kind 16 = .ok (.aload_n 0, 1) := by decide +kernel
theorem d_LM_kind_17 : decode b_LM_kind 17 = .ok (.getfield 33, 3) := by decide +kernel
theorem d_LM_kind_20 : decode b_LM_kind 20 = .ok (.getfield 152, 3) := by decide +kernel
theorem d_LM_kind_23 : decode b_LM_kind 23 = .ok (.getfield 156, 3) := by decide +kernel
theorem d_LM_kind_26 : decode b_LM_kind 26 = .ok (.iload_n 1, 1) := by decide +kernel
theorem d_LM_kind_27 : decode b_LM_kind 27 = .ok (.baload, 1) := by decide +kernel
theorem d_LM_kind_28 : decode b_LM_kind 28 = .ok (.ireturn, 1) := by decide +kernel
theorem kw_136 : Cond.methodLink R_LM 146 y_LM_hasNoResult ∈ wA := kinm (show _ ∈ tables_1 from (List.mem_append_right _ (List.mem_append_right _ (List.mem_append_right _ (List.mem_append_right _ (List.mem_append_right _ (List.mem_append_right _ (List.mem_append_right _ (List.mem_append_right _ (List.mem_append_left _ (List.mem_of_getElem? (l := tables_1_9) (i := 68) (by decide +kernel)))))))))))) (by decide +kernel)
theorem kw_137 : Cond.instanceMethod y_LM_hasNoResult ∈ wA := kinm (show _ ∈ tables_1 from (List.mem_append_right _ (List.mem_append_right _ (List.mem_append_right _ (List.mem_append_right _ (List.mem_append_right _ (List.mem_append_right _ (List.mem_append_right _ (List.mem_append_right _ (List.mem_append_left _ (List.mem_of_getElem? (l := tables_1_9) (i := 70) (by decide +kernel)))))))))))) (by decide +kernel)
theorem kw_138 : Cond.selects R_LM y_LM_hasNoResult y_LM_hasNoResult ∈ wA := kinp 110 (by decide +kernel) (by decide +kernel)
theorem kw_139 : Cond.classLink R_LM 149 "java/lang/IndexOutOfBoundsException" ∈ wA := kinm (show _ ∈ tables_1 from (List.mem_append_right _ (List.mem_append_right _ (List.mem_append_right _ (List.mem_append_right _ (List.mem_append_right _ (List.mem_append_right _ (List.mem_append_right _ (List.mem_append_right _ (List.mem_append_left _ (List.mem_of_getElem? (l := tables_1_9) (i := 72) (by decide +kernel)))))))))))) (by decide +kernel)
theorem kw_140 : Cond.initialized "java/lang/IndexOutOfBoundsException" ∈ wA := kinm (show _ ∈ tables_1 from (List.mem_append_left _ (List.mem_of_getElem? (l := tables_1_1) (i := 30) (by decide +kernel)))) (by decide +kernel)
theorem kw_141 : Cond.instantiable "java/lang/IndexOutOfBoundsException" 6 ∈ wA := kinm (show _ ∈ tables_1 from (List.mem_append_right _ (List.mem_append_right _ (List.mem_append_right _ (List.mem_append_right _ (List.mem_append_right _ (List.mem_append_right _ (List.mem_append_right _ (List.mem_append_right _ (List.mem_append_left _ (List.mem_of_getElem? (l := tables_1_9) (i := 73) (by decide +kernel)))))))))))) (by decide +kernel)
set_option maxRecDepth 20000 in
theorem xo_IndexOutOfBoundsException : ∀ w ∈ (Bundle.ownAtoms0 R_LM 151 "java/lang/IndexOutOfBoundsException" ["java/lang/RuntimeException", "java/lang/Exception"]).filter goodWord, w ∈ wA := by decide +kernel
set_option maxRecDepth 20000 in
theorem xn_IndexOutOfBoundsException : ∀ w ∈ (Bundle.ownAtoms0 R_LM 151 "java/lang/IndexOutOfBoundsException" ["java/lang/RuntimeException", "java/lang/Exception"]).filter (fun w => !goodWord w), w ∈ xFour ∨ (w ∈ xW ∧ w.onTables = true) := by decide +kernel
abbrev b_LM_value : ByteArray := prog_1_method_11_code
def y_LM_value : MethodName := ⟨R_LM, "value", "(I)J"⟩
abbrev w_LM_value : List Cond := .code y_LM_value b_LM_value 5 (some .long) :: wA
theorem k_LM_value : Cond.code y_LM_value b_LM_value 5 (some .long) ∈ wA := kinm (show _ ∈ tables_1 from (List.mem_append_right _ (List.mem_append_right _ (List.mem_append_right _ (List.mem_append_right _ (List.mem_append_right _ (List.mem_append_right _ (List.mem_append_right _ (List.mem_append_right _ (List.mem_append_left _ (List.mem_of_getElem? (l := tables_1_9) (i := 93) (by decide +kernel)))))))))))) (by decide +kernel)
theorem d_LM_value_0 : decode b_LM_value 0 = .ok (.aload_n 0, 1) := by decide +kernel
theorem d_LM_value_1 : decode b_LM_value 1 = .ok (.iload_n 1, 1) := by decide +kernel
theorem d_LM_value_2 : decode b_LM_value 2 = .ok (.invokevirtual 146, 3) := by decide +kernel
theorem d_LM_value_5 : decode b_LM_value 5 = .ok (.ifCond .eq 11, 3) := by decide +kernel
theorem d_LM_value_8 : decode b_LM_value 8 = .ok (.new 149, 3) := by decide +kernel
theorem d_LM_value_11 : decode b_LM_value 11 = .ok (.dup, 1) := by decide +kernel
theorem d_LM_value_12 : decode b_LM_value 12 = .ok (.invokespecial 151, 3) := by decide +kernel
theorem d_LM_value_15 : decode b_LM_value 15 = .ok (.athrow, 1) := by decide +kernel
theorem d_LM_value_16 : decode b_LM_value 16 = .ok (.aload_n 0, 1) := by decide +kernel
theorem d_LM_value_17 : decode b_LM_value 17 = .ok (.getfield 33, 3) := by decide +kernel
theorem d_LM_value_20 : decode b_LM_value 20 = .ok (.getfield 152, 3) := by decide +kernel
theorem d_LM_value_23 : decode b_LM_value 23 = .ok (.getfield 156, 3) := by decide +kernel
theorem d_LM_value_26 : decode b_LM_value 26 = .ok (.iload_n 1, 1) := by decide +kernel
theorem d_LM_value_27 : decode b_LM_value 27 = .ok (.baload, 1) := by decide +kernel
theorem d_LM_value_28 : decode b_LM_value 28 = .ok (.istore_n 2, 1) := by decide +kernel
theorem d_LM_value_29 : decode b_LM_value 29 = .ok (.aload_n 0, 1) := by decide +kernel
theorem d_LM_value_30 : decode b_LM_value 30 = .ok (.getfield 33, 3) := by decide +kernel
theorem d_LM_value_33 : decode b_LM_value 33 = .ok (.getfield 152, 3) := by decide +kernel
theorem d_LM_value_36 : decode b_LM_value 36 = .ok (.getfield 161, 3) := by decide +kernel
theorem d_LM_value_39 : decode b_LM_value 39 = .ok (.iload_n 1, 1) := by decide +kernel
theorem d_LM_value_40 : decode b_LM_value 40 = .ok (.laload, 1) := by decide +kernel
theorem d_LM_value_41 : decode b_LM_value 41 = .ok (.lstore_n 3, 1) := by decide +kernel
theorem d_LM_value_42 : decode b_LM_value 42 = .ok (.iload_n 2, 1) := by decide +kernel
theorem d_LM_value_43 : decode b_LM_value 43 = .ok (.iconst 4, 1) := by decide +kernel
theorem d_LM_value_44 : decode b_LM_value 44 = .ok (.if_icmp .ne 19, 3) := by decide +kernel
theorem d_LM_value_47 : decode b_LM_value 47 = .ok (.aload_n 0, 1) := by decide +kernel
theorem d_LM_value_48 : decode b_LM_value 48 = .ok (.getfield 19, 3) := by decide +kernel
theorem d_LM_value_51 : decode b_LM_value 51 = .ok (.getfield 165, 3) := by decide +kernel
theorem d_LM_value_54 : decode b_LM_value 54 = .ok (.lload_n 3, 1) := by decide +kernel
theorem d_LM_value_55 : decode b_LM_value 55 = .ok (.l2i, 1) := by decide +kernel
theorem d_LM_value_56 : decode b_LM_value 56 = .ok (.aaload, 1) := by decide +kernel
theorem d_LM_value_57 : decode b_LM_value 57 = .ok (.getfield 169, 3) := by decide +kernel
theorem d_LM_value_60 : decode b_LM_value 60 = .ok (.arraylength, 1) := by decide +kernel
theorem d_LM_value_61 : decode b_LM_value 61 = .ok (.i2l, 1) := by decide +kernel
theorem d_LM_value_62 : decode b_LM_value 62 = .ok (.lreturn, 1) := by decide +kernel
theorem d_LM_value_63 : decode b_LM_value 63 = .ok (.iload_n 2, 1) := by decide +kernel
theorem d_LM_value_64 : decode b_LM_value 64 = .ok (.iconst 4, 1) := by decide +kernel
theorem d_LM_value_65 : decode b_LM_value 65 = .ok (.if_icmp .le 14, 3) := by decide +kernel
theorem d_LM_value_68 : decode b_LM_value 68 = .ok (.aload_n 0, 1) := by decide +kernel
theorem d_LM_value_69 : decode b_LM_value 69 = .ok (.getfield 19, 3) := by decide +kernel
theorem d_LM_value_72 : decode b_LM_value 72 = .ok (.lload_n 3, 1) := by decide +kernel
theorem d_LM_value_73 : decode b_LM_value 73 = .ok (.invokevirtual 174, 3) := by decide +kernel
theorem d_LM_value_76 : decode b_LM_value 76 = .ok (.goto 4, 3) := by decide +kernel
theorem d_LM_value_79 : decode b_LM_value 79 = .ok (.lload_n 3, 1) := by decide +kernel
theorem d_LM_value_80 : decode b_LM_value 80 = .ok (.lreturn, 1) := by decide +kernel
abbrev b_LM_byteOf : ByteArray := prog_1_method_12_code
def y_LM_byteOf : MethodName := ⟨R_LM, "byteOf", "(II)I"⟩
abbrev w_LM_byteOf : List Cond := .code y_LM_byteOf b_LM_byteOf 4 (some .int) :: wA
theorem k_LM_byteOf : Cond.code y_LM_byteOf b_LM_byteOf 4 (some .int) ∈ wA := kinm (show _ ∈ tables_1 from (List.mem_append_right _ (List.mem_append_right _ (List.mem_append_right _ (List.mem_append_right _ (List.mem_append_right _ (List.mem_append_right _ (List.mem_append_right _ (List.mem_append_right _ (List.mem_append_left _ (List.mem_of_getElem? (l := tables_1_9) (i := 101) (by decide +kernel)))))))))))) (by decide +kernel)
theorem d_LM_byteOf_0 : decode b_LM_byteOf 0 = .ok (.aload_n 0, 1) := by decide +kernel
theorem d_LM_byteOf_1 : decode b_LM_byteOf 1 = .ok (.iload_n 1, 1) := by decide +kernel
theorem d_LM_byteOf_2 : decode b_LM_byteOf 2 = .ok (.invokevirtual 146, 3) := by decide +kernel
theorem d_LM_byteOf_5 : decode b_LM_byteOf 5 = .ok (.ifCond .eq 11, 3) := by decide +kernel
theorem d_LM_byteOf_8 : decode b_LM_byteOf 8 = .ok (.new 149, 3) := by decide +kernel
theorem d_LM_byteOf_11 : decode b_LM_byteOf 11 = .ok (.dup, 1) := by decide +kernel
theorem d_LM_byteOf_12 : decode b_LM_byteOf 12 = .ok (.invokespecial 151, 3) := by decide +kernel
theorem d_LM_byteOf_15 : decode b_LM_byteOf 15 = .ok (.athrow, 1) := by decide +kernel
theorem d_LM_byteOf_16 : decode b_LM_byteOf 16 = .ok (.aload_n 0, 1) := by decide +kernel
theorem d_LM_byteOf_17 : decode b_LM_byteOf 17 = .ok (.getfield 33, 3) := by decide +kernel
theorem d_LM_byteOf_20 : decode b_LM_byteOf 20 = .ok (.getfield 152, 3) := by decide +kernel
theorem d_LM_byteOf_23 : decode b_LM_byteOf 23 = .ok (.getfield 156, 3) := by decide +kernel
theorem d_LM_byteOf_26 : decode b_LM_byteOf 26 = .ok (.iload_n 1, 1) := by decide +kernel
theorem d_LM_byteOf_27 : decode b_LM_byteOf 27 = .ok (.baload, 1) := by decide +kernel
theorem d_LM_byteOf_28 : decode b_LM_byteOf 28 = .ok (.iconst 4, 1) := by decide +kernel
theorem d_LM_byteOf_29 : decode b_LM_byteOf 29 = .ok (.if_icmp .eq 11, 3) := by decide +kernel
theorem d_LM_byteOf_32 : decode b_LM_byteOf 32 = .ok (.new 74, 3) := by decide +kernel
theorem d_LM_byteOf_35 : decode b_LM_byteOf 35 = .ok (.dup, 1) := by decide +kernel
theorem d_LM_byteOf_36 : decode b_LM_byteOf 36 = .ok (.invokespecial 76, 3) := by decide +kernel
theorem d_LM_byteOf_39 : decode b_LM_byteOf 39 = .ok (.athrow, 1) := by decide +kernel
theorem d_LM_byteOf_40 : decode b_LM_byteOf 40 = .ok (.aload_n 0, 1) := by decide +kernel
theorem d_LM_byteOf_41 : decode b_LM_byteOf 41 = .ok (.getfield 19, 3) := by decide +kernel
theorem d_LM_byteOf_44 : decode b_LM_byteOf 44 = .ok (.getfield 165, 3) := by decide +kernel
theorem d_LM_byteOf_47 : decode b_LM_byteOf 47 = .ok (.aload_n 0, 1) := by decide +kernel
theorem d_LM_byteOf_48 : decode b_LM_byteOf 48 = .ok (.getfield 33, 3) := by decide +kernel
theorem d_LM_byteOf_51 : decode b_LM_byteOf 51 = .ok (.getfield 152, 3) := by decide +kernel
theorem d_LM_byteOf_54 : decode b_LM_byteOf 54 = .ok (.getfield 161, 3) := by decide +kernel
theorem d_LM_byteOf_57 : decode b_LM_byteOf 57 = .ok (.iload_n 1, 1) := by decide +kernel
theorem d_LM_byteOf_58 : decode b_LM_byteOf 58 = .ok (.laload, 1) := by decide +kernel
theorem d_LM_byteOf_59 : decode b_LM_byteOf 59 = .ok (.l2i, 1) := by decide +kernel
theorem d_LM_byteOf_60 : decode b_LM_byteOf 60 = .ok (.aaload, 1) := by decide +kernel
theorem d_LM_byteOf_61 : decode b_LM_byteOf 61 = .ok (.getfield 169, 3) := by decide +kernel
theorem d_LM_byteOf_64 : decode b_LM_byteOf 64 = .ok (.astore_n 3, 1) := by decide +kernel
theorem d_LM_byteOf_65 : decode b_LM_byteOf 65 = .ok (.iload_n 2, 1) := by decide +kernel
theorem d_LM_byteOf_66 : decode b_LM_byteOf 66 = .ok (.ifCond .lt 9, 3) := by decide +kernel
theorem d_LM_byteOf_69 : decode b_LM_byteOf 69 = .ok (.iload_n 2, 1) := by decide +kernel
theorem d_LM_byteOf_70 : decode b_LM_byteOf 70 = .ok (.aload_n 3, 1) := by decide +kernel
theorem d_LM_byteOf_71 : decode b_LM_byteOf 71 = .ok (.arraylength, 1) := by decide +kernel
theorem d_LM_byteOf_72 : decode b_LM_byteOf 72 = .ok (.if_icmp .lt 11, 3) := by decide +kernel
theorem d_LM_byteOf_75 : decode b_LM_byteOf 75 = .ok (.new 74, 3) := by decide +kernel
theorem d_LM_byteOf_78 : decode b_LM_byteOf 78 = .ok (.dup, 1) := by decide +kernel
theorem d_LM_byteOf_79 : decode b_LM_byteOf 79 = .ok (.invokespecial 76, 3) := by decide +kernel
theorem d_LM_byteOf_82 : decode b_LM_byteOf 82 = .ok (.athrow, 1) := by decide +kernel
theorem d_LM_byteOf_83 : decode b_LM_byteOf 83 = .ok (.aload_n 3, 1) := by decide +kernel
theorem d_LM_byteOf_84 : decode b_LM_byteOf 84 = .ok (.iload_n 2, 1) := by decide +kernel
theorem d_LM_byteOf_85 : decode b_LM_byteOf 85 = .ok (.baload, 1) := by decide +kernel
theorem d_LM_byteOf_86 : decode b_LM_byteOf 86 = .ok (.sipush 255, 3) := by decide +kernel
theorem d_LM_byteOf_89 : decode b_LM_byteOf 89 = .ok (.iand, 1) := by decide +kernel
theorem d_LM_byteOf_90 : decode b_LM_byteOf 90 = .ok (.ireturn, 1) := by decide +kernel
abbrev b_LM_output : ByteArray := prog_1_method_14_code
def y_LM_output : MethodName := ⟨R_LM, "output", "(I)I"⟩
abbrev w_LM_output : List Cond := .code y_LM_output b_LM_output 2 (some .int) :: wA
theorem k_LM_output : Cond.code y_LM_output b_LM_output 2 (some .int) ∈ wA := kinm (show _ ∈ tables_1 from (List.mem_append_right _ (List.mem_append_right _ (List.mem_append_right _ (List.mem_append_right _ (List.mem_append_right _ (List.mem_append_right _ (List.mem_append_right _ (List.mem_append_right _ (List.mem_append_left _ (List.mem_of_getElem? (l := tables_1_9) (i := 108) (by decide +kernel)))))))))))) (by decide +kernel)
theorem d_LM_output_0 : decode b_LM_output 0 = .ok (.aload_n 0, 1) := by decide +kernel
theorem d_LM_output_1 : decode b_LM_output 1 = .ok (.getfield 77, 3) := by decide +kernel
theorem d_LM_output_4 : decode b_LM_output 4 = .ok (.ifCond .eq 18, 3) := by decide +kernel
theorem d_LM_output_7 : decode b_LM_output 7 = .ok (.iload_n 1, 1) := by decide +kernel
theorem d_LM_output_8 : decode b_LM_output 8 = .ok (.ifCond .lt 14, 3) := by decide +kernel
theorem d_LM_output_11 : decode b_LM_output 11 = .ok (.iload_n 1, 1) := by decide +kernel
theorem d_LM_output_12 : decode b_LM_output 12 = .ok (.aload_n 0, 1) := by decide +kernel
theorem d_LM_output_13 : decode b_LM_output 13 = .ok (.getfield 54, 3) := by decide +kernel
theorem d_LM_output_16 : decode b_LM_output 16 = .ok (.getfield 92, 3) := by decide +kernel
theorem d_LM_output_19 : decode b_LM_output 19 = .ok (.if_icmp .lt 11, 3) := by decide +kernel
theorem d_LM_output_22 : decode b_LM_output 22 = .ok (.new 149, 3) := by decide +kernel
theorem d_LM_output_25 : decode b_LM_output 25 = .ok (.dup, 1) := by decide +kernel
theorem d_LM_output_26 : decode b_LM_output 26 = .ok (.invokespecial 151, 3) := by decide +kernel
theorem d_LM_output_29 : decode b_LM_output 29 = .ok (.athrow, 1) := by decide +kernel
theorem d_LM_output_30 : decode b_LM_output 30 = .ok (.aload_n 0, 1) := by decide +kernel
theorem d_LM_output_31 : decode b_LM_output 31 = .ok (.getfield 54, 3) := by decide +kernel
theorem d_LM_output_34 : decode b_LM_output 34 = .ok (.getfield 181, 3) := by decide +kernel
theorem d_LM_output_37 : decode b_LM_output 37 = .ok (.iload_n 1, 1) := by decide +kernel
theorem d_LM_output_38 : decode b_LM_output 38 = .ok (.baload, 1) := by decide +kernel
theorem d_LM_output_39 : decode b_LM_output 39 = .ok (.sipush 255, 3) := by decide +kernel
theorem d_LM_output_42 : decode b_LM_output 42 = .ok (.iand, 1) := by decide +kernel
theorem d_LM_output_43 : decode b_LM_output 43 = .ok (.ireturn, 1) := by decide +kernel
abbrev b_LM_count : ByteArray := prog_1_method_15_code
def y_LM_count : MethodName := ⟨R_LM, "count", "(I)I"⟩
abbrev w_LM_count : List Cond := .code y_LM_count b_LM_count 2 (some .int) :: wA
theorem k_LM_count : Cond.code y_LM_count b_LM_count 2 (some .int) ∈ wA := kinm (show _ ∈ tables_1 from (List.mem_append_right _ (List.mem_append_left _ (List.mem_of_getElem? (l := tables_1_2) (i := 235) (by decide +kernel))))) (by decide +kernel)
theorem d_LM_count_0 : decode b_LM_count 0 = .ok (.iload_n 1, 1) := by decide +kernel
theorem d_LM_count_1 : decode b_LM_count 1 = .ok (.ifCond .lt 9, 3) := by decide +kernel
theorem d_LM_count_4 : decode b_LM_count 4 = .ok (.iload_n 1, 1) := by decide +kernel
theorem d_LM_count_5 : decode b_LM_count 5 = .ok (.bipush 11, 2) := by decide +kernel
theorem d_LM_count_7 : decode b_LM_count 7 = .ok (.if_icmp .le 5, 3) := by decide +kernel
theorem d_LM_count_10 : decode b_LM_count 10 = .ok (.iconst (-1), 1) := by decide +kernel
theorem d_LM_count_11 : decode b_LM_count 11 = .ok (.ireturn, 1) := by decide +kernel
theorem d_LM_count_12 : decode b_LM_count 12 = .ok (.iload_n 1, 1) := by decide +kernel
theorem d_LM_count_13 : decode b_LM_count 13 = .ok (.ifCond .ne 8, 3) := by decide +kernel
theorem d_LM_count_16 : decode b_LM_count 16 = .ok (.aload_n 0, 1) := by decide +kernel
theorem d_LM_count_17 : decode b_LM_count 17 = .ok (.getfield 58, 3) := by decide +kernel
theorem d_LM_count_20 : decode b_LM_count 20 = .ok (.ireturn, 1) := by decide +kernel
theorem d_LM_count_21 : decode b_LM_count 21 = .ok (.aload_n 0, 1) := by decide +kernel
theorem d_LM_count_22 : decode b_LM_count 22 = .ok (.getfield 77, 3) := by decide +kernel
theorem d_LM_count_25 : decode b_LM_count 25 = .ok (.ifCond .ne 5, 3) := by decide +kernel
theorem d_LM_count_28 : decode b_LM_count 28 = .ok (.iconst 0, 1) := by decide +kernel
theorem d_LM_count_29 : decode b_LM_count 29 = .ok (.ireturn, 1) := by decide +kernel
theorem d_LM_count_30 : decode b_LM_count 30 = .ok (.iload_n 1, 1) := by decide +kernel
theorem d_LM_count_31 : decode b_LM_count 31 = .ok (.tableswitch 105 1 10 #[53, 61, 105, 105, 105, 105, 105, 105, 69, 94], 53) := by decide +kernel
theorem d_LM_count_84 : decode b_LM_count 84 = .ok (.aload_n 0, 1) := by decide +kernel
theorem d_LM_count_85 : decode b_LM_count 85 = .ok (.getfield 54, 3) := by decide +kernel
theorem d_LM_count_88 : decode b_LM_count 88 = .ok (.getfield 92, 3) := by decide +kernel
theorem d_LM_count_91 : decode b_LM_count 91 = .ok (.ireturn, 1) := by decide +kernel
theorem d_LM_count_92 : decode b_LM_count 92 = .ok (.aload_n 0, 1) := by decide +kernel
theorem d_LM_count_93 : decode b_LM_count 93 = .ok (.getfield 33, 3) := by decide +kernel
theorem d_LM_count_96 : decode b_LM_count 96 = .ok (.getfield 184, 3) := by decide +kernel
theorem d_LM_count_99 : decode b_LM_count 99 = .ok (.ireturn, 1) := by decide +kernel
theorem d_LM_count_100 : decode b_LM_count 100 = .ok (.aload_n 0, 1) := by decide +kernel
theorem d_LM_count_101 : decode b_LM_count 101 = .ok (.getfield 33, 3) := by decide +kernel
theorem d_LM_count_104 : decode b_LM_count 104 = .ok (.getfield 111, 3) := by decide +kernel
theorem d_LM_count_107 : decode b_LM_count 107 = .ok (.ifCond .eq 7, 3) := by decide +kernel
theorem d_LM_count_110 : decode b_LM_count 110 = .ok (.iconst 0, 1) := by decide +kernel
theorem d_LM_count_111 : decode b_LM_count 111 = .ok (.goto 13, 3) := by decide +kernel
theorem d_LM_count_114 : decode b_LM_count 114 = .ok (.aload_n 0, 1) := by decide +kernel
theorem d_LM_count_115 : decode b_LM_count 115 = .ok (.getfield 33, 3) := by decide +kernel
theorem d_LM_count_118 : decode b_LM_count 118 = .ok (.getfield 187, 3) := by decide +kernel
theorem d_LM_count_121 : decode b_LM_count 121 = .ok (.getfield 191, 3) := by decide +kernel
theorem d_LM_count_124 : decode b_LM_count 124 = .ok (.ireturn, 1) := by decide +kernel
theorem d_LM_count_125 : decode b_LM_count 125 = .ok (.aload_n 0, 1) := by decide +kernel
theorem d_LM_count_126 : decode b_LM_count 126 = .ok (.getfield 33, 3) := by decide +kernel
theorem d_LM_count_129 : decode b_LM_count 129 = .ok (.getfield 152, 3) := by decide +kernel
theorem d_LM_count_132 : decode b_LM_count 132 = .ok (.getfield 178, 3) := by decide +kernel
theorem d_LM_count_135 : decode b_LM_count 135 = .ok (.ireturn, 1) := by decide +kernel
theorem d_LM_count_136 : decode b_LM_count 136 = .ok (.aload_n 0, 1) := by decide +kernel
theorem d_LM_count_137 : decode b_LM_count 137 = .ok (.getfield 19, 3) := by decide +kernel
theorem d_LM_count_140 : decode b_LM_count 140 = .ok (.getfield 142, 3) := by decide +kernel
theorem d_LM_count_143 : decode b_LM_count 143 = .ok (.iload_n 1, 1) := by decide +kernel
theorem d_LM_count_144 : decode b_LM_count 144 = .ok (.iaload, 1) := by decide +kernel
theorem d_LM_count_145 : decode b_LM_count 145 = .ok (.ireturn, 1) := by decide +kernel
set_option maxHeartbeats 4000000 in
set_option maxRecDepth 100000 in
theorem c_LM_run_bad (l : Launch) (hst : l.stackTraces = false) (dC : Nat → ClassId) (dI : Nat → Nat → Nat) (h0 : Nat) (oc : Nat) (oh : Nat) (om : Nat) (os : Nat) (ob : Nat) (h0_tapeLength : Int32) (n : Int32) (sz : Nat) (g : n < 1 ∨ ¬ n ≤ 100000) : MetX l y_LM_run w_LM_run ({ frames := 6, cells := 1, slots := 6, locals := 81 }) (va_Pc [.ref h0, .int n] (fun U => U.heap.size = sz ∧ va_P (dC, dI) vwCl [(h0, .inr (0, [.int h0_tapeLength, .int 0, .ref oc, .ref oh, .ref om, .ref os, .ref ob]))] U.heap ∧ va_K (dC, dI) vwCl [] U ∧ va_D (fun _ => True) [(h0, .inr (0, [.int h0_tapeLength, .int 0, .ref oc, .ref oh, .ref om, .ref os, .ref ob]))] ∧ xB U ∧ xZ (va_A [(h0, .inr (0, [.int h0_tapeLength, .int 0, .ref oc, .ref oh, .ref om, .ref os, .ref ob]))] sz) U U.heap)) "java/lang/IllegalArgumentException" (va_F (va_A [(h0, .inr (0, [.int h0_tapeLength, .int 0, .ref oc, .ref oh, .ref om, .ref os, .ref ob]))] sz)) 1 6 (va_A [(h0, .inr (0, [.int h0_tapeLength, .int 0, .ref oc, .ref oh, .ref om, .ref os, .ref ob]))] sz) := by
  refine MetX.ofW (cc := b_LM_run) (maxL := 4) (ret := (some .int)) (by decide) rfl ?_
  intro p e s m args below meth c s₁ B hml hex hv
  obtain ⟨rfl, hsz, hP, hK, hD0, hB, hZ⟩ := hv
  have hx := B.exec
  have hb := B.bytes
  have hr := B.returns
  have hts := atoms_spec (ws := w_LM_run) B.pre
  have hown : s.vm.findClass R_LM = some m.cls := findClass_of_methodNamed B.named
  have hlocks := B.notSynchronized
  subst hsz
  have hD := hD0.self (sz := s.heap.size)
  generalize hAe : va_A [(h0, .inr (0, [.int h0_tapeLength, .int 0, .ref oc, .ref oh, .ref om, .ref os, .ref ob]))] s.heap.size = A at hD hZ ⊢
  have hA : ∀ q : Nat, s.heap.size ≤ q → A q := fun q h => by rw [← hAe]; exact Or.inr h
  have hNs : ∀ q, A q → ∀ cell : Cell, s.heap[q]? = some cell → cell.vm.isStatics = false := by rw [← hAe]; exact xnos hP
  have hS : va_S A s.heap s.heap [] := va_S.rf
  have hl := lv_entry ([.ref h0, .int n]) (n := 4) (Nat.le_of_ble_eq_true rfl)
  rw [lg_entry_eq]
  generalize (lg_sl ([.ref h0, .int n]) ++ List.replicate (4 - (lg_sl ([.ref h0, .int n])).length) Slot.unset).toArray = ls at hl ⊢
  have hl : lv_has ls 4 [(0, .ref h0), (1, .int n)] := hl
  have hP : va_P (dC, dI) vwCl [(h0, .inr (0, [.int h0_tapeLength, .int 0, .ref oc, .ref oh, .ref om, .ref os, .ref ob]))] s.heap := hP
  have hD : va_D A [(h0, .inr (0, [.int h0_tapeLength, .int 0, .ref oc, .ref oh, .ref om, .ref os, .ref ob]))] := hD
  refine lv_iload_n hx hb d_LM_run_0 rfl (lv_at hl 1 rfl) ?_
  refine lv_iconst (v := 1) hx hb d_LM_run_1 (by decide) ?_
  refine lv_icmp_lt (tgt := 11) hx hb d_LM_run_2 (by decide) (fun c_2 => ?_) (fun c_2 => ?_)
  · skip
    exact xthrow (own := R_LM) (cls := "java/lang/IllegalArgumentException") (names := ["java/lang/RuntimeException", "java/lang/Exception"]) (ik := 74) (ic := 76) hx hb hst hown (by decide) (by decide) (hts (.classLink R_LM 74 "java/lang/IllegalArgumentException") (List.mem_cons_of_mem _ kw_123)) (hts (.initialized "java/lang/IllegalArgumentException") (List.mem_cons_of_mem _ kw_124)) (hts (.instantiable "java/lang/IllegalArgumentException" 6) (List.mem_cons_of_mem _ kw_125)) (xat (fun w h => hts w (List.mem_cons_of_mem _ (xo_IllegalArgumentException w h))) xn_IllegalArgumentException hB hZ) hNs hS (by rw [hml]; exact hl.1) d_LM_run_11 d_LM_run_14 d_LM_run_15 d_LM_run_18 hex (Nat.le_of_ble_eq_true rfl) (Nat.le_of_ble_eq_true rfl) (Nat.le_of_ble_eq_true rfl) (Nat.le_of_ble_eq_true rfl) hlocks (fun U _ hF => hF) (Nat.le_of_ble_eq_true rfl) (Nat.le_of_ble_eq_true rfl)
  · skip
    refine lv_iload_n hx hb d_LM_run_5 rfl (lv_at hl 1 rfl) ?_
    refine lv_ldc (v := 100000) hx hb hown (hts (.constant R_LM 110 100000) (List.mem_cons_of_mem _ kw_130)) d_LM_run_6 ?_
    refine lv_icmp_le (tgt := 19) hx hb d_LM_run_8 (by decide) (fun c_8 => absurd c_8 (g.resolve_left c_2)) (fun c_8 => ?_)
    exact xthrow (own := R_LM) (cls := "java/lang/IllegalArgumentException") (names := ["java/lang/RuntimeException", "java/lang/Exception"]) (ik := 74) (ic := 76) hx hb hst hown (by decide) (by decide) (hts (.classLink R_LM 74 "java/lang/IllegalArgumentException") (List.mem_cons_of_mem _ kw_123)) (hts (.initialized "java/lang/IllegalArgumentException") (List.mem_cons_of_mem _ kw_124)) (hts (.instantiable "java/lang/IllegalArgumentException" 6) (List.mem_cons_of_mem _ kw_125)) (xat (fun w h => hts w (List.mem_cons_of_mem _ (xo_IllegalArgumentException w h))) xn_IllegalArgumentException hB hZ) hNs hS (by rw [hml]; exact hl.1) d_LM_run_11 d_LM_run_14 d_LM_run_15 d_LM_run_18 hex (Nat.le_of_ble_eq_true rfl) (Nat.le_of_ble_eq_true rfl) (Nat.le_of_ble_eq_true rfl) (Nat.le_of_ble_eq_true rfl) hlocks (fun U _ hF => hF) (Nat.le_of_ble_eq_true rfl) (Nat.le_of_ble_eq_true rfl)

set_option maxHeartbeats 4000000 in
set_option maxRecDepth 100000 in
theorem c_LM_run_not (l : Launch) (hst : l.stackTraces = false) (dC : Nat → ClassId) (dI : Nat → Nat → Nat) (h0 : Nat) (oc : Nat) (oh : Nat) (om : Nat) (os : Nat) (ob : Nat) (h0_tapeLength : Int32) (n : Int32) (sz : Nat) (g1 : ¬ n < 1) (g2 : n ≤ 100000) : MetX l y_LM_run w_LM_run ({ frames := 6, cells := 1, slots := 6, locals := 81 }) (va_Pc [.ref h0, .int n] (fun U => U.heap.size = sz ∧ va_P (dC, dI) vwCl [(h0, .inr (0, [.int h0_tapeLength, .int 0, .ref oc, .ref oh, .ref om, .ref os, .ref ob]))] U.heap ∧ va_K (dC, dI) vwCl [] U ∧ va_D (fun _ => True) [(h0, .inr (0, [.int h0_tapeLength, .int 0, .ref oc, .ref oh, .ref om, .ref os, .ref ob]))] ∧ xB U ∧ xZ (va_A [(h0, .inr (0, [.int h0_tapeLength, .int 0, .ref oc, .ref oh, .ref om, .ref os, .ref ob]))] sz) U U.heap)) "java/lang/IllegalStateException" (va_F (va_A [(h0, .inr (0, [.int h0_tapeLength, .int 0, .ref oc, .ref oh, .ref om, .ref os, .ref ob]))] sz)) 1 6 (va_A [(h0, .inr (0, [.int h0_tapeLength, .int 0, .ref oc, .ref oh, .ref om, .ref os, .ref ob]))] sz) := by
  refine MetX.ofW (cc := b_LM_run) (maxL := 4) (ret := (some .int)) (by decide) rfl ?_
  intro p e s m args below meth c s₁ B hml hex hv
  obtain ⟨rfl, hsz, hP, hK, hD0, hB, hZ⟩ := hv
  have hx := B.exec
  have hb := B.bytes
  have hr := B.returns
  have hts := atoms_spec (ws := w_LM_run) B.pre
  have hown : s.vm.findClass R_LM = some m.cls := findClass_of_methodNamed B.named
  have hlocks := B.notSynchronized
  subst hsz
  have hD := hD0.self (sz := s.heap.size)
  generalize hAe : va_A [(h0, .inr (0, [.int h0_tapeLength, .int 0, .ref oc, .ref oh, .ref om, .ref os, .ref ob]))] s.heap.size = A at hD hZ ⊢
  have hA : ∀ q : Nat, s.heap.size ≤ q → A q := fun q h => by rw [← hAe]; exact Or.inr h
  have hNs : ∀ q, A q → ∀ cell : Cell, s.heap[q]? = some cell → cell.vm.isStatics = false := by rw [← hAe]; exact xnos hP
  have hS : va_S A s.heap s.heap [] := va_S.rf
  have hl := lv_entry ([.ref h0, .int n]) (n := 4) (Nat.le_of_ble_eq_true rfl)
  rw [lg_entry_eq]
  generalize (lg_sl ([.ref h0, .int n]) ++ List.replicate (4 - (lg_sl ([.ref h0, .int n])).length) Slot.unset).toArray = ls at hl ⊢
  have hl : lv_has ls 4 [(0, .ref h0), (1, .int n)] := hl
  have hP : va_P (dC, dI) vwCl [(h0, .inr (0, [.int h0_tapeLength, .int 0, .ref oc, .ref oh, .ref om, .ref os, .ref ob]))] s.heap := hP
  have hD : va_D A [(h0, .inr (0, [.int h0_tapeLength, .int 0, .ref oc, .ref oh, .ref om, .ref os, .ref ob]))] := hD
  refine lv_iload_n hx hb d_LM_run_0 rfl (lv_at hl 1 rfl) ?_
  refine lv_iconst (v := 1) hx hb d_LM_run_1 (by decide) ?_
  refine lv_icmp_lt (tgt := 11) hx hb d_LM_run_2 (by decide) (fun c_2 => absurd c_2 g1) (fun c_2 => ?_)
  refine lv_iload_n hx hb d_LM_run_5 rfl (lv_at hl 1 rfl) ?_
  refine lv_ldc (v := 100000) hx hb hown (hts (.constant R_LM 110 100000) (List.mem_cons_of_mem _ kw_130)) d_LM_run_6 ?_
  refine lv_icmp_le (tgt := 19) hx hb d_LM_run_8 (by decide) (fun c_8 => ?_) (fun c_8 => absurd g2 c_8)
  refine lv_aload_n hx hb d_LM_run_19 rfl (lv_at hl 0 rfl) ?_
  refine va_get (D := (dC, dI)) (ci := 0) (v := .int 0) (C := R_LM) (T := TLM) (N := 7) hx hb hts (fun w h => List.mem_cons_of_mem _ (ic_LM w h)) hown hK hP 0 rfl rfl 1 (by decide) (hts (.fieldLink R_LM 77 "LuaMachine" "loaded" "Z") (List.mem_cons_of_mem _ kw_131)) (fun _ h9 => h9) rfl d_LM_run_20 ?_
  refine lv_if_ne (tgt := 34) hx hb d_LM_run_23 (by decide) (fun c_23 => absurd (by decide) c_23) (fun c_23 => ?_)
  exact xthrow (own := R_LM) (cls := "java/lang/IllegalStateException") (names := ["java/lang/RuntimeException", "java/lang/Exception"]) (ik := 63) (ic := 65) hx hb hst hown (by decide) (by decide) (hts (.classLink R_LM 63 "java/lang/IllegalStateException") (List.mem_cons_of_mem _ kw_132)) (hts (.initialized "java/lang/IllegalStateException") (List.mem_cons_of_mem _ kw_133)) (hts (.instantiable "java/lang/IllegalStateException" 6) (List.mem_cons_of_mem _ kw_134)) (xat (fun w h => hts w (List.mem_cons_of_mem _ (xo_IllegalStateException w h))) xn_IllegalStateException hB hZ) hNs hS (by rw [hml]; exact hl.1) d_LM_run_26 d_LM_run_29 d_LM_run_30 d_LM_run_33 hex (Nat.le_of_ble_eq_true rfl) (Nat.le_of_ble_eq_true rfl) (Nat.le_of_ble_eq_true rfl) (Nat.le_of_ble_eq_true rfl) hlocks (fun U _ hF => hF) (Nat.le_of_ble_eq_true rfl) (Nat.le_of_ble_eq_true rfl)

set_option maxHeartbeats 4000000 in
set_option maxRecDepth 100000 in
theorem c_LM_collect_not (l : Launch) (hst : l.stackTraces = false) (dC : Nat → ClassId) (dI : Nat → Nat → Nat) (h0 : Nat) (oc : Nat) (oh : Nat) (om : Nat) (os : Nat) (ob : Nat) (h0_tapeLength : Int32) (sz : Nat) : MetX l y_LM_collect w_LM_collect ({ frames := 6, cells := 1, slots := 6, locals := 81 }) (va_Pc [.ref h0] (fun U => U.heap.size = sz ∧ va_P (dC, dI) vwCl [(h0, .inr (0, [.int h0_tapeLength, .int 0, .ref oc, .ref oh, .ref om, .ref os, .ref ob]))] U.heap ∧ va_K (dC, dI) vwCl [] U ∧ va_D (fun _ => True) [(h0, .inr (0, [.int h0_tapeLength, .int 0, .ref oc, .ref oh, .ref om, .ref os, .ref ob]))] ∧ xB U ∧ xZ (va_A [(h0, .inr (0, [.int h0_tapeLength, .int 0, .ref oc, .ref oh, .ref om, .ref os, .ref ob]))] sz) U U.heap)) "java/lang/IllegalStateException" (va_F (va_A [(h0, .inr (0, [.int h0_tapeLength, .int 0, .ref oc, .ref oh, .ref om, .ref os, .ref ob]))] sz)) 1 6 (va_A [(h0, .inr (0, [.int h0_tapeLength, .int 0, .ref oc, .ref oh, .ref om, .ref os, .ref ob]))] sz) := by
  refine MetX.ofW (cc := b_LM_collect) (maxL := 1) (ret := (some .int)) (by decide) rfl ?_
  intro p e s m args below meth c s₁ B hml hex hv
  obtain ⟨rfl, hsz, hP, hK, hD0, hB, hZ⟩ := hv
  have hx := B.exec
  have hb := B.bytes
  have hr := B.returns
  have hts := atoms_spec (ws := w_LM_collect) B.pre
  have hown : s.vm.findClass R_LM = some m.cls := findClass_of_methodNamed B.named
  have hlocks := B.notSynchronized
  subst hsz
  have hD := hD0.self (sz := s.heap.size)
  generalize hAe : va_A [(h0, .inr (0, [.int h0_tapeLength, .int 0, .ref oc, .ref oh, .ref om, .ref os, .ref ob]))] s.heap.size = A at hD hZ ⊢
  have hA : ∀ q : Nat, s.heap.size ≤ q → A q := fun q h => by rw [← hAe]; exact Or.inr h
  have hNs : ∀ q, A q → ∀ cell : Cell, s.heap[q]? = some cell → cell.vm.isStatics = false := by rw [← hAe]; exact xnos hP
  have hS : va_S A s.heap s.heap [] := va_S.rf
  have hl := lv_entry ([.ref h0]) (n := 1) (Nat.le_of_ble_eq_true rfl)
  rw [lg_entry_eq]
  generalize (lg_sl ([.ref h0]) ++ List.replicate (1 - (lg_sl ([.ref h0])).length) Slot.unset).toArray = ls at hl ⊢
  have hl : lv_has ls 1 [(0, .ref h0)] := hl
  have hP : va_P (dC, dI) vwCl [(h0, .inr (0, [.int h0_tapeLength, .int 0, .ref oc, .ref oh, .ref om, .ref os, .ref ob]))] s.heap := hP
  have hD : va_D A [(h0, .inr (0, [.int h0_tapeLength, .int 0, .ref oc, .ref oh, .ref om, .ref os, .ref ob]))] := hD
  refine lv_aload_n hx hb d_LM_collect_0 rfl (lv_at hl 0 rfl) ?_
  refine va_get (D := (dC, dI)) (ci := 0) (v := .int 0) (C := R_LM) (T := TLM) (N := 7) hx hb hts (fun w h => List.mem_cons_of_mem _ (ic_LM w h)) hown hK hP 0 rfl rfl 1 (by decide) (hts (.fieldLink R_LM 77 "LuaMachine" "loaded" "Z") (List.mem_cons_of_mem _ kw_131)) (fun _ h9 => h9) rfl d_LM_collect_1 ?_
  refine lv_if_ne (tgt := 15) hx hb d_LM_collect_4 (by decide) (fun c_4 => absurd (by decide) c_4) (fun c_4 => ?_)
  exact xthrow (own := R_LM) (cls := "java/lang/IllegalStateException") (names := ["java/lang/RuntimeException", "java/lang/Exception"]) (ik := 63) (ic := 65) hx hb hst hown (by decide) (by decide) (hts (.classLink R_LM 63 "java/lang/IllegalStateException") (List.mem_cons_of_mem _ kw_132)) (hts (.initialized "java/lang/IllegalStateException") (List.mem_cons_of_mem _ kw_133)) (hts (.instantiable "java/lang/IllegalStateException" 6) (List.mem_cons_of_mem _ kw_134)) (xat (fun w h => hts w (List.mem_cons_of_mem _ (xo_IllegalStateException w h))) xn_IllegalStateException hB hZ) hNs hS (by rw [hml]; exact hl.1) d_LM_collect_7 d_LM_collect_10 d_LM_collect_11 d_LM_collect_14 hex (Nat.le_of_ble_eq_true rfl) (Nat.le_of_ble_eq_true rfl) (Nat.le_of_ble_eq_true rfl) (Nat.le_of_ble_eq_true rfl) hlocks (fun U _ hF => hF) (Nat.le_of_ble_eq_true rfl) (Nat.le_of_ble_eq_true rfl)

set_option maxHeartbeats 4000000 in
set_option maxRecDepth 100000 in
theorem c_LM_hasNoResult (l : Launch) (dC : Nat → ClassId) (dI : Nat → Nat → Nat) (h0 : Nat) (oc : Nat) (oh : Nat) (om : Nat) (os : Nat) (ob : Nat) (h0_tapeLength : Int32) (n : Int32) (sz : Nat) : Met l y_LM_hasNoResult w_LM_hasNoResult ({ frames := 0, cells := 0, slots := 0, locals := 0 }) (va_Pc [.ref h0, .int n] (fun U => U.heap.size = sz ∧ va_P (dC, dI) vwCl [(h0, .inr (0, [.int h0_tapeLength, .int 0, .ref oc, .ref oh, .ref om, .ref os, .ref ob]))] U.heap ∧ va_K (dC, dI) vwCl [] U ∧ va_D (fun _ => True) [(h0, .inr (0, [.int h0_tapeLength, .int 0, .ref oc, .ref oh, .ref om, .ref os, .ref ob]))] ∧ xB U ∧ xZ (va_A [(h0, .inr (0, [.int h0_tapeLength, .int 0, .ref oc, .ref oh, .ref om, .ref os, .ref ob]))] sz) U U.heap)) (va_Qi (fun (r : Int32) (_ : Unit) => r = 1) (fun _ t => va_P (dC, dI) vwCl [(h0, .inr (0, [.int h0_tapeLength, .int 0, .ref oc, .ref oh, .ref om, .ref os, .ref ob]))] t.heap ∧ va_K (dC, dI) vwCl [] t ∧ va_D (va_A [(h0, .inr (0, [.int h0_tapeLength, .int 0, .ref oc, .ref oh, .ref om, .ref os, .ref ob]))] sz) [(h0, .inr (0, [.int h0_tapeLength, .int 0, .ref oc, .ref oh, .ref om, .ref os, .ref ob]))]) (va_A [(h0, .inr (0, [.int h0_tapeLength, .int 0, .ref oc, .ref oh, .ref om, .ref os, .ref ob]))] sz)) 0 0 (va_A [(h0, .inr (0, [.int h0_tapeLength, .int 0, .ref oc, .ref oh, .ref om, .ref os, .ref ob]))] sz) := by
  refine Met.ofW (cc := b_LM_hasNoResult) (maxL := 2) (ret := (some .boolean)) (by decide) rfl ?_
  intro p e s m args below meth c s₁ B hml hv
  obtain ⟨rfl, hsz, hP, hK, hD0, hB, hZ⟩ := hv
  have hx := B.exec
  have hb := B.bytes
  have hr := B.returns
  have hts := atoms_spec (ws := w_LM_hasNoResult) B.pre
  have hown : s.vm.findClass R_LM = some m.cls := findClass_of_methodNamed B.named
  have hlocks := B.notSynchronized
  subst hsz
  have hD := hD0.self (sz := s.heap.size)
  generalize hAe : va_A [(h0, .inr (0, [.int h0_tapeLength, .int 0, .ref oc, .ref oh, .ref om, .ref os, .ref ob]))] s.heap.size = A at hD hZ ⊢
  have hA : ∀ q : Nat, s.heap.size ≤ q → A q := fun q h => by rw [← hAe]; exact Or.inr h
  have hS : va_S A s.heap s.heap [] := va_S.rf
  have hl := lv_entry ([.ref h0, .int n]) (n := 2) (Nat.le_of_ble_eq_true rfl)
  rw [lg_entry_eq]
  generalize (lg_sl ([.ref h0, .int n]) ++ List.replicate (2 - (lg_sl ([.ref h0, .int n])).length) Slot.unset).toArray = ls at hl ⊢
  have hl : lv_has ls 2 [(0, .ref h0), (1, .int n)] := hl
  have hP : va_P (dC, dI) vwCl [(h0, .inr (0, [.int h0_tapeLength, .int 0, .ref oc, .ref oh, .ref om, .ref os, .ref ob]))] s.heap := hP
  have hD : va_D A [(h0, .inr (0, [.int h0_tapeLength, .int 0, .ref oc, .ref oh, .ref om, .ref os, .ref ob]))] := hD
  refine lv_aload_n hx hb d_LM_hasNoResult_0 rfl (lv_at hl 0 rfl) ?_
  refine va_get (D := (dC, dI)) (ci := 0) (v := .int 0) (C := R_LM) (T := TLM) (N := 7) hx hb hts (fun w h => List.mem_cons_of_mem _ (ic_LM w h)) hown hK hP 0 rfl rfl 1 (by decide) (hts (.fieldLink R_LM 77 "LuaMachine" "loaded" "Z") (List.mem_cons_of_mem _ kw_131)) (fun _ h9 => h9) rfl d_LM_hasNoResult_1 ?_
  refine lv_if_eq (tgt := 25) hx hb d_LM_hasNoResult_4 (by decide) (fun c_4 => ?_) (fun c_4 => absurd (by decide) c_4)
  refine lv_iconst (v := 1) hx hb d_LM_hasNoResult_25 (by decide) ?_
  refine lv_goto (tgt := 30) hx hb d_LM_hasNoResult_26 (by decide) ?_
  have hP9 := hP.sub (ws' := [(h0, .inr (0, [.int h0_tapeLength, .int 0, .ref oc, .ref oh, .ref om, .ref os, .ref ob]))]) [0] rfl
  have hD9 := hD.sub (ws' := [(h0, .inr (0, [.int h0_tapeLength, .int 0, .ref oc, .ref oh, .ref om, .ref os, .ref ob]))]) [0] (by decide) rfl
  have hK9 := hK.sub (tys' := []) [] rfl
  refine W.widen (k := 0) (n := 0) (Nat.le_of_ble_eq_true rfl) (Nat.le_of_ble_eq_true rfl) ?_
  exact W.zret (v := 1) hx hb hr (by decide) (fun t ht hW => ⟨⟨1, (), rfl, rfl, by rw [ht]; exact hP9, va_K.moved hW.alike hK9, hD9⟩, hS.F ht⟩) hS.2.2 d_LM_hasNoResult_30

set_option maxHeartbeats 4000000 in
set_option maxRecDepth 100000 in
theorem c_LM_kind_not (l : Launch) (hst : l.stackTraces = false) (dC : Nat → ClassId) (dI : Nat → Nat → Nat) (h0 : Nat) (oc : Nat) (oh : Nat) (om : Nat) (os : Nat) (ob : Nat) (h0_tapeLength : Int32) (n : Int32) (sz : Nat) : MetX l y_LM_kind w_LM_kind ({ frames := 6, cells := 1, slots := 6, locals := 81 }) (va_Pc [.ref h0, .int n] (fun U => U.heap.size = sz ∧ va_P (dC, dI) vwCl [(h0, .inr (0, [.int h0_tapeLength, .int 0, .ref oc, .ref oh, .ref om, .ref os, .ref ob]))] U.heap ∧ va_K (dC, dI) vwCl [] U ∧ va_D (fun _ => True) [(h0, .inr (0, [.int h0_tapeLength, .int 0, .ref oc, .ref oh, .ref om, .ref os, .ref ob]))] ∧ xB U ∧ xZ (va_A [(h0, .inr (0, [.int h0_tapeLength, .int 0, .ref oc, .ref oh, .ref om, .ref os, .ref ob]))] sz) U U.heap)) "java/lang/IndexOutOfBoundsException" (va_F (va_A [(h0, .inr (0, [.int h0_tapeLength, .int 0, .ref oc, .ref oh, .ref om, .ref os, .ref ob]))] sz)) 1 6 (va_A [(h0, .inr (0, [.int h0_tapeLength, .int 0, .ref oc, .ref oh, .ref om, .ref os, .ref ob]))] sz) := by
  refine MetX.ofW (cc := b_LM_kind) (maxL := 2) (ret := (some .int)) (by decide) rfl ?_
  intro p e s m args below meth c s₁ B hml hex hv
  obtain ⟨rfl, hsz, hP, hK, hD0, hB, hZ⟩ := hv
  have hx := B.exec
  have hb := B.bytes
  have hr := B.returns
  have hts := atoms_spec (ws := w_LM_kind) B.pre
  have hown : s.vm.findClass R_LM = some m.cls := findClass_of_methodNamed B.named
  have hlocks := B.notSynchronized
  subst hsz
  have hD := hD0.self (sz := s.heap.size)
  generalize hAe : va_A [(h0, .inr (0, [.int h0_tapeLength, .int 0, .ref oc, .ref oh, .ref om, .ref os, .ref ob]))] s.heap.size = A at hD hZ ⊢
  have hA : ∀ q : Nat, s.heap.size ≤ q → A q := fun q h => by rw [← hAe]; exact Or.inr h
  have hNs : ∀ q, A q → ∀ cell : Cell, s.heap[q]? = some cell → cell.vm.isStatics = false := by rw [← hAe]; exact xnos hP
  have hS : va_S A s.heap s.heap [] := va_S.rf
  have hl := lv_entry ([.ref h0, .int n]) (n := 2) (Nat.le_of_ble_eq_true rfl)
  rw [lg_entry_eq]
  generalize (lg_sl ([.ref h0, .int n]) ++ List.replicate (2 - (lg_sl ([.ref h0, .int n])).length) Slot.unset).toArray = ls at hl ⊢
  have hl : lv_has ls 2 [(0, .ref h0), (1, .int n)] := hl
  have hP : va_P (dC, dI) vwCl [(h0, .inr (0, [.int h0_tapeLength, .int 0, .ref oc, .ref oh, .ref om, .ref os, .ref ob]))] s.heap := hP
  have hD : va_D A [(h0, .inr (0, [.int h0_tapeLength, .int 0, .ref oc, .ref oh, .ref om, .ref os, .ref ob]))] := hD
  refine lv_aload_n hx hb d_LM_kind_0 rfl (lv_at hl 0 rfl) ?_
  refine lv_iload_n hx hb d_LM_kind_1 rfl (lv_at hl 1 rfl) ?_
  have hPc := hP.sub (ws' := [(h0, .inr (0, [.int h0_tapeLength, .int 0, .ref oc, .ref oh, .ref om, .ref os, .ref ob]))]) [0] rfl
  have hDc := hD.sub (ws' := [(h0, .inr (0, [.int h0_tapeLength, .int 0, .ref oc, .ref oh, .ref om, .ref os, .ref ob]))]) [0] (by decide) rfl
  have hKc := hK.sub (tys' := []) [] rfl
  have hFc := va_free (wc := [(h0, .inr (0, [.int h0_tapeLength, .int 0, .ref oc, .ref oh, .ref om, .ref os, .ref ob]))]) hD hS hA [0] rfl
  refine va_calli (va_runV (As := [.int n]) (rest := []) ⟨hx, hb, hml, hown, hts⟩ (c_LM_hasNoResult l dC dI h0 oc oh om os ob h0_tapeLength n s.heap.size ) (cwV 1 hts (gV kw_136 kw_137 kw_138 kw_122 k_LM_hasNoResult) rfl rfl rfl (by decide +kernel) ⟨(Nat.le_of_ble_eq_true rfl), (Nat.le_of_ble_eq_true rfl)⟩) ⟨fun a U g mk q => by obtain ⟨q0, q1, qP, qK, qD, qhB, qhZ⟩ := q; exact ⟨q0, q1, qP, va_K.moved (u := U) (U := U.calling g mk a) (Vm.Alike.refl U.vm) qK, qD, xB.warm (s := U) (U := U.calling g mk a) (State.WarmedH.refl U) qhB, xZ.moved (u := U) (U := U.calling g mk a) (Vm.Alike.refl U.vm) qhZ⟩, va_recv hKc hPc (ci := 0) (q0 := 0) rfl rfl, fun U hU hW => ⟨rfl, by rw [hU], by rw [hU]; exact hPc, va_K.moved hW.alike hKc, hDc.weaken (fun _ _ _ _ => trivial), xB.warm hW hB, (by rw [hU]; exact xZ.moved hW.alike ((hZ.kept hS.2.1).narrow hFc))⟩⟩ rfl rfl hl.1 rfl (lv_room (Nat.le_of_ble_eq_true rfl)) d_LM_kind_2 ⟨(Nat.le_of_ble_eq_true rfl), (Nat.le_of_ble_eq_true rfl)⟩) hS (fun q _ h => hFc q h) hFc (fun r u t H1 locs ht hvm hw hB hz1 hk1 hS => ?_)
  obtain ⟨hP1, hK1, hD1⟩ := hB
  rw [ht] at hP1
  have hK1 := va_K.moved hvm.symm hK1
  obtain ⟨hP, hD⟩ := va_join (wr := []) (w1 := [(h0, .inr (0, [.int h0_tapeLength, .int 0, .ref oc, .ref oh, .ref om, .ref os, .ref ob]))]) hP hD [0] [] rfl rfl (by decide) (by decide) hk1 hFc hP1 hD1
  have hK := (hK.sub (tys' := []) [] rfl).app hK1
  generalize H1 = H at hP hS ⊢
  have hK : va_K (dC, dI) vwCl [] s := hK
  have hP : va_P (dC, dI) vwCl [(h0, .inr (0, [.int h0_tapeLength, .int 0, .ref oc, .ref oh, .ref om, .ref os, .ref ob]))] H := hP
  have hD : va_D A [(h0, .inr (0, [.int h0_tapeLength, .int 0, .ref oc, .ref oh, .ref om, .ref os, .ref ob]))] := hD
  refine W.widen (k := 0) (n := 0) (Nat.le_of_ble_eq_true rfl) (Nat.le_of_ble_eq_true rfl) ?_
  have hw : r = 1 := hw
  refine gx_i (v := 1) hw ?_
  refine lv_if_eq (tgt := 16) hx hb d_LM_kind_5 (by decide) (fun c_5 => absurd c_5 (by decide)) (fun c_5 => ?_)
  exact xthrow (own := R_LM) (cls := "java/lang/IndexOutOfBoundsException") (names := ["java/lang/RuntimeException", "java/lang/Exception"]) (ik := 149) (ic := 151) hx hb hst hown (by decide) (by decide) (hts (.classLink R_LM 149 "java/lang/IndexOutOfBoundsException") (List.mem_cons_of_mem _ kw_139)) (hts (.initialized "java/lang/IndexOutOfBoundsException") (List.mem_cons_of_mem _ kw_140)) (hts (.instantiable "java/lang/IndexOutOfBoundsException" 6) (List.mem_cons_of_mem _ kw_141)) (xat (fun w h => hts w (List.mem_cons_of_mem _ (xo_IndexOutOfBoundsException w h))) xn_IndexOutOfBoundsException hB hZ) hNs hS (by rw [hml]; exact hl.1) d_LM_kind_8 d_LM_kind_11 d_LM_kind_12 d_LM_kind_15 hex (Nat.le_of_ble_eq_true rfl) (Nat.le_of_ble_eq_true rfl) (Nat.le_of_ble_eq_true rfl) (Nat.le_of_ble_eq_true rfl) hlocks (fun U _ hF => hF) (Nat.le_of_ble_eq_true rfl) (Nat.le_of_ble_eq_true rfl)

set_option maxHeartbeats 4000000 in
set_option maxRecDepth 100000 in
theorem c_LM_value_not (l : Launch) (hst : l.stackTraces = false) (dC : Nat → ClassId) (dI : Nat → Nat → Nat) (h0 : Nat) (oc : Nat) (oh : Nat) (om : Nat) (os : Nat) (ob : Nat) (h0_tapeLength : Int32) (n : Int32) (sz : Nat) : MetX l y_LM_value w_LM_value ({ frames := 6, cells := 1, slots := 6, locals := 81 }) (va_Pc [.ref h0, .int n] (fun U => U.heap.size = sz ∧ va_P (dC, dI) vwCl [(h0, .inr (0, [.int h0_tapeLength, .int 0, .ref oc, .ref oh, .ref om, .ref os, .ref ob]))] U.heap ∧ va_K (dC, dI) vwCl [] U ∧ va_D (fun _ => True) [(h0, .inr (0, [.int h0_tapeLength, .int 0, .ref oc, .ref oh, .ref om, .ref os, .ref ob]))] ∧ xB U ∧ xZ (va_A [(h0, .inr (0, [.int h0_tapeLength, .int 0, .ref oc, .ref oh, .ref om, .ref os, .ref ob]))] sz) U U.heap)) "java/lang/IndexOutOfBoundsException" (va_F (va_A [(h0, .inr (0, [.int h0_tapeLength, .int 0, .ref oc, .ref oh, .ref om, .ref os, .ref ob]))] sz)) 1 6 (va_A [(h0, .inr (0, [.int h0_tapeLength, .int 0, .ref oc, .ref oh, .ref om, .ref os, .ref ob]))] sz) := by
  refine MetX.ofW (cc := b_LM_value) (maxL := 5) (ret := (some .long)) (by decide) rfl ?_
  intro p e s m args below meth c s₁ B hml hex hv
  obtain ⟨rfl, hsz, hP, hK, hD0, hB, hZ⟩ := hv
  have hx := B.exec
  have hb := B.bytes
  have hr := B.returns
  have hts := atoms_spec (ws := w_LM_value) B.pre
  have hown : s.vm.findClass R_LM = some m.cls := findClass_of_methodNamed B.named
  have hlocks := B.notSynchronized
  subst hsz
  have hD := hD0.self (sz := s.heap.size)
  generalize hAe : va_A [(h0, .inr (0, [.int h0_tapeLength, .int 0, .ref oc, .ref oh, .ref om, .ref os, .ref ob]))] s.heap.size = A at hD hZ ⊢
  have hA : ∀ q : Nat, s.heap.size ≤ q → A q := fun q h => by rw [← hAe]; exact Or.inr h
  have hNs : ∀ q, A q → ∀ cell : Cell, s.heap[q]? = some cell → cell.vm.isStatics = false := by rw [← hAe]; exact xnos hP
  have hS : va_S A s.heap s.heap [] := va_S.rf
  have hl := lv_entry ([.ref h0, .int n]) (n := 5) (Nat.le_of_ble_eq_true rfl)
  rw [lg_entry_eq]
  generalize (lg_sl ([.ref h0, .int n]) ++ List.replicate (5 - (lg_sl ([.ref h0, .int n])).length) Slot.unset).toArray = ls at hl ⊢
  have hl : lv_has ls 5 [(0, .ref h0), (1, .int n)] := hl
  have hP : va_P (dC, dI) vwCl [(h0, .inr (0, [.int h0_tapeLength, .int 0, .ref oc, .ref oh, .ref om, .ref os, .ref ob]))] s.heap := hP
  have hD : va_D A [(h0, .inr (0, [.int h0_tapeLength, .int 0, .ref oc, .ref oh, .ref om, .ref os, .ref ob]))] := hD
  refine lv_aload_n hx hb d_LM_value_0 rfl (lv_at hl 0 rfl) ?_
  refine lv_iload_n hx hb d_LM_value_1 rfl (lv_at hl 1 rfl) ?_
  have hPc := hP.sub (ws' := [(h0, .inr (0, [.int h0_tapeLength, .int 0, .ref oc, .ref oh, .ref om, .ref os, .ref ob]))]) [0] rfl
  have hDc := hD.sub (ws' := [(h0, .inr (0, [.int h0_tapeLength, .int 0, .ref oc, .ref oh, .ref om, .ref os, .ref ob]))]) [0] (by decide) rfl
  have hKc := hK.sub (tys' := []) [] rfl
  have hFc := va_free (wc := [(h0, .inr (0, [.int h0_tapeLength, .int 0, .ref oc, .ref oh, .ref om, .ref os, .ref ob]))]) hD hS hA [0] rfl
  refine va_calli (va_runV (As := [.int n]) (rest := []) ⟨hx, hb, hml, hown, hts⟩ (c_LM_hasNoResult l dC dI h0 oc oh om os ob h0_tapeLength n s.heap.size ) (cwV 1 hts (gV kw_136 kw_137 kw_138 kw_122 k_LM_hasNoResult) rfl rfl rfl (by decide +kernel) ⟨(Nat.le_of_ble_eq_true rfl), (Nat.le_of_ble_eq_true rfl)⟩) ⟨fun a U g mk q => by obtain ⟨q0, q1, qP, qK, qD, qhB, qhZ⟩ := q; exact ⟨q0, q1, qP, va_K.moved (u := U) (U := U.calling g mk a) (Vm.Alike.refl U.vm) qK, qD, xB.warm (s := U) (U := U.calling g mk a) (State.WarmedH.refl U) qhB, xZ.moved (u := U) (U := U.calling g mk a) (Vm.Alike.refl U.vm) qhZ⟩, va_recv hKc hPc (ci := 0) (q0 := 0) rfl rfl, fun U hU hW => ⟨rfl, by rw [hU], by rw [hU]; exact hPc, va_K.moved hW.alike hKc, hDc.weaken (fun _ _ _ _ => trivial), xB.warm hW hB, (by rw [hU]; exact xZ.moved hW.alike ((hZ.kept hS.2.1).narrow hFc))⟩⟩ rfl rfl hl.1 rfl (lv_room (Nat.le_of_ble_eq_true rfl)) d_LM_value_2 ⟨(Nat.le_of_ble_eq_true rfl), (Nat.le_of_ble_eq_true rfl)⟩) hS (fun q _ h => hFc q h) hFc (fun r u t H1 locs ht hvm hw hB hz1 hk1 hS => ?_)
  obtain ⟨hP1, hK1, hD1⟩ := hB
  rw [ht] at hP1
  have hK1 := va_K.moved hvm.symm hK1
  obtain ⟨hP, hD⟩ := va_join (wr := []) (w1 := [(h0, .inr (0, [.int h0_tapeLength, .int 0, .ref oc, .ref oh, .ref om, .ref os, .ref ob]))]) hP hD [0] [] rfl rfl (by decide) (by decide) hk1 hFc hP1 hD1
  have hK := (hK.sub (tys' := []) [] rfl).app hK1
  generalize H1 = H at hP hS ⊢
  have hK : va_K (dC, dI) vwCl [] s := hK
  have hP : va_P (dC, dI) vwCl [(h0, .inr (0, [.int h0_tapeLength, .int 0, .ref oc, .ref oh, .ref om, .ref os, .ref ob]))] H := hP
  have hD : va_D A [(h0, .inr (0, [.int h0_tapeLength, .int 0, .ref oc, .ref oh, .ref om, .ref os, .ref ob]))] := hD
  refine W.widen (k := 0) (n := 0) (Nat.le_of_ble_eq_true rfl) (Nat.le_of_ble_eq_true rfl) ?_
  have hw : r = 1 := hw
  refine gx_i (v := 1) hw ?_
  refine lv_if_eq (tgt := 16) hx hb d_LM_value_5 (by decide) (fun c_5 => absurd c_5 (by decide)) (fun c_5 => ?_)
  exact xthrow (own := R_LM) (cls := "java/lang/IndexOutOfBoundsException") (names := ["java/lang/RuntimeException", "java/lang/Exception"]) (ik := 149) (ic := 151) hx hb hst hown (by decide) (by decide) (hts (.classLink R_LM 149 "java/lang/IndexOutOfBoundsException") (List.mem_cons_of_mem _ kw_139)) (hts (.initialized "java/lang/IndexOutOfBoundsException") (List.mem_cons_of_mem _ kw_140)) (hts (.instantiable "java/lang/IndexOutOfBoundsException" 6) (List.mem_cons_of_mem _ kw_141)) (xat (fun w h => hts w (List.mem_cons_of_mem _ (xo_IndexOutOfBoundsException w h))) xn_IndexOutOfBoundsException hB hZ) hNs hS (by rw [hml]; exact hl.1) d_LM_value_8 d_LM_value_11 d_LM_value_12 d_LM_value_15 hex (Nat.le_of_ble_eq_true rfl) (Nat.le_of_ble_eq_true rfl) (Nat.le_of_ble_eq_true rfl) (Nat.le_of_ble_eq_true rfl) hlocks (fun U _ hF => hF) (Nat.le_of_ble_eq_true rfl) (Nat.le_of_ble_eq_true rfl)

set_option maxHeartbeats 4000000 in
set_option maxRecDepth 100000 in
theorem c_LM_byteOf_not (l : Launch) (hst : l.stackTraces = false) (dC : Nat → ClassId) (dI : Nat → Nat → Nat) (h0 : Nat) (oc : Nat) (oh : Nat) (om : Nat) (os : Nat) (ob : Nat) (h0_tapeLength : Int32) (n : Int32) (n2 : Int32) (sz : Nat) : MetX l y_LM_byteOf w_LM_byteOf ({ frames := 6, cells := 1, slots := 6, locals := 81 }) (va_Pc [.ref h0, .int n, .int n2] (fun U => U.heap.size = sz ∧ va_P (dC, dI) vwCl [(h0, .inr (0, [.int h0_tapeLength, .int 0, .ref oc, .ref oh, .ref om, .ref os, .ref ob]))] U.heap ∧ va_K (dC, dI) vwCl [] U ∧ va_D (fun _ => True) [(h0, .inr (0, [.int h0_tapeLength, .int 0, .ref oc, .ref oh, .ref om, .ref os, .ref ob]))] ∧ xB U ∧ xZ (va_A [(h0, .inr (0, [.int h0_tapeLength, .int 0, .ref oc, .ref oh, .ref om, .ref os, .ref ob]))] sz) U U.heap)) "java/lang/IndexOutOfBoundsException" (va_F (va_A [(h0, .inr (0, [.int h0_tapeLength, .int 0, .ref oc, .ref oh, .ref om, .ref os, .ref ob]))] sz)) 1 6 (va_A [(h0, .inr (0, [.int h0_tapeLength, .int 0, .ref oc, .ref oh, .ref om, .ref os, .ref ob]))] sz) := by
  refine MetX.ofW (cc := b_LM_byteOf) (maxL := 4) (ret := (some .int)) (by decide) rfl ?_
  intro p e s m args below meth c s₁ B hml hex hv
  obtain ⟨rfl, hsz, hP, hK, hD0, hB, hZ⟩ := hv
  have hx := B.exec
  have hb := B.bytes
  have hr := B.returns
  have hts := atoms_spec (ws := w_LM_byteOf) B.pre
  have hown : s.vm.findClass R_LM = some m.cls := findClass_of_methodNamed B.named
  have hlocks := B.notSynchronized
  subst hsz
  have hD := hD0.self (sz := s.heap.size)
  generalize hAe : va_A [(h0, .inr (0, [.int h0_tapeLength, .int 0, .ref oc, .ref oh, .ref om, .ref os, .ref ob]))] s.heap.size = A at hD hZ ⊢
  have hA : ∀ q : Nat, s.heap.size ≤ q → A q := fun q h => by rw [← hAe]; exact Or.inr h
  have hNs : ∀ q, A q → ∀ cell : Cell, s.heap[q]? = some cell → cell.vm.isStatics = false := by rw [← hAe]; exact xnos hP
  have hS : va_S A s.heap s.heap [] := va_S.rf
  have hl := lv_entry ([.ref h0, .int n, .int n2]) (n := 4) (Nat.le_of_ble_eq_true rfl)
  rw [lg_entry_eq]
  generalize (lg_sl ([.ref h0, .int n, .int n2]) ++ List.replicate (4 - (lg_sl ([.ref h0, .int n, .int n2])).length) Slot.unset).toArray = ls at hl ⊢
  have hl : lv_has ls 4 [(0, .ref h0), (1, .int n), (2, .int n2)] := hl
  have hP : va_P (dC, dI) vwCl [(h0, .inr (0, [.int h0_tapeLength, .int 0, .ref oc, .ref oh, .ref om, .ref os, .ref ob]))] s.heap := hP
  have hD : va_D A [(h0, .inr (0, [.int h0_tapeLength, .int 0, .ref oc, .ref oh, .ref om, .ref os, .ref ob]))] := hD
  refine lv_aload_n hx hb d_LM_byteOf_0 rfl (lv_at hl 0 rfl) ?_
  refine lv_iload_n hx hb d_LM_byteOf_1 rfl (lv_at hl 1 rfl) ?_
  have hPc := hP.sub (ws' := [(h0, .inr (0, [.int h0_tapeLength, .int 0, .ref oc, .ref oh, .ref om, .ref os, .ref ob]))]) [0] rfl
  have hDc := hD.sub (ws' := [(h0, .inr (0, [.int h0_tapeLength, .int 0, .ref oc, .ref oh, .ref om, .ref os, .ref ob]))]) [0] (by decide) rfl
  have hKc := hK.sub (tys' := []) [] rfl
  have hFc := va_free (wc := [(h0, .inr (0, [.int h0_tapeLength, .int 0, .ref oc, .ref oh, .ref om, .ref os, .ref ob]))]) hD hS hA [0] rfl
  refine va_calli (va_runV (As := [.int n]) (rest := []) ⟨hx, hb, hml, hown, hts⟩ (c_LM_hasNoResult l dC dI h0 oc oh om os ob h0_tapeLength n s.heap.size ) (cwV 1 hts (gV kw_136 kw_137 kw_138 kw_122 k_LM_hasNoResult) rfl rfl rfl (by decide +kernel) ⟨(Nat.le_of_ble_eq_true rfl), (Nat.le_of_ble_eq_true rfl)⟩) ⟨fun a U g mk q => by obtain ⟨q0, q1, qP, qK, qD, qhB, qhZ⟩ := q; exact ⟨q0, q1, qP, va_K.moved (u := U) (U := U.calling g mk a) (Vm.Alike.refl U.vm) qK, qD, xB.warm (s := U) (U := U.calling g mk a) (State.WarmedH.refl U) qhB, xZ.moved (u := U) (U := U.calling g mk a) (Vm.Alike.refl U.vm) qhZ⟩, va_recv hKc hPc (ci := 0) (q0 := 0) rfl rfl, fun U hU hW => ⟨rfl, by rw [hU], by rw [hU]; exact hPc, va_K.moved hW.alike hKc, hDc.weaken (fun _ _ _ _ => trivial), xB.warm hW hB, (by rw [hU]; exact xZ.moved hW.alike ((hZ.kept hS.2.1).narrow hFc))⟩⟩ rfl rfl hl.1 rfl (lv_room (Nat.le_of_ble_eq_true rfl)) d_LM_byteOf_2 ⟨(Nat.le_of_ble_eq_true rfl), (Nat.le_of_ble_eq_true rfl)⟩) hS (fun q _ h => hFc q h) hFc (fun r u t H1 locs ht hvm hw hB hz1 hk1 hS => ?_)
  obtain ⟨hP1, hK1, hD1⟩ := hB
  rw [ht] at hP1
  have hK1 := va_K.moved hvm.symm hK1
  obtain ⟨hP, hD⟩ := va_join (wr := []) (w1 := [(h0, .inr (0, [.int h0_tapeLength, .int 0, .ref oc, .ref oh, .ref om, .ref os, .ref ob]))]) hP hD [0] [] rfl rfl (by decide) (by decide) hk1 hFc hP1 hD1
  have hK := (hK.sub (tys' := []) [] rfl).app hK1
  generalize H1 = H at hP hS ⊢
  have hK : va_K (dC, dI) vwCl [] s := hK
  have hP : va_P (dC, dI) vwCl [(h0, .inr (0, [.int h0_tapeLength, .int 0, .ref oc, .ref oh, .ref om, .ref os, .ref ob]))] H := hP
  have hD : va_D A [(h0, .inr (0, [.int h0_tapeLength, .int 0, .ref oc, .ref oh, .ref om, .ref os, .ref ob]))] := hD
  refine W.widen (k := 0) (n := 0) (Nat.le_of_ble_eq_true rfl) (Nat.le_of_ble_eq_true rfl) ?_
  have hw : r = 1 := hw
  refine gx_i (v := 1) hw ?_
  refine lv_if_eq (tgt := 16) hx hb d_LM_byteOf_5 (by decide) (fun c_5 => absurd c_5 (by decide)) (fun c_5 => ?_)
  exact xthrow (own := R_LM) (cls := "java/lang/IndexOutOfBoundsException") (names := ["java/lang/RuntimeException", "java/lang/Exception"]) (ik := 149) (ic := 151) hx hb hst hown (by decide) (by decide) (hts (.classLink R_LM 149 "java/lang/IndexOutOfBoundsException") (List.mem_cons_of_mem _ kw_139)) (hts (.initialized "java/lang/IndexOutOfBoundsException") (List.mem_cons_of_mem _ kw_140)) (hts (.instantiable "java/lang/IndexOutOfBoundsException" 6) (List.mem_cons_of_mem _ kw_141)) (xat (fun w h => hts w (List.mem_cons_of_mem _ (xo_IndexOutOfBoundsException w h))) xn_IndexOutOfBoundsException hB hZ) hNs hS (by rw [hml]; exact hl.1) d_LM_byteOf_8 d_LM_byteOf_11 d_LM_byteOf_12 d_LM_byteOf_15 hex (Nat.le_of_ble_eq_true rfl) (Nat.le_of_ble_eq_true rfl) (Nat.le_of_ble_eq_true rfl) (Nat.le_of_ble_eq_true rfl) hlocks (fun U _ hF => hF) (Nat.le_of_ble_eq_true rfl) (Nat.le_of_ble_eq_true rfl)

set_option maxHeartbeats 4000000 in
set_option maxRecDepth 100000 in
theorem c_LM_output_not (l : Launch) (hst : l.stackTraces = false) (dC : Nat → ClassId) (dI : Nat → Nat → Nat) (h0 : Nat) (oc : Nat) (oh : Nat) (om : Nat) (os : Nat) (ob : Nat) (h0_tapeLength : Int32) (n : Int32) (sz : Nat) : MetX l y_LM_output w_LM_output ({ frames := 6, cells := 1, slots := 6, locals := 81 }) (va_Pc [.ref h0, .int n] (fun U => U.heap.size = sz ∧ va_P (dC, dI) vwCl [(h0, .inr (0, [.int h0_tapeLength, .int 0, .ref oc, .ref oh, .ref om, .ref os, .ref ob]))] U.heap ∧ va_K (dC, dI) vwCl [] U ∧ va_D (fun _ => True) [(h0, .inr (0, [.int h0_tapeLength, .int 0, .ref oc, .ref oh, .ref om, .ref os, .ref ob]))] ∧ xB U ∧ xZ (va_A [(h0, .inr (0, [.int h0_tapeLength, .int 0, .ref oc, .ref oh, .ref om, .ref os, .ref ob]))] sz) U U.heap)) "java/lang/IndexOutOfBoundsException" (va_F (va_A [(h0, .inr (0, [.int h0_tapeLength, .int 0, .ref oc, .ref oh, .ref om, .ref os, .ref ob]))] sz)) 1 6 (va_A [(h0, .inr (0, [.int h0_tapeLength, .int 0, .ref oc, .ref oh, .ref om, .ref os, .ref ob]))] sz) := by
  refine MetX.ofW (cc := b_LM_output) (maxL := 2) (ret := (some .int)) (by decide) rfl ?_
  intro p e s m args below meth c s₁ B hml hex hv
  obtain ⟨rfl, hsz, hP, hK, hD0, hB, hZ⟩ := hv
  have hx := B.exec
  have hb := B.bytes
  have hr := B.returns
  have hts := atoms_spec (ws := w_LM_output) B.pre
  have hown : s.vm.findClass R_LM = some m.cls := findClass_of_methodNamed B.named
  have hlocks := B.notSynchronized
  subst hsz
  have hD := hD0.self (sz := s.heap.size)
  generalize hAe : va_A [(h0, .inr (0, [.int h0_tapeLength, .int 0, .ref oc, .ref oh, .ref om, .ref os, .ref ob]))] s.heap.size = A at hD hZ ⊢
  have hA : ∀ q : Nat, s.heap.size ≤ q → A q := fun q h => by rw [← hAe]; exact Or.inr h
  have hNs : ∀ q, A q → ∀ cell : Cell, s.heap[q]? = some cell → cell.vm.isStatics = false := by rw [← hAe]; exact xnos hP
  have hS : va_S A s.heap s.heap [] := va_S.rf
  have hl := lv_entry ([.ref h0, .int n]) (n := 2) (Nat.le_of_ble_eq_true rfl)
  rw [lg_entry_eq]
  generalize (lg_sl ([.ref h0, .int n]) ++ List.replicate (2 - (lg_sl ([.ref h0, .int n])).length) Slot.unset).toArray = ls at hl ⊢
  have hl : lv_has ls 2 [(0, .ref h0), (1, .int n)] := hl
  have hP : va_P (dC, dI) vwCl [(h0, .inr (0, [.int h0_tapeLength, .int 0, .ref oc, .ref oh, .ref om, .ref os, .ref ob]))] s.heap := hP
  have hD : va_D A [(h0, .inr (0, [.int h0_tapeLength, .int 0, .ref oc, .ref oh, .ref om, .ref os, .ref ob]))] := hD
  refine lv_aload_n hx hb d_LM_output_0 rfl (lv_at hl 0 rfl) ?_
  refine va_get (D := (dC, dI)) (ci := 0) (v := .int 0) (C := R_LM) (T := TLM) (N := 7) hx hb hts (fun w h => List.mem_cons_of_mem _ (ic_LM w h)) hown hK hP 0 rfl rfl 1 (by decide) (hts (.fieldLink R_LM 77 "LuaMachine" "loaded" "Z") (List.mem_cons_of_mem _ kw_131)) (fun _ h9 => h9) rfl d_LM_output_1 ?_
  refine lv_if_eq (tgt := 22) hx hb d_LM_output_4 (by decide) (fun c_4 => ?_) (fun c_4 => absurd (by decide) c_4)
  exact xthrow (own := R_LM) (cls := "java/lang/IndexOutOfBoundsException") (names := ["java/lang/RuntimeException", "java/lang/Exception"]) (ik := 149) (ic := 151) hx hb hst hown (by decide) (by decide) (hts (.classLink R_LM 149 "java/lang/IndexOutOfBoundsException") (List.mem_cons_of_mem _ kw_139)) (hts (.initialized "java/lang/IndexOutOfBoundsException") (List.mem_cons_of_mem _ kw_140)) (hts (.instantiable "java/lang/IndexOutOfBoundsException" 6) (List.mem_cons_of_mem _ kw_141)) (xat (fun w h => hts w (List.mem_cons_of_mem _ (xo_IndexOutOfBoundsException w h))) xn_IndexOutOfBoundsException hB hZ) hNs hS (by rw [hml]; exact hl.1) d_LM_output_22 d_LM_output_25 d_LM_output_26 d_LM_output_29 hex (Nat.le_of_ble_eq_true rfl) (Nat.le_of_ble_eq_true rfl) (Nat.le_of_ble_eq_true rfl) (Nat.le_of_ble_eq_true rfl) hlocks (fun U _ hF => hF) (Nat.le_of_ble_eq_true rfl) (Nat.le_of_ble_eq_true rfl)

set_option maxHeartbeats 4000000 in
set_option maxRecDepth 100000 in
theorem c_LM_count_bad (l : Launch) (dC : Nat → ClassId) (dI : Nat → Nat → Nat) (h0 : Nat) (oc : Nat) (oh : Nat) (om : Nat) (os : Nat) (ob : Nat) (h0_tapeLength : Int32) (n : Int32) (sz : Nat) (g : n < 0 ∨ ¬ n ≤ 11) : Met l y_LM_count w_LM_count ({ frames := 0, cells := 0, slots := 0, locals := 0 }) (va_Pc [.ref h0, .int n] (fun U => U.heap.size = sz ∧ va_P (dC, dI) vwCl [(h0, .inr (0, [.int h0_tapeLength, .int 0, .ref oc, .ref oh, .ref om, .ref os, .ref ob]))] U.heap ∧ va_K (dC, dI) vwCl [] U ∧ va_D (fun _ => True) [(h0, .inr (0, [.int h0_tapeLength, .int 0, .ref oc, .ref oh, .ref om, .ref os, .ref ob]))] ∧ xB U ∧ xZ (va_A [(h0, .inr (0, [.int h0_tapeLength, .int 0, .ref oc, .ref oh, .ref om, .ref os, .ref ob]))] sz) U U.heap)) (va_Qi (fun (r : Int32) (_ : Unit) => r = (-1)) (fun _ t => va_P (dC, dI) vwCl [(h0, .inr (0, [.int h0_tapeLength, .int 0, .ref oc, .ref oh, .ref om, .ref os, .ref ob]))] t.heap ∧ va_K (dC, dI) vwCl [] t ∧ va_D (va_A [(h0, .inr (0, [.int h0_tapeLength, .int 0, .ref oc, .ref oh, .ref om, .ref os, .ref ob]))] sz) [(h0, .inr (0, [.int h0_tapeLength, .int 0, .ref oc, .ref oh, .ref om, .ref os, .ref ob]))]) (va_A [(h0, .inr (0, [.int h0_tapeLength, .int 0, .ref oc, .ref oh, .ref om, .ref os, .ref ob]))] sz)) 0 0 (va_A [(h0, .inr (0, [.int h0_tapeLength, .int 0, .ref oc, .ref oh, .ref om, .ref os, .ref ob]))] sz) := by
  refine Met.ofW (cc := b_LM_count) (maxL := 2) (ret := (some .int)) (by decide) rfl ?_
  intro p e s m args below meth c s₁ B hml hv
  obtain ⟨rfl, hsz, hP, hK, hD0, hB, hZ⟩ := hv
  have hx := B.exec
  have hb := B.bytes
  have hr := B.returns
  have hts := atoms_spec (ws := w_LM_count) B.pre
  have hown : s.vm.findClass R_LM = some m.cls := findClass_of_methodNamed B.named
  have hlocks := B.notSynchronized
  subst hsz
  have hD := hD0.self (sz := s.heap.size)
  generalize hAe : va_A [(h0, .inr (0, [.int h0_tapeLength, .int 0, .ref oc, .ref oh, .ref om, .ref os, .ref ob]))] s.heap.size = A at hD hZ ⊢
  have hA : ∀ q : Nat, s.heap.size ≤ q → A q := fun q h => by rw [← hAe]; exact Or.inr h
  have hS : va_S A s.heap s.heap [] := va_S.rf
  have hl := lv_entry ([.ref h0, .int n]) (n := 2) (Nat.le_of_ble_eq_true rfl)
  rw [lg_entry_eq]
  generalize (lg_sl ([.ref h0, .int n]) ++ List.replicate (2 - (lg_sl ([.ref h0, .int n])).length) Slot.unset).toArray = ls at hl ⊢
  have hl : lv_has ls 2 [(0, .ref h0), (1, .int n)] := hl
  have hP : va_P (dC, dI) vwCl [(h0, .inr (0, [.int h0_tapeLength, .int 0, .ref oc, .ref oh, .ref om, .ref os, .ref ob]))] s.heap := hP
  have hD : va_D A [(h0, .inr (0, [.int h0_tapeLength, .int 0, .ref oc, .ref oh, .ref om, .ref os, .ref ob]))] := hD
  refine lv_iload_n hx hb d_LM_count_0 rfl (lv_at hl 1 rfl) ?_
  refine lv_if_lt (tgt := 10) hx hb d_LM_count_1 (by decide) (fun c_1 => ?_) (fun c_1 => ?_)
  · skip
    refine lv_iconst (v := (-1)) hx hb d_LM_count_10 (by decide) ?_
    have hP9 := hP.sub (ws' := [(h0, .inr (0, [.int h0_tapeLength, .int 0, .ref oc, .ref oh, .ref om, .ref os, .ref ob]))]) [0] rfl
    have hD9 := hD.sub (ws' := [(h0, .inr (0, [.int h0_tapeLength, .int 0, .ref oc, .ref oh, .ref om, .ref os, .ref ob]))]) [0] (by decide) rfl
    have hK9 := hK.sub (tys' := []) [] rfl
    refine W.widen (k := 0) (n := 0) (Nat.le_of_ble_eq_true rfl) (Nat.le_of_ble_eq_true rfl) ?_
    exact W.iret (v := (-1)) hx hb hr (fun t ht hW => ⟨⟨(-1), (), rfl, rfl, by rw [ht]; exact hP9, va_K.moved hW.alike hK9, hD9⟩, hS.F ht⟩) hS.2.2 d_LM_count_11
  · skip
    refine lv_iload_n hx hb d_LM_count_4 rfl (lv_at hl 1 rfl) ?_
    refine lv_bipush (v := 11) hx hb d_LM_count_5 (by decide) ?_
    refine lv_icmp_le (tgt := 12) hx hb d_LM_count_7 (by decide) (fun c_7 => absurd c_7 (g.resolve_left c_1)) (fun c_7 => ?_)
    refine lv_iconst (v := (-1)) hx hb d_LM_count_10 (by decide) ?_
    have hP9 := hP.sub (ws' := [(h0, .inr (0, [.int h0_tapeLength, .int 0, .ref oc, .ref oh, .ref om, .ref os, .ref ob]))]) [0] rfl
    have hD9 := hD.sub (ws' := [(h0, .inr (0, [.int h0_tapeLength, .int 0, .ref oc, .ref oh, .ref om, .ref os, .ref ob]))]) [0] (by decide) rfl
    have hK9 := hK.sub (tys' := []) [] rfl
    refine W.widen (k := 0) (n := 0) (Nat.le_of_ble_eq_true rfl) (Nat.le_of_ble_eq_true rfl) ?_
    exact W.iret (v := (-1)) hx hb hr (fun t ht hW => ⟨⟨(-1), (), rfl, rfl, by rw [ht]; exact hP9, va_K.moved hW.alike hK9, hD9⟩, hS.F ht⟩) hS.2.2 d_LM_count_11

set_option maxHeartbeats 4000000 in
set_option maxRecDepth 100000 in
theorem c_LM_count_0 (l : Launch) (dC : Nat → ClassId) (dI : Nat → Nat → Nat) (h0 : Nat) (oc : Nat) (oh : Nat) (om : Nat) (os : Nat) (ob : Nat) (h0_tapeLength : Int32) (n : Int32) (sz : Nat) (g : n = 0) : Met l y_LM_count w_LM_count ({ frames := 0, cells := 0, slots := 0, locals := 0 }) (va_Pc [.ref h0, .int n] (fun U => U.heap.size = sz ∧ va_P (dC, dI) vwCl [(h0, .inr (0, [.int h0_tapeLength, .int 0, .ref oc, .ref oh, .ref om, .ref os, .ref ob]))] U.heap ∧ va_K (dC, dI) vwCl [] U ∧ va_D (fun _ => True) [(h0, .inr (0, [.int h0_tapeLength, .int 0, .ref oc, .ref oh, .ref om, .ref os, .ref ob]))] ∧ xB U ∧ xZ (va_A [(h0, .inr (0, [.int h0_tapeLength, .int 0, .ref oc, .ref oh, .ref om, .ref os, .ref ob]))] sz) U U.heap)) (va_Qi (fun (r : Int32) (_ : Unit) => r = h0_tapeLength) (fun _ t => va_P (dC, dI) vwCl [(h0, .inr (0, [.int h0_tapeLength, .int 0, .ref oc, .ref oh, .ref om, .ref os, .ref ob]))] t.heap ∧ va_K (dC, dI) vwCl [] t ∧ va_D (va_A [(h0, .inr (0, [.int h0_tapeLength, .int 0, .ref oc, .ref oh, .ref om, .ref os, .ref ob]))] sz) [(h0, .inr (0, [.int h0_tapeLength, .int 0, .ref oc, .ref oh, .ref om, .ref os, .ref ob]))]) (va_A [(h0, .inr (0, [.int h0_tapeLength, .int 0, .ref oc, .ref oh, .ref om, .ref os, .ref ob]))] sz)) 0 0 (va_A [(h0, .inr (0, [.int h0_tapeLength, .int 0, .ref oc, .ref oh, .ref om, .ref os, .ref ob]))] sz) := by
  refine Met.ofW (cc := b_LM_count) (maxL := 2) (ret := (some .int)) (by decide) rfl ?_
  intro p e s m args below meth c s₁ B hml hv
  obtain ⟨rfl, hsz, hP, hK, hD0, hB, hZ⟩ := hv
  have hx := B.exec
  have hb := B.bytes
  have hr := B.returns
  have hts := atoms_spec (ws := w_LM_count) B.pre
  have hown : s.vm.findClass R_LM = some m.cls := findClass_of_methodNamed B.named
  have hlocks := B.notSynchronized
  subst hsz
  have hD := hD0.self (sz := s.heap.size)
  generalize hAe : va_A [(h0, .inr (0, [.int h0_tapeLength, .int 0, .ref oc, .ref oh, .ref om, .ref os, .ref ob]))] s.heap.size = A at hD hZ ⊢
  have hA : ∀ q : Nat, s.heap.size ≤ q → A q := fun q h => by rw [← hAe]; exact Or.inr h
  have hS : va_S A s.heap s.heap [] := va_S.rf
  have hl := lv_entry ([.ref h0, .int n]) (n := 2) (Nat.le_of_ble_eq_true rfl)
  rw [lg_entry_eq]
  generalize (lg_sl ([.ref h0, .int n]) ++ List.replicate (2 - (lg_sl ([.ref h0, .int n])).length) Slot.unset).toArray = ls at hl ⊢
  have hl : lv_has ls 2 [(0, .ref h0), (1, .int n)] := hl
  have hP : va_P (dC, dI) vwCl [(h0, .inr (0, [.int h0_tapeLength, .int 0, .ref oc, .ref oh, .ref om, .ref os, .ref ob]))] s.heap := hP
  have hD : va_D A [(h0, .inr (0, [.int h0_tapeLength, .int 0, .ref oc, .ref oh, .ref om, .ref os, .ref ob]))] := hD
  refine lv_iload_n hx hb d_LM_count_0 rfl (lv_at hl 1 rfl) ?_
  refine lv_if_lt (tgt := 10) hx hb d_LM_count_1 (by decide) (fun c_1 => absurd c_1 (by rw [g]; decide)) (fun c_1 => ?_)
  refine lv_iload_n hx hb d_LM_count_4 rfl (lv_at hl 1 rfl) ?_
  refine lv_bipush (v := 11) hx hb d_LM_count_5 (by decide) ?_
  refine lv_icmp_le (tgt := 12) hx hb d_LM_count_7 (by decide) (fun c_7 => ?_) (fun c_7 => absurd (by rw [g]; decide) c_7)
  refine lv_iload_n hx hb d_LM_count_12 rfl (lv_at hl 1 rfl) ?_
  refine lv_if_ne (tgt := 21) hx hb d_LM_count_13 (by decide) (fun c_13 => absurd g c_13) (fun c_13 => ?_)
  refine lv_aload_n hx hb d_LM_count_16 rfl (lv_at hl 0 rfl) ?_
  refine va_get (D := (dC, dI)) (ci := 0) (v := .int h0_tapeLength) (C := R_LM) (T := TLM) (N := 7) hx hb hts (fun w h => List.mem_cons_of_mem _ (ic_LM w h)) hown hK hP 0 rfl rfl 0 (by decide) (hts (.fieldLink R_LM 58 "LuaMachine" "tapeLength" "I") (List.mem_cons_of_mem _ kw_117)) (fun _ h9 => h9) rfl d_LM_count_17 ?_
  have hP9 := hP.sub (ws' := [(h0, .inr (0, [.int h0_tapeLength, .int 0, .ref oc, .ref oh, .ref om, .ref os, .ref ob]))]) [0] rfl
  have hD9 := hD.sub (ws' := [(h0, .inr (0, [.int h0_tapeLength, .int 0, .ref oc, .ref oh, .ref om, .ref os, .ref ob]))]) [0] (by decide) rfl
  have hK9 := hK.sub (tys' := []) [] rfl
  refine W.widen (k := 0) (n := 0) (Nat.le_of_ble_eq_true rfl) (Nat.le_of_ble_eq_true rfl) ?_
  exact W.iret (v := h0_tapeLength) hx hb hr (fun t ht hW => ⟨⟨h0_tapeLength, (), rfl, rfl, by rw [ht]; exact hP9, va_K.moved hW.alike hK9, hD9⟩, hS.F ht⟩) hS.2.2 d_LM_count_20

set_option maxHeartbeats 4000000 in
set_option maxRecDepth 100000 in
theorem c_LM_count_not (l : Launch) (dC : Nat → ClassId) (dI : Nat → Nat → Nat) (h0 : Nat) (oc : Nat) (oh : Nat) (om : Nat) (os : Nat) (ob : Nat) (h0_tapeLength : Int32) (n : Int32) (sz : Nat) (g1 : ¬ n < 0) (g2 : n ≤ 11) (g3 : ¬ n = 0) : Met l y_LM_count w_LM_count ({ frames := 0, cells := 0, slots := 0, locals := 0 }) (va_Pc [.ref h0, .int n] (fun U => U.heap.size = sz ∧ va_P (dC, dI) vwCl [(h0, .inr (0, [.int h0_tapeLength, .int 0, .ref oc, .ref oh, .ref om, .ref os, .ref ob]))] U.heap ∧ va_K (dC, dI) vwCl [] U ∧ va_D (fun _ => True) [(h0, .inr (0, [.int h0_tapeLength, .int 0, .ref oc, .ref oh, .ref om, .ref os, .ref ob]))] ∧ xB U ∧ xZ (va_A [(h0, .inr (0, [.int h0_tapeLength, .int 0, .ref oc, .ref oh, .ref om, .ref os, .ref ob]))] sz) U U.heap)) (va_Qi (fun (r : Int32) (_ : Unit) => r = 0) (fun _ t => va_P (dC, dI) vwCl [(h0, .inr (0, [.int h0_tapeLength, .int 0, .ref oc, .ref oh, .ref om, .ref os, .ref ob]))] t.heap ∧ va_K (dC, dI) vwCl [] t ∧ va_D (va_A [(h0, .inr (0, [.int h0_tapeLength, .int 0, .ref oc, .ref oh, .ref om, .ref os, .ref ob]))] sz) [(h0, .inr (0, [.int h0_tapeLength, .int 0, .ref oc, .ref oh, .ref om, .ref os, .ref ob]))]) (va_A [(h0, .inr (0, [.int h0_tapeLength, .int 0, .ref oc, .ref oh, .ref om, .ref os, .ref ob]))] sz)) 0 0 (va_A [(h0, .inr (0, [.int h0_tapeLength, .int 0, .ref oc, .ref oh, .ref om, .ref os, .ref ob]))] sz) := by
  refine Met.ofW (cc := b_LM_count) (maxL := 2) (ret := (some .int)) (by decide) rfl ?_
  intro p e s m args below meth c s₁ B hml hv
  obtain ⟨rfl, hsz, hP, hK, hD0, hB, hZ⟩ := hv
  have hx := B.exec
  have hb := B.bytes
  have hr := B.returns
  have hts := atoms_spec (ws := w_LM_count) B.pre
  have hown : s.vm.findClass R_LM = some m.cls := findClass_of_methodNamed B.named
  have hlocks := B.notSynchronized
  subst hsz
  have hD := hD0.self (sz := s.heap.size)
  generalize hAe : va_A [(h0, .inr (0, [.int h0_tapeLength, .int 0, .ref oc, .ref oh, .ref om, .ref os, .ref ob]))] s.heap.size = A at hD hZ ⊢
  have hA : ∀ q : Nat, s.heap.size ≤ q → A q := fun q h => by rw [← hAe]; exact Or.inr h
  have hS : va_S A s.heap s.heap [] := va_S.rf
  have hl := lv_entry ([.ref h0, .int n]) (n := 2) (Nat.le_of_ble_eq_true rfl)
  rw [lg_entry_eq]
  generalize (lg_sl ([.ref h0, .int n]) ++ List.replicate (2 - (lg_sl ([.ref h0, .int n])).length) Slot.unset).toArray = ls at hl ⊢
  have hl : lv_has ls 2 [(0, .ref h0), (1, .int n)] := hl
  have hP : va_P (dC, dI) vwCl [(h0, .inr (0, [.int h0_tapeLength, .int 0, .ref oc, .ref oh, .ref om, .ref os, .ref ob]))] s.heap := hP
  have hD : va_D A [(h0, .inr (0, [.int h0_tapeLength, .int 0, .ref oc, .ref oh, .ref om, .ref os, .ref ob]))] := hD
  refine lv_iload_n hx hb d_LM_count_0 rfl (lv_at hl 1 rfl) ?_
  refine lv_if_lt (tgt := 10) hx hb d_LM_count_1 (by decide) (fun c_1 => absurd c_1 g1) (fun c_1 => ?_)
  refine lv_iload_n hx hb d_LM_count_4 rfl (lv_at hl 1 rfl) ?_
  refine lv_bipush (v := 11) hx hb d_LM_count_5 (by decide) ?_
  refine lv_icmp_le (tgt := 12) hx hb d_LM_count_7 (by decide) (fun c_7 => ?_) (fun c_7 => absurd g2 c_7)
  refine lv_iload_n hx hb d_LM_count_12 rfl (lv_at hl 1 rfl) ?_
  refine lv_if_ne (tgt := 21) hx hb d_LM_count_13 (by decide) (fun c_13 => ?_) (fun c_13 => absurd c_13 g3)
  refine lv_aload_n hx hb d_LM_count_21 rfl (lv_at hl 0 rfl) ?_
  refine va_get (D := (dC, dI)) (ci := 0) (v := .int 0) (C := R_LM) (T := TLM) (N := 7) hx hb hts (fun w h => List.mem_cons_of_mem _ (ic_LM w h)) hown hK hP 0 rfl rfl 1 (by decide) (hts (.fieldLink R_LM 77 "LuaMachine" "loaded" "Z") (List.mem_cons_of_mem _ kw_131)) (fun _ h9 => h9) rfl d_LM_count_22 ?_
  refine lv_if_ne (tgt := 30) hx hb d_LM_count_25 (by decide) (fun c_25 => absurd (by decide) c_25) (fun c_25 => ?_)
  refine lv_iconst (v := 0) hx hb d_LM_count_28 (by decide) ?_
  have hP9 := hP.sub (ws' := [(h0, .inr (0, [.int h0_tapeLength, .int 0, .ref oc, .ref oh, .ref om, .ref os, .ref ob]))]) [0] rfl
  have hD9 := hD.sub (ws' := [(h0, .inr (0, [.int h0_tapeLength, .int 0, .ref oc, .ref oh, .ref om, .ref os, .ref ob]))]) [0] (by decide) rfl
  have hK9 := hK.sub (tys' := []) [] rfl
  refine W.widen (k := 0) (n := 0) (Nat.le_of_ble_eq_true rfl) (Nat.le_of_ble_eq_true rfl) ?_
  exact W.iret (v := 0) hx hb hr (fun t ht hW => ⟨⟨0, (), rfl, rfl, by rw [ht]; exact hP9, va_K.moved hW.alike hK9, hD9⟩, hS.F ht⟩) hS.2.2 d_LM_count_29

