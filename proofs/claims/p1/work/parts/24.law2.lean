abbrev b_law_run : ByteArray := method_8_code
def y_law_run : MethodName := ⟨R_law, "run", "(LLuaMachine;I[J)I"⟩
abbrev w_law_run : List Cond := .codeWith y_law_run b_law_run 4 (some .int) [(0, 9, 12, 19), (0, 9, 15, 13)] :: wA
theorem k_law_run : Cond.codeWith y_law_run b_law_run 4 (some .int) [(0, 9, 12, 19), (0, 9, 15, 13)] ∈ wA := kinm (show _ ∈ tables_1 from (List.mem_append_right _ (List.mem_append_right _ (List.mem_append_right _ (List.mem_append_right _ (List.mem_append_right _ (List.mem_append_right _ (List.mem_append_left _ (List.mem_of_getElem? (l := tables_1_7) (i := 13) (by decide +kernel)))))))))) (by decide +kernel)
theorem d_law_run_0 : decode b_law_run 0 = .ok (.aload_n 2, 1) := by decide +kernel
theorem d_law_run_1 : decode b_law_run 1 = .ok (.iconst 0, 1) := by decide +kernel
theorem d_law_run_2 : decode b_law_run 2 = .ok (.aload_n 0, 1) := by decide +kernel
theorem d_law_run_3 : decode b_law_run 3 = .ok (.iload_n 1, 1) := by decide +kernel
theorem d_law_run_4 : decode b_law_run 4 = .ok (.invokevirtual 33, 3) := by decide +kernel
theorem d_law_run_7 : decode b_law_run 7 = .ok (.i2l, 1) := by decide +kernel
theorem d_law_run_8 : decode b_law_run 8 = .ok (.lastore, 1) := by decide +kernel
theorem d_law_run_9 : decode b_law_run 9 = .ok (.goto 9, 3) := by decide +kernel
theorem d_law_run_12 : decode b_law_run 12 = .ok (.astore_n 3, 1) := by decide +kernel
theorem d_law_run_13 : decode b_law_run 13 = .ok (.iconst 1, 1) := by decide +kernel
theorem d_law_run_14 : decode b_law_run 14 = .ok (.ireturn, 1) := by decide +kernel
theorem d_law_run_15 : decode b_law_run 15 = .ok (.astore_n 3, 1) := by decide +kernel
theorem d_law_run_16 : decode b_law_run 16 = .ok (.iconst 2, 1) := by decide +kernel
theorem d_law_run_17 : decode b_law_run 17 = .ok (.ireturn, 1) := by decide +kernel
theorem d_law_run_18 : decode b_law_run 18 = .ok (.iconst 0, 1) := by decide +kernel
theorem d_law_run_19 : decode b_law_run 19 = .ok (.ireturn, 1) := by decide +kernel
theorem kw_267 : Cond.methodLink R_law 33 y_LM_run ∈ wA := kinm (show _ ∈ tables_1 from (List.mem_append_right _ (List.mem_append_right _ (List.mem_append_right _ (List.mem_append_right _ (List.mem_append_right _ (List.mem_append_right _ (List.mem_append_left _ (List.mem_of_getElem? (l := tables_1_7) (i := 14) (by decide +kernel)))))))))) (by decide +kernel)
theorem kw_268 : Cond.instanceMethod y_LM_run ∈ wA := kinm (show _ ∈ tables_1 from (List.mem_append_right _ (List.mem_append_right _ (List.mem_append_right _ (List.mem_append_right _ (List.mem_append_right _ (List.mem_append_right _ (List.mem_append_left _ (List.mem_of_getElem? (l := tables_1_7) (i := 15) (by decide +kernel)))))))))) (by decide +kernel)
theorem kw_269 : Cond.selects R_LM y_LM_run y_LM_run ∈ wA := kinm (show _ ∈ tables_1 from (List.mem_append_right _ (List.mem_append_right _ (List.mem_append_right _ (List.mem_append_right _ (List.mem_append_right _ (List.mem_append_right _ (List.mem_append_left _ (List.mem_of_getElem? (l := tables_1_7) (i := 16) (by decide +kernel)))))))))) (by decide +kernel)
theorem kw_270 : Cond.classLink R_law 13 "java/lang/IllegalStateException" ∈ wA := kinm (show _ ∈ tables_1 from (List.mem_append_right _ (List.mem_append_left _ (List.mem_of_getElem? (l := tables_1_2) (i := 239) (by decide +kernel))))) (by decide +kernel)
theorem nwc_IllegalStateException : Cond.castable "java/lang/IllegalStateException" "java/lang/IllegalStateException" ∈ xW := xinm (show _ ∈ tables_1 from (List.mem_append_right _ (List.mem_append_right _ (List.mem_append_left _ (List.mem_of_getElem? (l := tables_1_3) (i := 7) (by decide +kernel)))))) (by decide +kernel)
abbrev b_law_collect : ByteArray := method_9_code
def y_law_collect : MethodName := ⟨R_law, "collect", "(LLuaMachine;[J)I"⟩
abbrev w_law_collect : List Cond := .codeWith y_law_collect b_law_collect 3 (some .int) [(0, 8, 11, 13)] :: wA
theorem k_law_collect : Cond.codeWith y_law_collect b_law_collect 3 (some .int) [(0, 8, 11, 13)] ∈ wA := kinm (show _ ∈ tables_1 from (List.mem_append_right _ (List.mem_append_right _ (List.mem_append_right _ (List.mem_append_right _ (List.mem_append_right _ (List.mem_append_right _ (List.mem_append_right _ (List.mem_append_right _ (List.mem_append_left _ (List.mem_of_getElem? (l := tables_1_9) (i := 54) (by decide +kernel)))))))))))) (by decide +kernel)
theorem d_law_collect_0 : decode b_law_collect 0 = .ok (.aload_n 1, 1) := by decide +kernel
theorem d_law_collect_1 : decode b_law_collect 1 = .ok (.iconst 0, 1) := by decide +kernel
theorem d_law_collect_2 : decode b_law_collect 2 = .ok (.aload_n 0, 1) := by decide +kernel
theorem d_law_collect_3 : decode b_law_collect 3 = .ok (.invokevirtual 36, 3) := by decide +kernel
theorem d_law_collect_6 : decode b_law_collect 6 = .ok (.i2l, 1) := by decide +kernel
theorem d_law_collect_7 : decode b_law_collect 7 = .ok (.lastore, 1) := by decide +kernel
theorem d_law_collect_8 : decode b_law_collect 8 = .ok (.goto 6, 3) := by decide +kernel
theorem d_law_collect_11 : decode b_law_collect 11 = .ok (.astore_n 2, 1) := by decide +kernel
theorem d_law_collect_12 : decode b_law_collect 12 = .ok (.iconst 1, 1) := by decide +kernel
theorem d_law_collect_13 : decode b_law_collect 13 = .ok (.ireturn, 1) := by decide +kernel
theorem d_law_collect_14 : decode b_law_collect 14 = .ok (.iconst 0, 1) := by decide +kernel
theorem d_law_collect_15 : decode b_law_collect 15 = .ok (.ireturn, 1) := by decide +kernel
theorem kw_272 : Cond.methodLink R_law 36 y_LM_collect ∈ wA := kinm (show _ ∈ tables_1 from (List.mem_append_right _ (List.mem_append_right _ (List.mem_append_right _ (List.mem_append_right _ (List.mem_append_right _ (List.mem_append_right _ (List.mem_append_right _ (List.mem_append_right _ (List.mem_append_left _ (List.mem_of_getElem? (l := tables_1_9) (i := 55) (by decide +kernel)))))))))))) (by decide +kernel)
theorem kw_273 : Cond.instanceMethod y_LM_collect ∈ wA := kinm (show _ ∈ tables_1 from (List.mem_append_right _ (List.mem_append_right _ (List.mem_append_right _ (List.mem_append_right _ (List.mem_append_right _ (List.mem_append_right _ (List.mem_append_right _ (List.mem_append_right _ (List.mem_append_left _ (List.mem_of_getElem? (l := tables_1_9) (i := 56) (by decide +kernel)))))))))))) (by decide +kernel)
theorem kw_274 : Cond.selects R_LM y_LM_collect y_LM_collect ∈ wA := kinm (show _ ∈ tables_1 from (List.mem_append_right _ (List.mem_append_right _ (List.mem_append_right _ (List.mem_append_right _ (List.mem_append_right _ (List.mem_append_right _ (List.mem_append_right _ (List.mem_append_right _ (List.mem_append_left _ (List.mem_of_getElem? (l := tables_1_9) (i := 57) (by decide +kernel)))))))))))) (by decide +kernel)
abbrev b_law_kind : ByteArray := method_10_code
def y_law_kind : MethodName := ⟨R_law, "kind", "(LLuaMachine;I[J)I"⟩
abbrev w_law_kind : List Cond := .codeWith y_law_kind b_law_kind 4 (some .int) [(0, 9, 12, 42)] :: wA
theorem k_law_kind : Cond.codeWith y_law_kind b_law_kind 4 (some .int) [(0, 9, 12, 42)] ∈ wA := kinm (show _ ∈ tables_1 from (List.mem_append_right _ (List.mem_append_right _ (List.mem_append_right _ (List.mem_append_right _ (List.mem_append_right _ (List.mem_append_right _ (List.mem_append_right _ (List.mem_append_right _ (List.mem_append_left _ (List.mem_of_getElem? (l := tables_1_9) (i := 62) (by decide +kernel)))))))))))) (by decide +kernel)
theorem d_law_kind_0 : decode b_law_kind 0 = .ok (.aload_n 2, 1) := by decide +kernel
theorem d_law_kind_1 : decode b_law_kind 1 = .ok (.iconst 0, 1) := by decide +kernel
theorem d_law_kind_2 : decode b_law_kind 2 = .ok (.aload_n 0, 1) := by decide +kernel
theorem d_law_kind_3 : decode b_law_kind 3 = .ok (.iload_n 1, 1) := by decide +kernel
theorem d_law_kind_4 : decode b_law_kind 4 = .ok (.invokevirtual 39, 3) := by decide +kernel
theorem d_law_kind_7 : decode b_law_kind 7 = .ok (.i2l, 1) := by decide +kernel
theorem d_law_kind_8 : decode b_law_kind 8 = .ok (.lastore, 1) := by decide +kernel
theorem d_law_kind_9 : decode b_law_kind 9 = .ok (.goto 6, 3) := by decide +kernel
theorem d_law_kind_12 : decode b_law_kind 12 = .ok (.astore_n 3, 1) := by decide +kernel
theorem d_law_kind_13 : decode b_law_kind 13 = .ok (.iconst 1, 1) := by decide +kernel
theorem d_law_kind_14 : decode b_law_kind 14 = .ok (.ireturn, 1) := by decide +kernel
theorem d_law_kind_15 : decode b_law_kind 15 = .ok (.iconst 0, 1) := by decide +kernel
theorem d_law_kind_16 : decode b_law_kind 16 = .ok (.ireturn, 1) := by decide +kernel
theorem kw_275 : Cond.methodLink R_law 39 y_LM_kind ∈ wA := kinm (show _ ∈ tables_1 from (List.mem_append_right _ (List.mem_append_right _ (List.mem_append_right _ (List.mem_append_right _ (List.mem_append_right _ (List.mem_append_right _ (List.mem_append_right _ (List.mem_append_right _ (List.mem_append_left _ (List.mem_of_getElem? (l := tables_1_9) (i := 64) (by decide +kernel)))))))))))) (by decide +kernel)
theorem kw_276 : Cond.instanceMethod y_LM_kind ∈ wA := kinm (show _ ∈ tables_1 from (List.mem_append_right _ (List.mem_append_right _ (List.mem_append_right _ (List.mem_append_right _ (List.mem_append_right _ (List.mem_append_right _ (List.mem_append_right _ (List.mem_append_right _ (List.mem_append_left _ (List.mem_of_getElem? (l := tables_1_9) (i := 65) (by decide +kernel)))))))))))) (by decide +kernel)
theorem kw_277 : Cond.selects R_LM y_LM_kind y_LM_kind ∈ wA := kinm (show _ ∈ tables_1 from (List.mem_append_right _ (List.mem_append_right _ (List.mem_append_right _ (List.mem_append_right _ (List.mem_append_right _ (List.mem_append_right _ (List.mem_append_right _ (List.mem_append_right _ (List.mem_append_left _ (List.mem_of_getElem? (l := tables_1_9) (i := 66) (by decide +kernel)))))))))))) (by decide +kernel)
theorem kw_278 : Cond.classLink R_law 42 "java/lang/IndexOutOfBoundsException" ∈ wA := kinm (show _ ∈ tables_1 from (List.mem_append_right _ (List.mem_append_right _ (List.mem_append_right _ (List.mem_append_right _ (List.mem_append_right _ (List.mem_append_right _ (List.mem_append_right _ (List.mem_append_right _ (List.mem_append_left _ (List.mem_of_getElem? (l := tables_1_9) (i := 63) (by decide +kernel)))))))))))) (by decide +kernel)
theorem nwc_IndexOutOfBoundsException : Cond.castable "java/lang/IndexOutOfBoundsException" "java/lang/IndexOutOfBoundsException" ∈ xW := xinm (show _ ∈ tables_1 from (List.mem_append_right _ (List.mem_append_right _ (List.mem_append_right _ (List.mem_append_right _ (List.mem_append_right _ (List.mem_append_right _ (List.mem_append_right _ (List.mem_append_right _ (List.mem_append_left _ (List.mem_of_getElem? (l := tables_1_9) (i := 74) (by decide +kernel)))))))))))) (by decide +kernel)
abbrev b_law_value : ByteArray := method_11_code
def y_law_value : MethodName := ⟨R_law, "value", "(LLuaMachine;I[J)I"⟩
abbrev w_law_value : List Cond := .codeWith y_law_value b_law_value 4 (some .int) [(0, 8, 11, 42)] :: wA
theorem k_law_value : Cond.codeWith y_law_value b_law_value 4 (some .int) [(0, 8, 11, 42)] ∈ wA := kinm (show _ ∈ tables_1 from (List.mem_append_right _ (List.mem_append_right _ (List.mem_append_right _ (List.mem_append_right _ (List.mem_append_right _ (List.mem_append_right _ (List.mem_append_right _ (List.mem_append_right _ (List.mem_append_left _ (List.mem_of_getElem? (l := tables_1_9) (i := 89) (by decide +kernel)))))))))))) (by decide +kernel)
theorem d_law_value_0 : decode b_law_value 0 = .ok (.aload_n 2, 1) := by decide +kernel
theorem d_law_value_1 : decode b_law_value 1 = .ok (.iconst 0, 1) := by decide +kernel
theorem d_law_value_2 : decode b_law_value 2 = .ok (.aload_n 0, 1) := by decide +kernel
theorem d_law_value_3 : decode b_law_value 3 = .ok (.iload_n 1, 1) := by decide +kernel
theorem d_law_value_4 : decode b_law_value 4 = .ok (.invokevirtual 44, 3) := by decide +kernel
theorem d_law_value_7 : decode b_law_value 7 = .ok (.lastore, 1) := by decide +kernel
theorem d_law_value_8 : decode b_law_value 8 = .ok (.goto 6, 3) := by decide +kernel
theorem d_law_value_11 : decode b_law_value 11 = .ok (.astore_n 3, 1) := by decide +kernel
theorem d_law_value_12 : decode b_law_value 12 = .ok (.iconst 1, 1) := by decide +kernel
theorem d_law_value_13 : decode b_law_value 13 = .ok (.ireturn, 1) := by decide +kernel
theorem d_law_value_14 : decode b_law_value 14 = .ok (.iconst 0, 1) := by decide +kernel
theorem d_law_value_15 : decode b_law_value 15 = .ok (.ireturn, 1) := by decide +kernel
theorem kw_280 : Cond.methodLink R_law 44 y_LM_value ∈ wA := kinm (show _ ∈ tables_1 from (List.mem_append_right _ (List.mem_append_right _ (List.mem_append_right _ (List.mem_append_right _ (List.mem_append_right _ (List.mem_append_right _ (List.mem_append_right _ (List.mem_append_right _ (List.mem_append_left _ (List.mem_of_getElem? (l := tables_1_9) (i := 90) (by decide +kernel)))))))))))) (by decide +kernel)
theorem kw_281 : Cond.instanceMethod y_LM_value ∈ wA := kinm (show _ ∈ tables_1 from (List.mem_append_right _ (List.mem_append_right _ (List.mem_append_right _ (List.mem_append_right _ (List.mem_append_right _ (List.mem_append_right _ (List.mem_append_right _ (List.mem_append_right _ (List.mem_append_left _ (List.mem_of_getElem? (l := tables_1_9) (i := 91) (by decide +kernel)))))))))))) (by decide +kernel)
theorem kw_282 : Cond.selects R_LM y_LM_value y_LM_value ∈ wA := kinm (show _ ∈ tables_1 from (List.mem_append_right _ (List.mem_append_right _ (List.mem_append_right _ (List.mem_append_right _ (List.mem_append_right _ (List.mem_append_right _ (List.mem_append_right _ (List.mem_append_right _ (List.mem_append_left _ (List.mem_of_getElem? (l := tables_1_9) (i := 92) (by decide +kernel)))))))))))) (by decide +kernel)
abbrev b_law_byteOf : ByteArray := method_12_code
def y_law_byteOf : MethodName := ⟨R_law, "byteOf", "(LLuaMachine;II[J)I"⟩
abbrev w_law_byteOf : List Cond := .codeWith y_law_byteOf b_law_byteOf 5 (some .int) [(0, 10, 13, 42), (0, 10, 17, 19)] :: wA
theorem k_law_byteOf : Cond.codeWith y_law_byteOf b_law_byteOf 5 (some .int) [(0, 10, 13, 42), (0, 10, 17, 19)] ∈ wA := kinm (show _ ∈ tables_1 from (List.mem_append_right _ (List.mem_append_right _ (List.mem_append_right _ (List.mem_append_right _ (List.mem_append_right _ (List.mem_append_right _ (List.mem_append_right _ (List.mem_append_right _ (List.mem_append_left _ (List.mem_of_getElem? (l := tables_1_9) (i := 97) (by decide +kernel)))))))))))) (by decide +kernel)
theorem d_law_byteOf_0 : decode b_law_byteOf 0 = .ok (.aload_n 3, 1) := by decide +kernel
theorem d_law_byteOf_1 : decode b_law_byteOf 1 = .ok (.iconst 0, 1) := by decide +kernel
theorem d_law_byteOf_2 : decode b_law_byteOf 2 = .ok (.aload_n 0, 1) := by decide +kernel
theorem d_law_byteOf_3 : decode b_law_byteOf 3 = .ok (.iload_n 1, 1) := by decide +kernel
theorem d_law_byteOf_4 : decode b_law_byteOf 4 = .ok (.iload_n 2, 1) := by decide +kernel
theorem d_law_byteOf_5 : decode b_law_byteOf 5 = .ok (.invokevirtual 48, 3) := by decide +kernel
theorem d_law_byteOf_8 : decode b_law_byteOf 8 = .ok (.i2l, 1) := by decide +kernel
theorem d_law_byteOf_9 : decode b_law_byteOf 9 = .ok (.lastore, 1) := by decide +kernel
theorem d_law_byteOf_10 : decode b_law_byteOf 10 = .ok (.goto 11, 3) := by decide +kernel
theorem d_law_byteOf_13 : decode b_law_byteOf 13 = .ok (.astore 4, 2) := by decide +kernel
theorem d_law_byteOf_15 : decode b_law_byteOf 15 = .ok (.iconst 1, 1) := by decide +kernel
theorem d_law_byteOf_16 : decode b_law_byteOf 16 = .ok (.ireturn, 1) := by decide +kernel
theorem d_law_byteOf_17 : decode b_law_byteOf 17 = .ok (.astore 4, 2) := by decide +kernel
theorem d_law_byteOf_19 : decode b_law_byteOf 19 = .ok (.iconst 2, 1) := by decide +kernel
theorem d_law_byteOf_20 : decode b_law_byteOf 20 = .ok (.ireturn, 1) := by decide +kernel
theorem d_law_byteOf_21 : decode b_law_byteOf 21 = .ok (.iconst 0, 1) := by decide +kernel
theorem d_law_byteOf_22 : decode b_law_byteOf 22 = .ok (.ireturn, 1) := by decide +kernel
theorem kw_283 : Cond.methodLink R_law 48 y_LM_byteOf ∈ wA := kinm (show _ ∈ tables_1 from (List.mem_append_right _ (List.mem_append_right _ (List.mem_append_right _ (List.mem_append_right _ (List.mem_append_right _ (List.mem_append_right _ (List.mem_append_right _ (List.mem_append_right _ (List.mem_append_left _ (List.mem_of_getElem? (l := tables_1_9) (i := 98) (by decide +kernel)))))))))))) (by decide +kernel)
theorem kw_284 : Cond.instanceMethod y_LM_byteOf ∈ wA := kinm (show _ ∈ tables_1 from (List.mem_append_right _ (List.mem_append_right _ (List.mem_append_right _ (List.mem_append_right _ (List.mem_append_right _ (List.mem_append_right _ (List.mem_append_right _ (List.mem_append_right _ (List.mem_append_left _ (List.mem_of_getElem? (l := tables_1_9) (i := 99) (by decide +kernel)))))))))))) (by decide +kernel)
theorem kw_285 : Cond.selects R_LM y_LM_byteOf y_LM_byteOf ∈ wA := kinm (show _ ∈ tables_1 from (List.mem_append_right _ (List.mem_append_right _ (List.mem_append_right _ (List.mem_append_right _ (List.mem_append_right _ (List.mem_append_right _ (List.mem_append_right _ (List.mem_append_right _ (List.mem_append_left _ (List.mem_of_getElem? (l := tables_1_9) (i := 100) (by decide +kernel)))))))))))) (by decide +kernel)
abbrev b_law_output : ByteArray := method_13_code
def y_law_output : MethodName := ⟨R_law, "output", "(LLuaMachine;I[J)I"⟩
abbrev w_law_output : List Cond := .codeWith y_law_output b_law_output 4 (some .int) [(0, 9, 12, 42)] :: wA
theorem k_law_output : Cond.codeWith y_law_output b_law_output 4 (some .int) [(0, 9, 12, 42)] ∈ wA := kinm (show _ ∈ tables_1 from (List.mem_append_right _ (List.mem_append_right _ (List.mem_append_right _ (List.mem_append_right _ (List.mem_append_right _ (List.mem_append_right _ (List.mem_append_right _ (List.mem_append_right _ (List.mem_append_left _ (List.mem_of_getElem? (l := tables_1_9) (i := 104) (by decide +kernel)))))))))))) (by decide +kernel)
theorem d_law_output_0 : decode b_law_output 0 = .ok (.aload_n 2, 1) := by decide +kernel
theorem d_law_output_1 : decode b_law_output 1 = .ok (.iconst 0, 1) := by decide +kernel
theorem d_law_output_2 : decode b_law_output 2 = .ok (.aload_n 0, 1) := by decide +kernel
theorem d_law_output_3 : decode b_law_output 3 = .ok (.iload_n 1, 1) := by decide +kernel
theorem d_law_output_4 : decode b_law_output 4 = .ok (.invokevirtual 52, 3) := by decide +kernel
theorem d_law_output_7 : decode b_law_output 7 = .ok (.i2l, 1) := by decide +kernel
theorem d_law_output_8 : decode b_law_output 8 = .ok (.lastore, 1) := by decide +kernel
theorem d_law_output_9 : decode b_law_output 9 = .ok (.goto 6, 3) := by decide +kernel
theorem d_law_output_12 : decode b_law_output 12 = .ok (.astore_n 3, 1) := by decide +kernel
theorem d_law_output_13 : decode b_law_output 13 = .ok (.iconst 1, 1) := by decide +kernel
theorem d_law_output_14 : decode b_law_output 14 = .ok (.ireturn, 1) := by decide +kernel
theorem d_law_output_15 : decode b_law_output 15 = .ok (.iconst 0, 1) := by decide +kernel
theorem d_law_output_16 : decode b_law_output 16 = .ok (.ireturn, 1) := by decide +kernel
theorem kw_286 : Cond.methodLink R_law 52 y_LM_output ∈ wA := kinm (show _ ∈ tables_1 from (List.mem_append_right _ (List.mem_append_right _ (List.mem_append_right _ (List.mem_append_right _ (List.mem_append_right _ (List.mem_append_right _ (List.mem_append_right _ (List.mem_append_right _ (List.mem_append_left _ (List.mem_of_getElem? (l := tables_1_9) (i := 105) (by decide +kernel)))))))))))) (by decide +kernel)
theorem kw_287 : Cond.instanceMethod y_LM_output ∈ wA := kinm (show _ ∈ tables_1 from (List.mem_append_right _ (List.mem_append_right _ (List.mem_append_right _ (List.mem_append_right _ (List.mem_append_right _ (List.mem_append_right _ (List.mem_append_right _ (List.mem_append_right _ (List.mem_append_left _ (List.mem_of_getElem? (l := tables_1_9) (i := 106) (by decide +kernel)))))))))))) (by decide +kernel)
theorem kw_288 : Cond.selects R_LM y_LM_output y_LM_output ∈ wA := kinm (show _ ∈ tables_1 from (List.mem_append_right _ (List.mem_append_right _ (List.mem_append_right _ (List.mem_append_right _ (List.mem_append_right _ (List.mem_append_right _ (List.mem_append_right _ (List.mem_append_right _ (List.mem_append_left _ (List.mem_of_getElem? (l := tables_1_9) (i := 107) (by decide +kernel)))))))))))) (by decide +kernel)
abbrev b_law_load : ByteArray := method_5_code
def y_law_load : MethodName := ⟨R_law, "load", "(LLuaMachine;[J)I"⟩
abbrev w_law_load : List Cond := .codeWith y_law_load b_law_load 3 (some .int) [(0, 8, 11, 25), (0, 8, 14, 13)] :: wA
theorem k_law_load : Cond.codeWith y_law_load b_law_load 3 (some .int) [(0, 8, 11, 25), (0, 8, 14, 13)] ∈ wA := kinm (show _ ∈ tables_1 from (List.mem_append_right _ (List.mem_append_right _ (List.mem_append_left _ (List.mem_of_getElem? (l := tables_1_3) (i := 100) (by decide +kernel)))))) (by decide +kernel)
theorem d_law_load_0 : decode b_law_load 0 = .ok (.aload_n 1, 1) := by decide +kernel
theorem d_law_load_1 : decode b_law_load 1 = .ok (.iconst 0, 1) := by decide +kernel
theorem d_law_load_2 : decode b_law_load 2 = .ok (.aload_n 0, 1) := by decide +kernel
theorem d_law_load_3 : decode b_law_load 3 = .ok (.invokevirtual 21, 3) := by decide +kernel
theorem d_law_load_6 : decode b_law_load 6 = .ok (.i2l, 1) := by decide +kernel
theorem d_law_load_7 : decode b_law_load 7 = .ok (.lastore, 1) := by decide +kernel
theorem d_law_load_8 : decode b_law_load 8 = .ok (.goto 9, 3) := by decide +kernel
theorem d_law_load_11 : decode b_law_load 11 = .ok (.astore_n 2, 1) := by decide +kernel
theorem d_law_load_12 : decode b_law_load 12 = .ok (.iconst 1, 1) := by decide +kernel
theorem d_law_load_13 : decode b_law_load 13 = .ok (.ireturn, 1) := by decide +kernel
theorem d_law_load_14 : decode b_law_load 14 = .ok (.astore_n 2, 1) := by decide +kernel
theorem d_law_load_15 : decode b_law_load 15 = .ok (.iconst 2, 1) := by decide +kernel
theorem d_law_load_16 : decode b_law_load 16 = .ok (.ireturn, 1) := by decide +kernel
theorem d_law_load_17 : decode b_law_load 17 = .ok (.iconst 0, 1) := by decide +kernel
theorem d_law_load_18 : decode b_law_load 18 = .ok (.ireturn, 1) := by decide +kernel
theorem kw_289 : Cond.methodLink R_law 21 y_LM_load ∈ wA := kinm (show _ ∈ tables_1 from (List.mem_append_right _ (List.mem_append_right _ (List.mem_append_left _ (List.mem_of_getElem? (l := tables_1_3) (i := 102) (by decide +kernel)))))) (by decide +kernel)
theorem kw_290 : Cond.instanceMethod y_LM_load ∈ wA := kinm (show _ ∈ tables_1 from (List.mem_append_right _ (List.mem_append_right _ (List.mem_append_left _ (List.mem_of_getElem? (l := tables_1_3) (i := 103) (by decide +kernel)))))) (by decide +kernel)
theorem kw_291 : Cond.selects R_LM y_LM_load y_LM_load ∈ wA := kinm (show _ ∈ tables_1 from (List.mem_append_right _ (List.mem_append_right _ (List.mem_append_left _ (List.mem_of_getElem? (l := tables_1_3) (i := 104) (by decide +kernel)))))) (by decide +kernel)
theorem kw_292 : Cond.classLink R_law 25 "java/lang/UnsupportedOperationException" ∈ wA := kinm (show _ ∈ tables_1 from (List.mem_append_right _ (List.mem_append_right _ (List.mem_append_left _ (List.mem_of_getElem? (l := tables_1_3) (i := 101) (by decide +kernel)))))) (by decide +kernel)
theorem nwc_UnsupportedOperationException : Cond.castable "java/lang/UnsupportedOperationException" "java/lang/UnsupportedOperationException" ∈ xW := xinm (show _ ∈ tables_1 from (List.mem_append_right _ (List.mem_append_right _ (List.mem_append_right _ (List.mem_append_left _ (List.mem_of_getElem? (l := tables_1_4) (i := 57) (by decide +kernel))))))) (by decide +kernel)
set_option maxHeartbeats 4000000 in
set_option maxRecDepth 100000 in
theorem c_law_run_bad (l : Launch) (hst : l.stackTraces = false) (dC : Nat → ClassId) (dI : Nat → Nat → Nat) (h0 : Nat) (oc : Nat) (oh : Nat) (om : Nat) (os : Nat) (ob : Nat) (h0_tapeLength : Int32) (n : Int32) (oo : Nat) (ko : ClassId) (fo : Nat → Int64) (sz : Nat) (g : n < 1 ∨ ¬ n ≤ 100000) : Met l y_law_run w_law_run ({ frames := 7, cells := 1, slots := 6, locals := 104 }) (va_Pc [.ref h0, .int n, .ref oo] (fun U => U.heap.size = sz ∧ va_P (dC, dI) vwCl [(h0, .inr (0, [.int h0_tapeLength, .int 0, .ref oc, .ref oh, .ref om, .ref os, .ref ob])), (oo, .inl (ko, 1, .inr (.inl fo)))] U.heap ∧ va_K (dC, dI) vwCl [(ko, .long)] U ∧ va_D (fun _ => True) [(h0, .inr (0, [.int h0_tapeLength, .int 0, .ref oc, .ref oh, .ref om, .ref os, .ref ob])), (oo, .inl (ko, 1, .inr (.inl fo)))] ∧ xB U ∧ xZ (va_A [(h0, .inr (0, [.int h0_tapeLength, .int 0, .ref oc, .ref oh, .ref om, .ref os, .ref ob])), (oo, .inl (ko, 1, .inr (.inl fo)))] sz) U U.heap)) (va_Qi (fun (r : Int32) (_ : Unit) => r = 1) (fun _ t => va_P (dC, dI) vwCl [(oo, .inl (ko, 1, .inr (.inl fo)))] t.heap ∧ va_K (dC, dI) vwCl [(ko, .long)] t ∧ va_D (va_A [(h0, .inr (0, [.int h0_tapeLength, .int 0, .ref oc, .ref oh, .ref om, .ref os, .ref ob])), (oo, .inl (ko, 1, .inr (.inl fo)))] sz) [(oo, .inl (ko, 1, .inr (.inl fo)))]) (va_A [(h0, .inr (0, [.int h0_tapeLength, .int 0, .ref oc, .ref oh, .ref om, .ref os, .ref ob])), (oo, .inl (ko, 1, .inr (.inl fo)))] sz)) 1 6 (va_A [(h0, .inr (0, [.int h0_tapeLength, .int 0, .ref oc, .ref oh, .ref om, .ref os, .ref ob])), (oo, .inl (ko, 1, .inr (.inl fo)))] sz) := by
  refine va_MetW (cc := b_law_run) (maxL := 4) (ret := (some .int)) (hh := [(0, 9, 12, 19), (0, 9, 15, 13)]) (by decide) rfl ?_
  intro p e s m args below meth c s₁ B hml hv
  obtain ⟨rfl, hsz, hP, hK, hD0, hB, hZ⟩ := hv
  have hx := B.exec
  have hb := B.bytes
  have hr := B.returns
  have hts := atoms_spec (ws := w_law_run) B.pre
  have hown : s.vm.findClass R_law = some m.cls := findClass_of_methodNamed B.named
  have hlocks := B.notSynchronized
  have hTab := xtab B (hts (.codeWith y_law_run b_law_run 4 (some .int) [(0, 9, 12, 19), (0, 9, 15, 13)]) List.mem_cons_self)
  subst hsz
  have hD := hD0.self (sz := s.heap.size)
  generalize hAe : va_A [(h0, .inr (0, [.int h0_tapeLength, .int 0, .ref oc, .ref oh, .ref om, .ref os, .ref ob])), (oo, .inl (ko, 1, .inr (.inl fo)))] s.heap.size = A at hD hZ ⊢
  have hA : ∀ q : Nat, s.heap.size ≤ q → A q := fun q h => by rw [← hAe]; exact Or.inr h
  have hS : va_S A s.heap s.heap [] := va_S.rf
  have hl := lv_entry ([.ref h0, .int n, .ref oo]) (n := 4) (Nat.le_of_ble_eq_true rfl)
  rw [lg_entry_eq]
  generalize (lg_sl ([.ref h0, .int n, .ref oo]) ++ List.replicate (4 - (lg_sl ([.ref h0, .int n, .ref oo])).length) Slot.unset).toArray = ls at hl ⊢
  have hl : lv_has ls 4 [(0, .ref h0), (1, .int n), (2, .ref oo)] := hl
  have hP : va_P (dC, dI) vwCl [(h0, .inr (0, [.int h0_tapeLength, .int 0, .ref oc, .ref oh, .ref om, .ref os, .ref ob])), (oo, .inl (ko, 1, .inr (.inl fo)))] s.heap := hP
  have hD : va_D A [(h0, .inr (0, [.int h0_tapeLength, .int 0, .ref oc, .ref oh, .ref om, .ref os, .ref ob])), (oo, .inl (ko, 1, .inr (.inl fo)))] := hD
  refine lv_aload_n hx hb d_law_run_0 rfl (lv_at hl 2 rfl) ?_
  refine lv_iconst (v := 0) hx hb d_law_run_1 (by decide) ?_
  refine lv_aload_n hx hb d_law_run_2 rfl (lv_at hl 0 rfl) ?_
  refine lv_iload_n hx hb d_law_run_3 rfl (lv_at hl 1 rfl) ?_
  have hPc := hP.sub (ws' := [(h0, .inr (0, [.int h0_tapeLength, .int 0, .ref oc, .ref oh, .ref om, .ref os, .ref ob]))]) [0] rfl
  have hDc := hD.sub (ws' := [(h0, .inr (0, [.int h0_tapeLength, .int 0, .ref oc, .ref oh, .ref om, .ref os, .ref ob]))]) [0] (by decide) rfl
  have hKc := hK.sub (tys' := []) [] rfl
  have hFc := va_free (wc := [(h0, .inr (0, [.int h0_tapeLength, .int 0, .ref oc, .ref oh, .ref om, .ref os, .ref ob]))]) hD hS hA [0] rfl
  refine xcall (A1 := va_A [(h0, .inr (0, [.int h0_tapeLength, .int 0, .ref oc, .ref oh, .ref om, .ref os, .ref ob]))] s.heap.size) (rest := [.int 0, .ref oo]) (name := "java/lang/IllegalArgumentException") (As := [.int n]) ⟨hx, hb, hml, hown, hts⟩ (c_LM_run_bad l hst dC dI h0 oc oh om os ob h0_tapeLength n s.heap.size (g)) (cwV 1 hts (gV kw_267 kw_268 kw_269 kw_122 k_LM_run) rfl rfl rfl (by decide +kernel) ⟨(Nat.le_of_ble_eq_true rfl), (Nat.le_of_ble_eq_true rfl)⟩) ⟨fun a U g mk q => by obtain ⟨q0, q1, qP, qK, qD, qhB, qhZ⟩ := q; exact ⟨q0, q1, qP, va_K.moved (u := U) (U := U.calling g mk a) (Vm.Alike.refl U.vm) qK, qD, xB.warm (s := U) (U := U.calling g mk a) (State.WarmedH.refl U) qhB, xZ.moved (u := U) (U := U.calling g mk a) (Vm.Alike.refl U.vm) qhZ⟩, va_recv hKc hPc (ci := 0) (q0 := 0) rfl rfl, fun U hU hW => ⟨rfl, by rw [hU], by rw [hU]; exact hPc, va_K.moved hW.alike hKc, hDc.weaken (fun _ _ _ _ => trivial), xB.warm hW hB, (by rw [hU]; exact xZ.moved hW.alike ((hZ.kept hS.2.1).narrow hFc))⟩⟩ rfl hl.1 rfl (Nat.le_of_ble_eq_true rfl) d_law_run_4 ⟨(Nat.le_of_ble_eq_true rfl), (Nat.le_of_ble_eq_true rfl)⟩ hS (fun q _ h => hFc q h) hFc (fun _ _ h => h) [] ⟨0, 9, 12, 19⟩ [⟨0, 9, 15, 13⟩] hTab (fun _ h => nomatch h) (by decide) (by decide) (hts (.classLink R_law 19 "java/lang/IllegalArgumentException") (List.mem_cons_of_mem _ kw_259)) (va_Nw.use rfl (hB _ nwc_IllegalArgumentException)) (fun q9 t H1 locs ht hvm hQ hz1 hk1 hS => ?_)
  obtain ⟨hP, hD⟩ := va_join (wr := [(oo, .inl (ko, 1, .inr (.inl fo)))]) (w1 := []) hP hD [0] [1] rfl rfl (by decide) (by decide) hk1 hFc xP0 xD0
  generalize H1 = H at hP hS ⊢
  have hP : va_P (dC, dI) vwCl [(oo, .inl (ko, 1, .inr (.inl fo)))] H := hP
  have hD : va_D A [(oo, .inl (ko, 1, .inr (.inl fo)))] := hD
  refine W.widen (k := 1) (n := 6) (Nat.le_of_ble_eq_true rfl) (Nat.le_of_ble_eq_true rfl) ?_
  refine lv_astore_n (lv' := [(3, .ref q9), (0, .ref h0), (1, .int n), (2, .ref oo)]) hx hb d_law_run_12 rfl hl (by decide) rfl (fun ls hl => ?_)
  refine lv_iconst (v := 1) hx hb d_law_run_13 (by decide) ?_
  have hP9 := hP.sub (ws' := [(oo, .inl (ko, 1, .inr (.inl fo)))]) [0] rfl
  have hD9 := hD.sub (ws' := [(oo, .inl (ko, 1, .inr (.inl fo)))]) [0] (by decide) rfl
  have hK9 := hK.sub (tys' := [(ko, .long)]) [0] rfl
  refine W.widen (k := 1) (n := 6) (Nat.le_of_ble_eq_true rfl) (Nat.le_of_ble_eq_true rfl) ?_
  exact W.iret (v := 1) hx hb hr (fun t ht hW => ⟨⟨1, (), rfl, rfl, by rw [ht]; exact hP9, va_K.moved hW.alike hK9, hD9⟩, hS.F ht⟩) hS.2.2 d_law_run_14

set_option maxHeartbeats 4000000 in
set_option maxRecDepth 100000 in
theorem c_law_run_not (l : Launch) (hst : l.stackTraces = false) (dC : Nat → ClassId) (dI : Nat → Nat → Nat) (h0 : Nat) (oc : Nat) (oh : Nat) (om : Nat) (os : Nat) (ob : Nat) (h0_tapeLength : Int32) (n : Int32) (oo : Nat) (ko : ClassId) (fo : Nat → Int64) (sz : Nat) (g1 : ¬ n < 1) (g2 : n ≤ 100000) : Met l y_law_run w_law_run ({ frames := 7, cells := 1, slots := 6, locals := 104 }) (va_Pc [.ref h0, .int n, .ref oo] (fun U => U.heap.size = sz ∧ va_P (dC, dI) vwCl [(h0, .inr (0, [.int h0_tapeLength, .int 0, .ref oc, .ref oh, .ref om, .ref os, .ref ob])), (oo, .inl (ko, 1, .inr (.inl fo)))] U.heap ∧ va_K (dC, dI) vwCl [(ko, .long)] U ∧ va_D (fun _ => True) [(h0, .inr (0, [.int h0_tapeLength, .int 0, .ref oc, .ref oh, .ref om, .ref os, .ref ob])), (oo, .inl (ko, 1, .inr (.inl fo)))] ∧ xB U ∧ xZ (va_A [(h0, .inr (0, [.int h0_tapeLength, .int 0, .ref oc, .ref oh, .ref om, .ref os, .ref ob])), (oo, .inl (ko, 1, .inr (.inl fo)))] sz) U U.heap ∧ va_Nc "java/lang/IllegalStateException" "java/lang/IllegalArgumentException" U)) (va_Qi (fun (r : Int32) (_ : Unit) => r = 2) (fun _ t => va_P (dC, dI) vwCl [(oo, .inl (ko, 1, .inr (.inl fo)))] t.heap ∧ va_K (dC, dI) vwCl [(ko, .long)] t ∧ va_D (va_A [(h0, .inr (0, [.int h0_tapeLength, .int 0, .ref oc, .ref oh, .ref om, .ref os, .ref ob])), (oo, .inl (ko, 1, .inr (.inl fo)))] sz) [(oo, .inl (ko, 1, .inr (.inl fo)))]) (va_A [(h0, .inr (0, [.int h0_tapeLength, .int 0, .ref oc, .ref oh, .ref om, .ref os, .ref ob])), (oo, .inl (ko, 1, .inr (.inl fo)))] sz)) 1 6 (va_A [(h0, .inr (0, [.int h0_tapeLength, .int 0, .ref oc, .ref oh, .ref om, .ref os, .ref ob])), (oo, .inl (ko, 1, .inr (.inl fo)))] sz) := by
  refine va_MetW (cc := b_law_run) (maxL := 4) (ret := (some .int)) (hh := [(0, 9, 12, 19), (0, 9, 15, 13)]) (by decide) rfl ?_
  intro p e s m args below meth c s₁ B hml hv
  obtain ⟨rfl, hsz, hP, hK, hD0, hB, hZ, hNc⟩ := hv
  have hx := B.exec
  have hb := B.bytes
  have hr := B.returns
  have hts := atoms_spec (ws := w_law_run) B.pre
  have hown : s.vm.findClass R_law = some m.cls := findClass_of_methodNamed B.named
  have hlocks := B.notSynchronized
  have hTab := xtab B (hts (.codeWith y_law_run b_law_run 4 (some .int) [(0, 9, 12, 19), (0, 9, 15, 13)]) List.mem_cons_self)
  subst hsz
  have hD := hD0.self (sz := s.heap.size)
  generalize hAe : va_A [(h0, .inr (0, [.int h0_tapeLength, .int 0, .ref oc, .ref oh, .ref om, .ref os, .ref ob])), (oo, .inl (ko, 1, .inr (.inl fo)))] s.heap.size = A at hD hZ ⊢
  have hA : ∀ q : Nat, s.heap.size ≤ q → A q := fun q h => by rw [← hAe]; exact Or.inr h
  have hS : va_S A s.heap s.heap [] := va_S.rf
  have hl := lv_entry ([.ref h0, .int n, .ref oo]) (n := 4) (Nat.le_of_ble_eq_true rfl)
  rw [lg_entry_eq]
  generalize (lg_sl ([.ref h0, .int n, .ref oo]) ++ List.replicate (4 - (lg_sl ([.ref h0, .int n, .ref oo])).length) Slot.unset).toArray = ls at hl ⊢
  have hl : lv_has ls 4 [(0, .ref h0), (1, .int n), (2, .ref oo)] := hl
  have hP : va_P (dC, dI) vwCl [(h0, .inr (0, [.int h0_tapeLength, .int 0, .ref oc, .ref oh, .ref om, .ref os, .ref ob])), (oo, .inl (ko, 1, .inr (.inl fo)))] s.heap := hP
  have hD : va_D A [(h0, .inr (0, [.int h0_tapeLength, .int 0, .ref oc, .ref oh, .ref om, .ref os, .ref ob])), (oo, .inl (ko, 1, .inr (.inl fo)))] := hD
  refine lv_aload_n hx hb d_law_run_0 rfl (lv_at hl 2 rfl) ?_
  refine lv_iconst (v := 0) hx hb d_law_run_1 (by decide) ?_
  refine lv_aload_n hx hb d_law_run_2 rfl (lv_at hl 0 rfl) ?_
  refine lv_iload_n hx hb d_law_run_3 rfl (lv_at hl 1 rfl) ?_
  have hPc := hP.sub (ws' := [(h0, .inr (0, [.int h0_tapeLength, .int 0, .ref oc, .ref oh, .ref om, .ref os, .ref ob]))]) [0] rfl
  have hDc := hD.sub (ws' := [(h0, .inr (0, [.int h0_tapeLength, .int 0, .ref oc, .ref oh, .ref om, .ref os, .ref ob]))]) [0] (by decide) rfl
  have hKc := hK.sub (tys' := []) [] rfl
  have hFc := va_free (wc := [(h0, .inr (0, [.int h0_tapeLength, .int 0, .ref oc, .ref oh, .ref om, .ref os, .ref ob]))]) hD hS hA [0] rfl
  refine xcall (A1 := va_A [(h0, .inr (0, [.int h0_tapeLength, .int 0, .ref oc, .ref oh, .ref om, .ref os, .ref ob]))] s.heap.size) (rest := [.int 0, .ref oo]) (name := "java/lang/IllegalStateException") (As := [.int n]) ⟨hx, hb, hml, hown, hts⟩ (c_LM_run_not l hst dC dI h0 oc oh om os ob h0_tapeLength n s.heap.size (g1) (g2)) (cwV 1 hts (gV kw_267 kw_268 kw_269 kw_122 k_LM_run) rfl rfl rfl (by decide +kernel) ⟨(Nat.le_of_ble_eq_true rfl), (Nat.le_of_ble_eq_true rfl)⟩) ⟨fun a U g mk q => by obtain ⟨q0, q1, qP, qK, qD, qhB, qhZ⟩ := q; exact ⟨q0, q1, qP, va_K.moved (u := U) (U := U.calling g mk a) (Vm.Alike.refl U.vm) qK, qD, xB.warm (s := U) (U := U.calling g mk a) (State.WarmedH.refl U) qhB, xZ.moved (u := U) (U := U.calling g mk a) (Vm.Alike.refl U.vm) qhZ⟩, va_recv hKc hPc (ci := 0) (q0 := 0) rfl rfl, fun U hU hW => ⟨rfl, by rw [hU], by rw [hU]; exact hPc, va_K.moved hW.alike hKc, hDc.weaken (fun _ _ _ _ => trivial), xB.warm hW hB, (by rw [hU]; exact xZ.moved hW.alike ((hZ.kept hS.2.1).narrow hFc))⟩⟩ rfl hl.1 rfl (Nat.le_of_ble_eq_true rfl) d_law_run_4 ⟨(Nat.le_of_ble_eq_true rfl), (Nat.le_of_ble_eq_true rfl)⟩ hS (fun q _ h => hFc q h) hFc (fun _ _ h => h) [⟨0, 9, 12, 19⟩] ⟨0, 9, 15, 13⟩ [] hTab (fun y hy => by simp only [List.mem_cons, List.not_mem_nil, or_false] at hy; subst hy; exact ⟨by decide, by decide, "java/lang/IllegalArgumentException", (hts (.classLink R_law 19 "java/lang/IllegalArgumentException") (List.mem_cons_of_mem _ kw_259)), hNc⟩) (by decide) (by decide) (hts (.classLink R_law 13 "java/lang/IllegalStateException") (List.mem_cons_of_mem _ kw_270)) (va_Nw.use rfl (hB _ nwc_IllegalStateException)) (fun q9 t H1 locs ht hvm hQ hz1 hk1 hS => ?_)
  obtain ⟨hP, hD⟩ := va_join (wr := [(oo, .inl (ko, 1, .inr (.inl fo)))]) (w1 := []) hP hD [0] [1] rfl rfl (by decide) (by decide) hk1 hFc xP0 xD0
  generalize H1 = H at hP hS ⊢
  have hP : va_P (dC, dI) vwCl [(oo, .inl (ko, 1, .inr (.inl fo)))] H := hP
  have hD : va_D A [(oo, .inl (ko, 1, .inr (.inl fo)))] := hD
  refine W.widen (k := 1) (n := 6) (Nat.le_of_ble_eq_true rfl) (Nat.le_of_ble_eq_true rfl) ?_
  refine lv_astore_n (lv' := [(3, .ref q9), (0, .ref h0), (1, .int n), (2, .ref oo)]) hx hb d_law_run_15 rfl hl (by decide) rfl (fun ls hl => ?_)
  refine lv_iconst (v := 2) hx hb d_law_run_16 (by decide) ?_
  have hP9 := hP.sub (ws' := [(oo, .inl (ko, 1, .inr (.inl fo)))]) [0] rfl
  have hD9 := hD.sub (ws' := [(oo, .inl (ko, 1, .inr (.inl fo)))]) [0] (by decide) rfl
  have hK9 := hK.sub (tys' := [(ko, .long)]) [0] rfl
  refine W.widen (k := 1) (n := 6) (Nat.le_of_ble_eq_true rfl) (Nat.le_of_ble_eq_true rfl) ?_
  exact W.iret (v := 2) hx hb hr (fun t ht hW => ⟨⟨2, (), rfl, rfl, by rw [ht]; exact hP9, va_K.moved hW.alike hK9, hD9⟩, hS.F ht⟩) hS.2.2 d_law_run_17

set_option maxHeartbeats 4000000 in
set_option maxRecDepth 100000 in
theorem c_law_collect (l : Launch) (hst : l.stackTraces = false) (dC : Nat → ClassId) (dI : Nat → Nat → Nat) (h0 : Nat) (oc : Nat) (oh : Nat) (om : Nat) (os : Nat) (ob : Nat) (h0_tapeLength : Int32) (oo : Nat) (ko : ClassId) (fo : Nat → Int64) (sz : Nat) : Met l y_law_collect w_law_collect ({ frames := 7, cells := 1, slots := 6, locals := 101 }) (va_Pc [.ref h0, .ref oo] (fun U => U.heap.size = sz ∧ va_P (dC, dI) vwCl [(h0, .inr (0, [.int h0_tapeLength, .int 0, .ref oc, .ref oh, .ref om, .ref os, .ref ob])), (oo, .inl (ko, 1, .inr (.inl fo)))] U.heap ∧ va_K (dC, dI) vwCl [(ko, .long)] U ∧ va_D (fun _ => True) [(h0, .inr (0, [.int h0_tapeLength, .int 0, .ref oc, .ref oh, .ref om, .ref os, .ref ob])), (oo, .inl (ko, 1, .inr (.inl fo)))] ∧ xB U ∧ xZ (va_A [(h0, .inr (0, [.int h0_tapeLength, .int 0, .ref oc, .ref oh, .ref om, .ref os, .ref ob])), (oo, .inl (ko, 1, .inr (.inl fo)))] sz) U U.heap)) (va_Qi (fun (r : Int32) (_ : Unit) => r = 1) (fun _ t => va_P (dC, dI) vwCl [(oo, .inl (ko, 1, .inr (.inl fo)))] t.heap ∧ va_K (dC, dI) vwCl [(ko, .long)] t ∧ va_D (va_A [(h0, .inr (0, [.int h0_tapeLength, .int 0, .ref oc, .ref oh, .ref om, .ref os, .ref ob])), (oo, .inl (ko, 1, .inr (.inl fo)))] sz) [(oo, .inl (ko, 1, .inr (.inl fo)))]) (va_A [(h0, .inr (0, [.int h0_tapeLength, .int 0, .ref oc, .ref oh, .ref om, .ref os, .ref ob])), (oo, .inl (ko, 1, .inr (.inl fo)))] sz)) 1 6 (va_A [(h0, .inr (0, [.int h0_tapeLength, .int 0, .ref oc, .ref oh, .ref om, .ref os, .ref ob])), (oo, .inl (ko, 1, .inr (.inl fo)))] sz) := by
  refine va_MetW (cc := b_law_collect) (maxL := 3) (ret := (some .int)) (hh := [(0, 8, 11, 13)]) (by decide) rfl ?_
  intro p e s m args below meth c s₁ B hml hv
  obtain ⟨rfl, hsz, hP, hK, hD0, hB, hZ⟩ := hv
  have hx := B.exec
  have hb := B.bytes
  have hr := B.returns
  have hts := atoms_spec (ws := w_law_collect) B.pre
  have hown : s.vm.findClass R_law = some m.cls := findClass_of_methodNamed B.named
  have hlocks := B.notSynchronized
  have hTab := xtab B (hts (.codeWith y_law_collect b_law_collect 3 (some .int) [(0, 8, 11, 13)]) List.mem_cons_self)
  subst hsz
  have hD := hD0.self (sz := s.heap.size)
  generalize hAe : va_A [(h0, .inr (0, [.int h0_tapeLength, .int 0, .ref oc, .ref oh, .ref om, .ref os, .ref ob])), (oo, .inl (ko, 1, .inr (.inl fo)))] s.heap.size = A at hD hZ ⊢
  have hA : ∀ q : Nat, s.heap.size ≤ q → A q := fun q h => by rw [← hAe]; exact Or.inr h
  have hS : va_S A s.heap s.heap [] := va_S.rf
  have hl := lv_entry ([.ref h0, .ref oo]) (n := 3) (Nat.le_of_ble_eq_true rfl)
  rw [lg_entry_eq]
  generalize (lg_sl ([.ref h0, .ref oo]) ++ List.replicate (3 - (lg_sl ([.ref h0, .ref oo])).length) Slot.unset).toArray = ls at hl ⊢
  have hl : lv_has ls 3 [(0, .ref h0), (1, .ref oo)] := hl
  have hP : va_P (dC, dI) vwCl [(h0, .inr (0, [.int h0_tapeLength, .int 0, .ref oc, .ref oh, .ref om, .ref os, .ref ob])), (oo, .inl (ko, 1, .inr (.inl fo)))] s.heap := hP
  have hD : va_D A [(h0, .inr (0, [.int h0_tapeLength, .int 0, .ref oc, .ref oh, .ref om, .ref os, .ref ob])), (oo, .inl (ko, 1, .inr (.inl fo)))] := hD
  refine lv_aload_n hx hb d_law_collect_0 rfl (lv_at hl 1 rfl) ?_
  refine lv_iconst (v := 0) hx hb d_law_collect_1 (by decide) ?_
  refine lv_aload_n hx hb d_law_collect_2 rfl (lv_at hl 0 rfl) ?_
  have hPc := hP.sub (ws' := [(h0, .inr (0, [.int h0_tapeLength, .int 0, .ref oc, .ref oh, .ref om, .ref os, .ref ob]))]) [0] rfl
  have hDc := hD.sub (ws' := [(h0, .inr (0, [.int h0_tapeLength, .int 0, .ref oc, .ref oh, .ref om, .ref os, .ref ob]))]) [0] (by decide) rfl
  have hKc := hK.sub (tys' := []) [] rfl
  have hFc := va_free (wc := [(h0, .inr (0, [.int h0_tapeLength, .int 0, .ref oc, .ref oh, .ref om, .ref os, .ref ob]))]) hD hS hA [0] rfl
  refine xcall (A1 := va_A [(h0, .inr (0, [.int h0_tapeLength, .int 0, .ref oc, .ref oh, .ref om, .ref os, .ref ob]))] s.heap.size) (rest := [.int 0, .ref oo]) (name := "java/lang/IllegalStateException") (As := []) ⟨hx, hb, hml, hown, hts⟩ (c_LM_collect_not l hst dC dI h0 oc oh om os ob h0_tapeLength s.heap.size ) (cwV 0 hts (gV kw_272 kw_273 kw_274 kw_122 k_LM_collect) rfl rfl rfl (by decide +kernel) ⟨(Nat.le_of_ble_eq_true rfl), (Nat.le_of_ble_eq_true rfl)⟩) ⟨fun a U g mk q => by obtain ⟨q0, q1, qP, qK, qD, qhB, qhZ⟩ := q; exact ⟨q0, q1, qP, va_K.moved (u := U) (U := U.calling g mk a) (Vm.Alike.refl U.vm) qK, qD, xB.warm (s := U) (U := U.calling g mk a) (State.WarmedH.refl U) qhB, xZ.moved (u := U) (U := U.calling g mk a) (Vm.Alike.refl U.vm) qhZ⟩, va_recv hKc hPc (ci := 0) (q0 := 0) rfl rfl, fun U hU hW => ⟨rfl, by rw [hU], by rw [hU]; exact hPc, va_K.moved hW.alike hKc, hDc.weaken (fun _ _ _ _ => trivial), xB.warm hW hB, (by rw [hU]; exact xZ.moved hW.alike ((hZ.kept hS.2.1).narrow hFc))⟩⟩ rfl hl.1 rfl (Nat.le_of_ble_eq_true rfl) d_law_collect_3 ⟨(Nat.le_of_ble_eq_true rfl), (Nat.le_of_ble_eq_true rfl)⟩ hS (fun q _ h => hFc q h) hFc (fun _ _ h => h) [] ⟨0, 8, 11, 13⟩ [] hTab (fun _ h => nomatch h) (by decide) (by decide) (hts (.classLink R_law 13 "java/lang/IllegalStateException") (List.mem_cons_of_mem _ kw_270)) (va_Nw.use rfl (hB _ nwc_IllegalStateException)) (fun q9 t H1 locs ht hvm hQ hz1 hk1 hS => ?_)
  obtain ⟨hP, hD⟩ := va_join (wr := [(oo, .inl (ko, 1, .inr (.inl fo)))]) (w1 := []) hP hD [0] [1] rfl rfl (by decide) (by decide) hk1 hFc xP0 xD0
  generalize H1 = H at hP hS ⊢
  have hP : va_P (dC, dI) vwCl [(oo, .inl (ko, 1, .inr (.inl fo)))] H := hP
  have hD : va_D A [(oo, .inl (ko, 1, .inr (.inl fo)))] := hD
  refine W.widen (k := 1) (n := 6) (Nat.le_of_ble_eq_true rfl) (Nat.le_of_ble_eq_true rfl) ?_
  refine lv_astore_n (lv' := [(2, .ref q9), (0, .ref h0), (1, .ref oo)]) hx hb d_law_collect_11 rfl hl (by decide) rfl (fun ls hl => ?_)
  refine lv_iconst (v := 1) hx hb d_law_collect_12 (by decide) ?_
  have hP9 := hP.sub (ws' := [(oo, .inl (ko, 1, .inr (.inl fo)))]) [0] rfl
  have hD9 := hD.sub (ws' := [(oo, .inl (ko, 1, .inr (.inl fo)))]) [0] (by decide) rfl
  have hK9 := hK.sub (tys' := [(ko, .long)]) [0] rfl
  refine W.widen (k := 1) (n := 6) (Nat.le_of_ble_eq_true rfl) (Nat.le_of_ble_eq_true rfl) ?_
  exact W.iret (v := 1) hx hb hr (fun t ht hW => ⟨⟨1, (), rfl, rfl, by rw [ht]; exact hP9, va_K.moved hW.alike hK9, hD9⟩, hS.F ht⟩) hS.2.2 d_law_collect_13

set_option maxHeartbeats 4000000 in
set_option maxRecDepth 100000 in
theorem c_law_kind (l : Launch) (hst : l.stackTraces = false) (dC : Nat → ClassId) (dI : Nat → Nat → Nat) (h0 : Nat) (oc : Nat) (oh : Nat) (om : Nat) (os : Nat) (ob : Nat) (h0_tapeLength : Int32) (n : Int32) (oo : Nat) (ko : ClassId) (fo : Nat → Int64) (sz : Nat) : Met l y_law_kind w_law_kind ({ frames := 7, cells := 1, slots := 6, locals := 102 }) (va_Pc [.ref h0, .int n, .ref oo] (fun U => U.heap.size = sz ∧ va_P (dC, dI) vwCl [(h0, .inr (0, [.int h0_tapeLength, .int 0, .ref oc, .ref oh, .ref om, .ref os, .ref ob])), (oo, .inl (ko, 1, .inr (.inl fo)))] U.heap ∧ va_K (dC, dI) vwCl [(ko, .long)] U ∧ va_D (fun _ => True) [(h0, .inr (0, [.int h0_tapeLength, .int 0, .ref oc, .ref oh, .ref om, .ref os, .ref ob])), (oo, .inl (ko, 1, .inr (.inl fo)))] ∧ xB U ∧ xZ (va_A [(h0, .inr (0, [.int h0_tapeLength, .int 0, .ref oc, .ref oh, .ref om, .ref os, .ref ob])), (oo, .inl (ko, 1, .inr (.inl fo)))] sz) U U.heap)) (va_Qi (fun (r : Int32) (_ : Unit) => r = 1) (fun _ t => va_P (dC, dI) vwCl [(oo, .inl (ko, 1, .inr (.inl fo)))] t.heap ∧ va_K (dC, dI) vwCl [(ko, .long)] t ∧ va_D (va_A [(h0, .inr (0, [.int h0_tapeLength, .int 0, .ref oc, .ref oh, .ref om, .ref os, .ref ob])), (oo, .inl (ko, 1, .inr (.inl fo)))] sz) [(oo, .inl (ko, 1, .inr (.inl fo)))]) (va_A [(h0, .inr (0, [.int h0_tapeLength, .int 0, .ref oc, .ref oh, .ref om, .ref os, .ref ob])), (oo, .inl (ko, 1, .inr (.inl fo)))] sz)) 1 6 (va_A [(h0, .inr (0, [.int h0_tapeLength, .int 0, .ref oc, .ref oh, .ref om, .ref os, .ref ob])), (oo, .inl (ko, 1, .inr (.inl fo)))] sz) := by
  refine va_MetW (cc := b_law_kind) (maxL := 4) (ret := (some .int)) (hh := [(0, 9, 12, 42)]) (by decide) rfl ?_
  intro p e s m args below meth c s₁ B hml hv
  obtain ⟨rfl, hsz, hP, hK, hD0, hB, hZ⟩ := hv
  have hx := B.exec
  have hb := B.bytes
  have hr := B.returns
  have hts := atoms_spec (ws := w_law_kind) B.pre
  have hown : s.vm.findClass R_law = some m.cls := findClass_of_methodNamed B.named
  have hlocks := B.notSynchronized
  have hTab := xtab B (hts (.codeWith y_law_kind b_law_kind 4 (some .int) [(0, 9, 12, 42)]) List.mem_cons_self)
  subst hsz
  have hD := hD0.self (sz := s.heap.size)
  generalize hAe : va_A [(h0, .inr (0, [.int h0_tapeLength, .int 0, .ref oc, .ref oh, .ref om, .ref os, .ref ob])), (oo, .inl (ko, 1, .inr (.inl fo)))] s.heap.size = A at hD hZ ⊢
  have hA : ∀ q : Nat, s.heap.size ≤ q → A q := fun q h => by rw [← hAe]; exact Or.inr h
  have hS : va_S A s.heap s.heap [] := va_S.rf
  have hl := lv_entry ([.ref h0, .int n, .ref oo]) (n := 4) (Nat.le_of_ble_eq_true rfl)
  rw [lg_entry_eq]
  generalize (lg_sl ([.ref h0, .int n, .ref oo]) ++ List.replicate (4 - (lg_sl ([.ref h0, .int n, .ref oo])).length) Slot.unset).toArray = ls at hl ⊢
  have hl : lv_has ls 4 [(0, .ref h0), (1, .int n), (2, .ref oo)] := hl
  have hP : va_P (dC, dI) vwCl [(h0, .inr (0, [.int h0_tapeLength, .int 0, .ref oc, .ref oh, .ref om, .ref os, .ref ob])), (oo, .inl (ko, 1, .inr (.inl fo)))] s.heap := hP
  have hD : va_D A [(h0, .inr (0, [.int h0_tapeLength, .int 0, .ref oc, .ref oh, .ref om, .ref os, .ref ob])), (oo, .inl (ko, 1, .inr (.inl fo)))] := hD
  refine lv_aload_n hx hb d_law_kind_0 rfl (lv_at hl 2 rfl) ?_
  refine lv_iconst (v := 0) hx hb d_law_kind_1 (by decide) ?_
  refine lv_aload_n hx hb d_law_kind_2 rfl (lv_at hl 0 rfl) ?_
  refine lv_iload_n hx hb d_law_kind_3 rfl (lv_at hl 1 rfl) ?_
  have hPc := hP.sub (ws' := [(h0, .inr (0, [.int h0_tapeLength, .int 0, .ref oc, .ref oh, .ref om, .ref os, .ref ob]))]) [0] rfl
  have hDc := hD.sub (ws' := [(h0, .inr (0, [.int h0_tapeLength, .int 0, .ref oc, .ref oh, .ref om, .ref os, .ref ob]))]) [0] (by decide) rfl
  have hKc := hK.sub (tys' := []) [] rfl
  have hFc := va_free (wc := [(h0, .inr (0, [.int h0_tapeLength, .int 0, .ref oc, .ref oh, .ref om, .ref os, .ref ob]))]) hD hS hA [0] rfl
  refine xcall (A1 := va_A [(h0, .inr (0, [.int h0_tapeLength, .int 0, .ref oc, .ref oh, .ref om, .ref os, .ref ob]))] s.heap.size) (rest := [.int 0, .ref oo]) (name := "java/lang/IndexOutOfBoundsException") (As := [.int n]) ⟨hx, hb, hml, hown, hts⟩ (c_LM_kind_not l hst dC dI h0 oc oh om os ob h0_tapeLength n s.heap.size ) (cwV 1 hts (gV kw_275 kw_276 kw_277 kw_122 k_LM_kind) rfl rfl rfl (by decide +kernel) ⟨(Nat.le_of_ble_eq_true rfl), (Nat.le_of_ble_eq_true rfl)⟩) ⟨fun a U g mk q => by obtain ⟨q0, q1, qP, qK, qD, qhB, qhZ⟩ := q; exact ⟨q0, q1, qP, va_K.moved (u := U) (U := U.calling g mk a) (Vm.Alike.refl U.vm) qK, qD, xB.warm (s := U) (U := U.calling g mk a) (State.WarmedH.refl U) qhB, xZ.moved (u := U) (U := U.calling g mk a) (Vm.Alike.refl U.vm) qhZ⟩, va_recv hKc hPc (ci := 0) (q0 := 0) rfl rfl, fun U hU hW => ⟨rfl, by rw [hU], by rw [hU]; exact hPc, va_K.moved hW.alike hKc, hDc.weaken (fun _ _ _ _ => trivial), xB.warm hW hB, (by rw [hU]; exact xZ.moved hW.alike ((hZ.kept hS.2.1).narrow hFc))⟩⟩ rfl hl.1 rfl (Nat.le_of_ble_eq_true rfl) d_law_kind_4 ⟨(Nat.le_of_ble_eq_true rfl), (Nat.le_of_ble_eq_true rfl)⟩ hS (fun q _ h => hFc q h) hFc (fun _ _ h => h) [] ⟨0, 9, 12, 42⟩ [] hTab (fun _ h => nomatch h) (by decide) (by decide) (hts (.classLink R_law 42 "java/lang/IndexOutOfBoundsException") (List.mem_cons_of_mem _ kw_278)) (va_Nw.use rfl (hB _ nwc_IndexOutOfBoundsException)) (fun q9 t H1 locs ht hvm hQ hz1 hk1 hS => ?_)
  obtain ⟨hP, hD⟩ := va_join (wr := [(oo, .inl (ko, 1, .inr (.inl fo)))]) (w1 := []) hP hD [0] [1] rfl rfl (by decide) (by decide) hk1 hFc xP0 xD0
  generalize H1 = H at hP hS ⊢
  have hP : va_P (dC, dI) vwCl [(oo, .inl (ko, 1, .inr (.inl fo)))] H := hP
  have hD : va_D A [(oo, .inl (ko, 1, .inr (.inl fo)))] := hD
  refine W.widen (k := 1) (n := 6) (Nat.le_of_ble_eq_true rfl) (Nat.le_of_ble_eq_true rfl) ?_
  refine lv_astore_n (lv' := [(3, .ref q9), (0, .ref h0), (1, .int n), (2, .ref oo)]) hx hb d_law_kind_12 rfl hl (by decide) rfl (fun ls hl => ?_)
  refine lv_iconst (v := 1) hx hb d_law_kind_13 (by decide) ?_
  have hP9 := hP.sub (ws' := [(oo, .inl (ko, 1, .inr (.inl fo)))]) [0] rfl
  have hD9 := hD.sub (ws' := [(oo, .inl (ko, 1, .inr (.inl fo)))]) [0] (by decide) rfl
  have hK9 := hK.sub (tys' := [(ko, .long)]) [0] rfl
  refine W.widen (k := 1) (n := 6) (Nat.le_of_ble_eq_true rfl) (Nat.le_of_ble_eq_true rfl) ?_
  exact W.iret (v := 1) hx hb hr (fun t ht hW => ⟨⟨1, (), rfl, rfl, by rw [ht]; exact hP9, va_K.moved hW.alike hK9, hD9⟩, hS.F ht⟩) hS.2.2 d_law_kind_14

set_option maxHeartbeats 4000000 in
set_option maxRecDepth 100000 in
theorem c_law_value (l : Launch) (hst : l.stackTraces = false) (dC : Nat → ClassId) (dI : Nat → Nat → Nat) (h0 : Nat) (oc : Nat) (oh : Nat) (om : Nat) (os : Nat) (ob : Nat) (h0_tapeLength : Int32) (n : Int32) (oo : Nat) (ko : ClassId) (fo : Nat → Int64) (sz : Nat) : Met l y_law_value w_law_value ({ frames := 7, cells := 1, slots := 6, locals := 105 }) (va_Pc [.ref h0, .int n, .ref oo] (fun U => U.heap.size = sz ∧ va_P (dC, dI) vwCl [(h0, .inr (0, [.int h0_tapeLength, .int 0, .ref oc, .ref oh, .ref om, .ref os, .ref ob])), (oo, .inl (ko, 1, .inr (.inl fo)))] U.heap ∧ va_K (dC, dI) vwCl [(ko, .long)] U ∧ va_D (fun _ => True) [(h0, .inr (0, [.int h0_tapeLength, .int 0, .ref oc, .ref oh, .ref om, .ref os, .ref ob])), (oo, .inl (ko, 1, .inr (.inl fo)))] ∧ xB U ∧ xZ (va_A [(h0, .inr (0, [.int h0_tapeLength, .int 0, .ref oc, .ref oh, .ref om, .ref os, .ref ob])), (oo, .inl (ko, 1, .inr (.inl fo)))] sz) U U.heap)) (va_Qi (fun (r : Int32) (_ : Unit) => r = 1) (fun _ t => va_P (dC, dI) vwCl [(oo, .inl (ko, 1, .inr (.inl fo)))] t.heap ∧ va_K (dC, dI) vwCl [(ko, .long)] t ∧ va_D (va_A [(h0, .inr (0, [.int h0_tapeLength, .int 0, .ref oc, .ref oh, .ref om, .ref os, .ref ob])), (oo, .inl (ko, 1, .inr (.inl fo)))] sz) [(oo, .inl (ko, 1, .inr (.inl fo)))]) (va_A [(h0, .inr (0, [.int h0_tapeLength, .int 0, .ref oc, .ref oh, .ref om, .ref os, .ref ob])), (oo, .inl (ko, 1, .inr (.inl fo)))] sz)) 1 6 (va_A [(h0, .inr (0, [.int h0_tapeLength, .int 0, .ref oc, .ref oh, .ref om, .ref os, .ref ob])), (oo, .inl (ko, 1, .inr (.inl fo)))] sz) := by
  refine va_MetW (cc := b_law_value) (maxL := 4) (ret := (some .int)) (hh := [(0, 8, 11, 42)]) (by decide) rfl ?_
  intro p e s m args below meth c s₁ B hml hv
  obtain ⟨rfl, hsz, hP, hK, hD0, hB, hZ⟩ := hv
  have hx := B.exec
  have hb := B.bytes
  have hr := B.returns
  have hts := atoms_spec (ws := w_law_value) B.pre
  have hown : s.vm.findClass R_law = some m.cls := findClass_of_methodNamed B.named
  have hlocks := B.notSynchronized
  have hTab := xtab B (hts (.codeWith y_law_value b_law_value 4 (some .int) [(0, 8, 11, 42)]) List.mem_cons_self)
  subst hsz
  have hD := hD0.self (sz := s.heap.size)
  generalize hAe : va_A [(h0, .inr (0, [.int h0_tapeLength, .int 0, .ref oc, .ref oh, .ref om, .ref os, .ref ob])), (oo, .inl (ko, 1, .inr (.inl fo)))] s.heap.size = A at hD hZ ⊢
  have hA : ∀ q : Nat, s.heap.size ≤ q → A q := fun q h => by rw [← hAe]; exact Or.inr h
  have hS : va_S A s.heap s.heap [] := va_S.rf
  have hl := lv_entry ([.ref h0, .int n, .ref oo]) (n := 4) (Nat.le_of_ble_eq_true rfl)
  rw [lg_entry_eq]
  generalize (lg_sl ([.ref h0, .int n, .ref oo]) ++ List.replicate (4 - (lg_sl ([.ref h0, .int n, .ref oo])).length) Slot.unset).toArray = ls at hl ⊢
  have hl : lv_has ls 4 [(0, .ref h0), (1, .int n), (2, .ref oo)] := hl
  have hP : va_P (dC, dI) vwCl [(h0, .inr (0, [.int h0_tapeLength, .int 0, .ref oc, .ref oh, .ref om, .ref os, .ref ob])), (oo, .inl (ko, 1, .inr (.inl fo)))] s.heap := hP
  have hD : va_D A [(h0, .inr (0, [.int h0_tapeLength, .int 0, .ref oc, .ref oh, .ref om, .ref os, .ref ob])), (oo, .inl (ko, 1, .inr (.inl fo)))] := hD
  refine lv_aload_n hx hb d_law_value_0 rfl (lv_at hl 2 rfl) ?_
  refine lv_iconst (v := 0) hx hb d_law_value_1 (by decide) ?_
  refine lv_aload_n hx hb d_law_value_2 rfl (lv_at hl 0 rfl) ?_
  refine lv_iload_n hx hb d_law_value_3 rfl (lv_at hl 1 rfl) ?_
  have hPc := hP.sub (ws' := [(h0, .inr (0, [.int h0_tapeLength, .int 0, .ref oc, .ref oh, .ref om, .ref os, .ref ob]))]) [0] rfl
  have hDc := hD.sub (ws' := [(h0, .inr (0, [.int h0_tapeLength, .int 0, .ref oc, .ref oh, .ref om, .ref os, .ref ob]))]) [0] (by decide) rfl
  have hKc := hK.sub (tys' := []) [] rfl
  have hFc := va_free (wc := [(h0, .inr (0, [.int h0_tapeLength, .int 0, .ref oc, .ref oh, .ref om, .ref os, .ref ob]))]) hD hS hA [0] rfl
  refine xcall (A1 := va_A [(h0, .inr (0, [.int h0_tapeLength, .int 0, .ref oc, .ref oh, .ref om, .ref os, .ref ob]))] s.heap.size) (rest := [.int 0, .ref oo]) (name := "java/lang/IndexOutOfBoundsException") (As := [.int n]) ⟨hx, hb, hml, hown, hts⟩ (c_LM_value_not l hst dC dI h0 oc oh om os ob h0_tapeLength n s.heap.size ) (cwV 1 hts (gV kw_280 kw_281 kw_282 kw_122 k_LM_value) rfl rfl rfl (by decide +kernel) ⟨(Nat.le_of_ble_eq_true rfl), (Nat.le_of_ble_eq_true rfl)⟩) ⟨fun a U g mk q => by obtain ⟨q0, q1, qP, qK, qD, qhB, qhZ⟩ := q; exact ⟨q0, q1, qP, va_K.moved (u := U) (U := U.calling g mk a) (Vm.Alike.refl U.vm) qK, qD, xB.warm (s := U) (U := U.calling g mk a) (State.WarmedH.refl U) qhB, xZ.moved (u := U) (U := U.calling g mk a) (Vm.Alike.refl U.vm) qhZ⟩, va_recv hKc hPc (ci := 0) (q0 := 0) rfl rfl, fun U hU hW => ⟨rfl, by rw [hU], by rw [hU]; exact hPc, va_K.moved hW.alike hKc, hDc.weaken (fun _ _ _ _ => trivial), xB.warm hW hB, (by rw [hU]; exact xZ.moved hW.alike ((hZ.kept hS.2.1).narrow hFc))⟩⟩ rfl hl.1 rfl (Nat.le_of_ble_eq_true rfl) d_law_value_4 ⟨(Nat.le_of_ble_eq_true rfl), (Nat.le_of_ble_eq_true rfl)⟩ hS (fun q _ h => hFc q h) hFc (fun _ _ h => h) [] ⟨0, 8, 11, 42⟩ [] hTab (fun _ h => nomatch h) (by decide) (by decide) (hts (.classLink R_law 42 "java/lang/IndexOutOfBoundsException") (List.mem_cons_of_mem _ kw_278)) (va_Nw.use rfl (hB _ nwc_IndexOutOfBoundsException)) (fun q9 t H1 locs ht hvm hQ hz1 hk1 hS => ?_)
  obtain ⟨hP, hD⟩ := va_join (wr := [(oo, .inl (ko, 1, .inr (.inl fo)))]) (w1 := []) hP hD [0] [1] rfl rfl (by decide) (by decide) hk1 hFc xP0 xD0
  generalize H1 = H at hP hS ⊢
  have hP : va_P (dC, dI) vwCl [(oo, .inl (ko, 1, .inr (.inl fo)))] H := hP
  have hD : va_D A [(oo, .inl (ko, 1, .inr (.inl fo)))] := hD
  refine W.widen (k := 1) (n := 6) (Nat.le_of_ble_eq_true rfl) (Nat.le_of_ble_eq_true rfl) ?_
  refine lv_astore_n (lv' := [(3, .ref q9), (0, .ref h0), (1, .int n), (2, .ref oo)]) hx hb d_law_value_11 rfl hl (by decide) rfl (fun ls hl => ?_)
  refine lv_iconst (v := 1) hx hb d_law_value_12 (by decide) ?_
  have hP9 := hP.sub (ws' := [(oo, .inl (ko, 1, .inr (.inl fo)))]) [0] rfl
  have hD9 := hD.sub (ws' := [(oo, .inl (ko, 1, .inr (.inl fo)))]) [0] (by decide) rfl
  have hK9 := hK.sub (tys' := [(ko, .long)]) [0] rfl
  refine W.widen (k := 1) (n := 6) (Nat.le_of_ble_eq_true rfl) (Nat.le_of_ble_eq_true rfl) ?_
  exact W.iret (v := 1) hx hb hr (fun t ht hW => ⟨⟨1, (), rfl, rfl, by rw [ht]; exact hP9, va_K.moved hW.alike hK9, hD9⟩, hS.F ht⟩) hS.2.2 d_law_value_13

set_option maxHeartbeats 4000000 in
set_option maxRecDepth 100000 in
theorem c_law_byteOf (l : Launch) (hst : l.stackTraces = false) (dC : Nat → ClassId) (dI : Nat → Nat → Nat) (h0 : Nat) (oc : Nat) (oh : Nat) (om : Nat) (os : Nat) (ob : Nat) (h0_tapeLength : Int32) (n : Int32) (n2 : Int32) (oo : Nat) (ko : ClassId) (fo : Nat → Int64) (sz : Nat) : Met l y_law_byteOf w_law_byteOf ({ frames := 7, cells := 1, slots := 6, locals := 104 }) (va_Pc [.ref h0, .int n, .int n2, .ref oo] (fun U => U.heap.size = sz ∧ va_P (dC, dI) vwCl [(h0, .inr (0, [.int h0_tapeLength, .int 0, .ref oc, .ref oh, .ref om, .ref os, .ref ob])), (oo, .inl (ko, 1, .inr (.inl fo)))] U.heap ∧ va_K (dC, dI) vwCl [(ko, .long)] U ∧ va_D (fun _ => True) [(h0, .inr (0, [.int h0_tapeLength, .int 0, .ref oc, .ref oh, .ref om, .ref os, .ref ob])), (oo, .inl (ko, 1, .inr (.inl fo)))] ∧ xB U ∧ xZ (va_A [(h0, .inr (0, [.int h0_tapeLength, .int 0, .ref oc, .ref oh, .ref om, .ref os, .ref ob])), (oo, .inl (ko, 1, .inr (.inl fo)))] sz) U U.heap)) (va_Qi (fun (r : Int32) (_ : Unit) => r = 1) (fun _ t => va_P (dC, dI) vwCl [(oo, .inl (ko, 1, .inr (.inl fo)))] t.heap ∧ va_K (dC, dI) vwCl [(ko, .long)] t ∧ va_D (va_A [(h0, .inr (0, [.int h0_tapeLength, .int 0, .ref oc, .ref oh, .ref om, .ref os, .ref ob])), (oo, .inl (ko, 1, .inr (.inl fo)))] sz) [(oo, .inl (ko, 1, .inr (.inl fo)))]) (va_A [(h0, .inr (0, [.int h0_tapeLength, .int 0, .ref oc, .ref oh, .ref om, .ref os, .ref ob])), (oo, .inl (ko, 1, .inr (.inl fo)))] sz)) 1 6 (va_A [(h0, .inr (0, [.int h0_tapeLength, .int 0, .ref oc, .ref oh, .ref om, .ref os, .ref ob])), (oo, .inl (ko, 1, .inr (.inl fo)))] sz) := by
  refine va_MetW (cc := b_law_byteOf) (maxL := 5) (ret := (some .int)) (hh := [(0, 10, 13, 42), (0, 10, 17, 19)]) (by decide) rfl ?_
  intro p e s m args below meth c s₁ B hml hv
  obtain ⟨rfl, hsz, hP, hK, hD0, hB, hZ⟩ := hv
  have hx := B.exec
  have hb := B.bytes
  have hr := B.returns
  have hts := atoms_spec (ws := w_law_byteOf) B.pre
  have hown : s.vm.findClass R_law = some m.cls := findClass_of_methodNamed B.named
  have hlocks := B.notSynchronized
  have hTab := xtab B (hts (.codeWith y_law_byteOf b_law_byteOf 5 (some .int) [(0, 10, 13, 42), (0, 10, 17, 19)]) List.mem_cons_self)
  subst hsz
  have hD := hD0.self (sz := s.heap.size)
  generalize hAe : va_A [(h0, .inr (0, [.int h0_tapeLength, .int 0, .ref oc, .ref oh, .ref om, .ref os, .ref ob])), (oo, .inl (ko, 1, .inr (.inl fo)))] s.heap.size = A at hD hZ ⊢
  have hA : ∀ q : Nat, s.heap.size ≤ q → A q := fun q h => by rw [← hAe]; exact Or.inr h
  have hS : va_S A s.heap s.heap [] := va_S.rf
  have hl := lv_entry ([.ref h0, .int n, .int n2, .ref oo]) (n := 5) (Nat.le_of_ble_eq_true rfl)
  rw [lg_entry_eq]
  generalize (lg_sl ([.ref h0, .int n, .int n2, .ref oo]) ++ List.replicate (5 - (lg_sl ([.ref h0, .int n, .int n2, .ref oo])).length) Slot.unset).toArray = ls at hl ⊢
  have hl : lv_has ls 5 [(0, .ref h0), (1, .int n), (2, .int n2), (3, .ref oo)] := hl
  have hP : va_P (dC, dI) vwCl [(h0, .inr (0, [.int h0_tapeLength, .int 0, .ref oc, .ref oh, .ref om, .ref os, .ref ob])), (oo, .inl (ko, 1, .inr (.inl fo)))] s.heap := hP
  have hD : va_D A [(h0, .inr (0, [.int h0_tapeLength, .int 0, .ref oc, .ref oh, .ref om, .ref os, .ref ob])), (oo, .inl (ko, 1, .inr (.inl fo)))] := hD
  refine lv_aload_n hx hb d_law_byteOf_0 rfl (lv_at hl 3 rfl) ?_
  refine lv_iconst (v := 0) hx hb d_law_byteOf_1 (by decide) ?_
  refine lv_aload_n hx hb d_law_byteOf_2 rfl (lv_at hl 0 rfl) ?_
  refine lv_iload_n hx hb d_law_byteOf_3 rfl (lv_at hl 1 rfl) ?_
  refine lv_iload_n hx hb d_law_byteOf_4 rfl (lv_at hl 2 rfl) ?_
  have hPc := hP.sub (ws' := [(h0, .inr (0, [.int h0_tapeLength, .int 0, .ref oc, .ref oh, .ref om, .ref os, .ref ob]))]) [0] rfl
  have hDc := hD.sub (ws' := [(h0, .inr (0, [.int h0_tapeLength, .int 0, .ref oc, .ref oh, .ref om, .ref os, .ref ob]))]) [0] (by decide) rfl
  have hKc := hK.sub (tys' := []) [] rfl
  have hFc := va_free (wc := [(h0, .inr (0, [.int h0_tapeLength, .int 0, .ref oc, .ref oh, .ref om, .ref os, .ref ob]))]) hD hS hA [0] rfl
  refine xcall (A1 := va_A [(h0, .inr (0, [.int h0_tapeLength, .int 0, .ref oc, .ref oh, .ref om, .ref os, .ref ob]))] s.heap.size) (rest := [.int 0, .ref oo]) (name := "java/lang/IndexOutOfBoundsException") (As := [.int n, .int n2]) ⟨hx, hb, hml, hown, hts⟩ (c_LM_byteOf_not l hst dC dI h0 oc oh om os ob h0_tapeLength n n2 s.heap.size ) (cwV 2 hts (gV kw_283 kw_284 kw_285 kw_122 k_LM_byteOf) rfl rfl rfl (by decide +kernel) ⟨(Nat.le_of_ble_eq_true rfl), (Nat.le_of_ble_eq_true rfl)⟩) ⟨fun a U g mk q => by obtain ⟨q0, q1, qP, qK, qD, qhB, qhZ⟩ := q; exact ⟨q0, q1, qP, va_K.moved (u := U) (U := U.calling g mk a) (Vm.Alike.refl U.vm) qK, qD, xB.warm (s := U) (U := U.calling g mk a) (State.WarmedH.refl U) qhB, xZ.moved (u := U) (U := U.calling g mk a) (Vm.Alike.refl U.vm) qhZ⟩, va_recv hKc hPc (ci := 0) (q0 := 0) rfl rfl, fun U hU hW => ⟨rfl, by rw [hU], by rw [hU]; exact hPc, va_K.moved hW.alike hKc, hDc.weaken (fun _ _ _ _ => trivial), xB.warm hW hB, (by rw [hU]; exact xZ.moved hW.alike ((hZ.kept hS.2.1).narrow hFc))⟩⟩ rfl hl.1 rfl (Nat.le_of_ble_eq_true rfl) d_law_byteOf_5 ⟨(Nat.le_of_ble_eq_true rfl), (Nat.le_of_ble_eq_true rfl)⟩ hS (fun q _ h => hFc q h) hFc (fun _ _ h => h) [] ⟨0, 10, 13, 42⟩ [⟨0, 10, 17, 19⟩] hTab (fun _ h => nomatch h) (by decide) (by decide) (hts (.classLink R_law 42 "java/lang/IndexOutOfBoundsException") (List.mem_cons_of_mem _ kw_278)) (va_Nw.use rfl (hB _ nwc_IndexOutOfBoundsException)) (fun q9 t H1 locs ht hvm hQ hz1 hk1 hS => ?_)
  obtain ⟨hP, hD⟩ := va_join (wr := [(oo, .inl (ko, 1, .inr (.inl fo)))]) (w1 := []) hP hD [0] [1] rfl rfl (by decide) (by decide) hk1 hFc xP0 xD0
  generalize H1 = H at hP hS ⊢
  have hP : va_P (dC, dI) vwCl [(oo, .inl (ko, 1, .inr (.inl fo)))] H := hP
  have hD : va_D A [(oo, .inl (ko, 1, .inr (.inl fo)))] := hD
  refine W.widen (k := 1) (n := 6) (Nat.le_of_ble_eq_true rfl) (Nat.le_of_ble_eq_true rfl) ?_
  refine lv_astore (lv' := [(4, .ref q9), (0, .ref h0), (1, .int n), (2, .int n2), (3, .ref oo)]) hx hb d_law_byteOf_13 hl (by decide) rfl (fun ls hl => ?_)
  refine lv_iconst (v := 1) hx hb d_law_byteOf_15 (by decide) ?_
  have hP9 := hP.sub (ws' := [(oo, .inl (ko, 1, .inr (.inl fo)))]) [0] rfl
  have hD9 := hD.sub (ws' := [(oo, .inl (ko, 1, .inr (.inl fo)))]) [0] (by decide) rfl
  have hK9 := hK.sub (tys' := [(ko, .long)]) [0] rfl
  refine W.widen (k := 1) (n := 6) (Nat.le_of_ble_eq_true rfl) (Nat.le_of_ble_eq_true rfl) ?_
  exact W.iret (v := 1) hx hb hr (fun t ht hW => ⟨⟨1, (), rfl, rfl, by rw [ht]; exact hP9, va_K.moved hW.alike hK9, hD9⟩, hS.F ht⟩) hS.2.2 d_law_byteOf_16

set_option maxHeartbeats 4000000 in
set_option maxRecDepth 100000 in
theorem c_law_output (l : Launch) (hst : l.stackTraces = false) (dC : Nat → ClassId) (dI : Nat → Nat → Nat) (h0 : Nat) (oc : Nat) (oh : Nat) (om : Nat) (os : Nat) (ob : Nat) (h0_tapeLength : Int32) (n : Int32) (oo : Nat) (ko : ClassId) (fo : Nat → Int64) (sz : Nat) : Met l y_law_output w_law_output ({ frames := 7, cells := 1, slots := 6, locals := 102 }) (va_Pc [.ref h0, .int n, .ref oo] (fun U => U.heap.size = sz ∧ va_P (dC, dI) vwCl [(h0, .inr (0, [.int h0_tapeLength, .int 0, .ref oc, .ref oh, .ref om, .ref os, .ref ob])), (oo, .inl (ko, 1, .inr (.inl fo)))] U.heap ∧ va_K (dC, dI) vwCl [(ko, .long)] U ∧ va_D (fun _ => True) [(h0, .inr (0, [.int h0_tapeLength, .int 0, .ref oc, .ref oh, .ref om, .ref os, .ref ob])), (oo, .inl (ko, 1, .inr (.inl fo)))] ∧ xB U ∧ xZ (va_A [(h0, .inr (0, [.int h0_tapeLength, .int 0, .ref oc, .ref oh, .ref om, .ref os, .ref ob])), (oo, .inl (ko, 1, .inr (.inl fo)))] sz) U U.heap)) (va_Qi (fun (r : Int32) (_ : Unit) => r = 1) (fun _ t => va_P (dC, dI) vwCl [(oo, .inl (ko, 1, .inr (.inl fo)))] t.heap ∧ va_K (dC, dI) vwCl [(ko, .long)] t ∧ va_D (va_A [(h0, .inr (0, [.int h0_tapeLength, .int 0, .ref oc, .ref oh, .ref om, .ref os, .ref ob])), (oo, .inl (ko, 1, .inr (.inl fo)))] sz) [(oo, .inl (ko, 1, .inr (.inl fo)))]) (va_A [(h0, .inr (0, [.int h0_tapeLength, .int 0, .ref oc, .ref oh, .ref om, .ref os, .ref ob])), (oo, .inl (ko, 1, .inr (.inl fo)))] sz)) 1 6 (va_A [(h0, .inr (0, [.int h0_tapeLength, .int 0, .ref oc, .ref oh, .ref om, .ref os, .ref ob])), (oo, .inl (ko, 1, .inr (.inl fo)))] sz) := by
  refine va_MetW (cc := b_law_output) (maxL := 4) (ret := (some .int)) (hh := [(0, 9, 12, 42)]) (by decide) rfl ?_
  intro p e s m args below meth c s₁ B hml hv
  obtain ⟨rfl, hsz, hP, hK, hD0, hB, hZ⟩ := hv
  have hx := B.exec
  have hb := B.bytes
  have hr := B.returns
  have hts := atoms_spec (ws := w_law_output) B.pre
  have hown : s.vm.findClass R_law = some m.cls := findClass_of_methodNamed B.named
  have hlocks := B.notSynchronized
  have hTab := xtab B (hts (.codeWith y_law_output b_law_output 4 (some .int) [(0, 9, 12, 42)]) List.mem_cons_self)
  subst hsz
  have hD := hD0.self (sz := s.heap.size)
  generalize hAe : va_A [(h0, .inr (0, [.int h0_tapeLength, .int 0, .ref oc, .ref oh, .ref om, .ref os, .ref ob])), (oo, .inl (ko, 1, .inr (.inl fo)))] s.heap.size = A at hD hZ ⊢
  have hA : ∀ q : Nat, s.heap.size ≤ q → A q := fun q h => by rw [← hAe]; exact Or.inr h
  have hS : va_S A s.heap s.heap [] := va_S.rf
  have hl := lv_entry ([.ref h0, .int n, .ref oo]) (n := 4) (Nat.le_of_ble_eq_true rfl)
  rw [lg_entry_eq]
  generalize (lg_sl ([.ref h0, .int n, .ref oo]) ++ List.replicate (4 - (lg_sl ([.ref h0, .int n, .ref oo])).length) Slot.unset).toArray = ls at hl ⊢
  have hl : lv_has ls 4 [(0, .ref h0), (1, .int n), (2, .ref oo)] := hl
  have hP : va_P (dC, dI) vwCl [(h0, .inr (0, [.int h0_tapeLength, .int 0, .ref oc, .ref oh, .ref om, .ref os, .ref ob])), (oo, .inl (ko, 1, .inr (.inl fo)))] s.heap := hP
  have hD : va_D A [(h0, .inr (0, [.int h0_tapeLength, .int 0, .ref oc, .ref oh, .ref om, .ref os, .ref ob])), (oo, .inl (ko, 1, .inr (.inl fo)))] := hD
  refine lv_aload_n hx hb d_law_output_0 rfl (lv_at hl 2 rfl) ?_
  refine lv_iconst (v := 0) hx hb d_law_output_1 (by decide) ?_
  refine lv_aload_n hx hb d_law_output_2 rfl (lv_at hl 0 rfl) ?_
  refine lv_iload_n hx hb d_law_output_3 rfl (lv_at hl 1 rfl) ?_
  have hPc := hP.sub (ws' := [(h0, .inr (0, [.int h0_tapeLength, .int 0, .ref oc, .ref oh, .ref om, .ref os, .ref ob]))]) [0] rfl
  have hDc := hD.sub (ws' := [(h0, .inr (0, [.int h0_tapeLength, .int 0, .ref oc, .ref oh, .ref om, .ref os, .ref ob]))]) [0] (by decide) rfl
  have hKc := hK.sub (tys' := []) [] rfl
  have hFc := va_free (wc := [(h0, .inr (0, [.int h0_tapeLength, .int 0, .ref oc, .ref oh, .ref om, .ref os, .ref ob]))]) hD hS hA [0] rfl
  refine xcall (A1 := va_A [(h0, .inr (0, [.int h0_tapeLength, .int 0, .ref oc, .ref oh, .ref om, .ref os, .ref ob]))] s.heap.size) (rest := [.int 0, .ref oo]) (name := "java/lang/IndexOutOfBoundsException") (As := [.int n]) ⟨hx, hb, hml, hown, hts⟩ (c_LM_output_not l hst dC dI h0 oc oh om os ob h0_tapeLength n s.heap.size ) (cwV 1 hts (gV kw_286 kw_287 kw_288 kw_122 k_LM_output) rfl rfl rfl (by decide +kernel) ⟨(Nat.le_of_ble_eq_true rfl), (Nat.le_of_ble_eq_true rfl)⟩) ⟨fun a U g mk q => by obtain ⟨q0, q1, qP, qK, qD, qhB, qhZ⟩ := q; exact ⟨q0, q1, qP, va_K.moved (u := U) (U := U.calling g mk a) (Vm.Alike.refl U.vm) qK, qD, xB.warm (s := U) (U := U.calling g mk a) (State.WarmedH.refl U) qhB, xZ.moved (u := U) (U := U.calling g mk a) (Vm.Alike.refl U.vm) qhZ⟩, va_recv hKc hPc (ci := 0) (q0 := 0) rfl rfl, fun U hU hW => ⟨rfl, by rw [hU], by rw [hU]; exact hPc, va_K.moved hW.alike hKc, hDc.weaken (fun _ _ _ _ => trivial), xB.warm hW hB, (by rw [hU]; exact xZ.moved hW.alike ((hZ.kept hS.2.1).narrow hFc))⟩⟩ rfl hl.1 rfl (Nat.le_of_ble_eq_true rfl) d_law_output_4 ⟨(Nat.le_of_ble_eq_true rfl), (Nat.le_of_ble_eq_true rfl)⟩ hS (fun q _ h => hFc q h) hFc (fun _ _ h => h) [] ⟨0, 9, 12, 42⟩ [] hTab (fun _ h => nomatch h) (by decide) (by decide) (hts (.classLink R_law 42 "java/lang/IndexOutOfBoundsException") (List.mem_cons_of_mem _ kw_278)) (va_Nw.use rfl (hB _ nwc_IndexOutOfBoundsException)) (fun q9 t H1 locs ht hvm hQ hz1 hk1 hS => ?_)
  obtain ⟨hP, hD⟩ := va_join (wr := [(oo, .inl (ko, 1, .inr (.inl fo)))]) (w1 := []) hP hD [0] [1] rfl rfl (by decide) (by decide) hk1 hFc xP0 xD0
  generalize H1 = H at hP hS ⊢
  have hP : va_P (dC, dI) vwCl [(oo, .inl (ko, 1, .inr (.inl fo)))] H := hP
  have hD : va_D A [(oo, .inl (ko, 1, .inr (.inl fo)))] := hD
  refine W.widen (k := 1) (n := 6) (Nat.le_of_ble_eq_true rfl) (Nat.le_of_ble_eq_true rfl) ?_
  refine lv_astore_n (lv' := [(3, .ref q9), (0, .ref h0), (1, .int n), (2, .ref oo)]) hx hb d_law_output_12 rfl hl (by decide) rfl (fun ls hl => ?_)
  refine lv_iconst (v := 1) hx hb d_law_output_13 (by decide) ?_
  have hP9 := hP.sub (ws' := [(oo, .inl (ko, 1, .inr (.inl fo)))]) [0] rfl
  have hD9 := hD.sub (ws' := [(oo, .inl (ko, 1, .inr (.inl fo)))]) [0] (by decide) rfl
  have hK9 := hK.sub (tys' := [(ko, .long)]) [0] rfl
  refine W.widen (k := 1) (n := 6) (Nat.le_of_ble_eq_true rfl) (Nat.le_of_ble_eq_true rfl) ?_
  exact W.iret (v := 1) hx hb hr (fun t ht hW => ⟨⟨1, (), rfl, rfl, by rw [ht]; exact hP9, va_K.moved hW.alike hK9, hD9⟩, hS.F ht⟩) hS.2.2 d_law_output_14

set_option maxHeartbeats 4000000 in
set_option maxRecDepth 100000 in
theorem c_law_load (l : Launch) (hst : l.stackTraces = false) (dC : Nat → ClassId) (dI : Nat → Nat → Nat) (h0 : Nat) (oc : Nat) (oh : Nat) (om : Nat) (os : Nat) (ob : Nat) (h0_loaded : Int32) (oq : Nat) (kq : ClassId) (oc_children : Nat) (oc_code : Nat) (oc_constantKinds : Nat) (oc_constantValues : Nat) (oc_upvalues : Nat) (oc_tape : Nat) (oc_open : Nat) (oc_left : Nat) (oc_prototypeCount : Int32) (oc_constantCount : Int32) (oc_codeCount : Int32) (oc_upvalueCount : Int32) (oc_length : Int32) (oc_at : Int32) (oc_faultFound : Int32) (oc_faultPlace : Int32) (oo : Nat) (ko : ClassId) (fo : Nat → Int64) (sz : Nat) : Met l y_law_load w_law_load ({ frames := 7, cells := 2, slots := 19, locals := 134 }) (va_Pc [.ref h0, .ref oo] (fun U => U.heap.size = sz ∧ va_P (dC, dI) vwCl [(h0, .inr (0, [.int 0, .int h0_loaded, .ref oc, .ref oh, .ref om, .ref os, .ref ob])), (oc, .inr (1, [.ref oq, .ref oc_children, .ref oc_code, .ref oc_constantKinds, .ref oc_constantValues, .ref oc_upvalues, .ref oc_tape, .ref oc_open, .ref oc_left, .int oc_prototypeCount, .int oc_constantCount, .int oc_codeCount, .int oc_upvalueCount, .int oc_length, .int oc_at, .int oc_faultFound, .int oc_faultPlace])), (oq, .inl (kq, 250, .inr (.inr (.inr (.inr (fun _ => none)))))), (oo, .inl (ko, 1, .inr (.inl fo)))] U.heap ∧ va_K (dC, dI) vwCl [(kq, .object R_Pr), (ko, .long)] U ∧ va_D (fun _ => True) [(h0, .inr (0, [.int 0, .int h0_loaded, .ref oc, .ref oh, .ref om, .ref os, .ref ob])), (oc, .inr (1, [.ref oq, .ref oc_children, .ref oc_code, .ref oc_constantKinds, .ref oc_constantValues, .ref oc_upvalues, .ref oc_tape, .ref oc_open, .ref oc_left, .int oc_prototypeCount, .int oc_constantCount, .int oc_codeCount, .int oc_upvalueCount, .int oc_length, .int oc_at, .int oc_faultFound, .int oc_faultPlace])), (oq, .inl (kq, 250, .inr (.inr (.inr (.inr (fun _ => none)))))), (oo, .inl (ko, 1, .inr (.inl fo)))] ∧ xB U ∧ xZ (va_A [(h0, .inr (0, [.int 0, .int h0_loaded, .ref oc, .ref oh, .ref om, .ref os, .ref ob])), (oc, .inr (1, [.ref oq, .ref oc_children, .ref oc_code, .ref oc_constantKinds, .ref oc_constantValues, .ref oc_upvalues, .ref oc_tape, .ref oc_open, .ref oc_left, .int oc_prototypeCount, .int oc_constantCount, .int oc_codeCount, .int oc_upvalueCount, .int oc_length, .int oc_at, .int oc_faultFound, .int oc_faultPlace])), (oq, .inl (kq, 250, .inr (.inr (.inr (.inr (fun _ => none)))))), (oo, .inl (ko, 1, .inr (.inl fo)))] sz) U U.heap)) (va_Qi (fun (r : Int32) (_ : Unit) => r = 1) (fun _ t => va_P (dC, dI) vwCl [(oo, .inl (ko, 1, .inr (.inl fo)))] t.heap ∧ va_K (dC, dI) vwCl [(ko, .long)] t ∧ va_D (va_A [(h0, .inr (0, [.int 0, .int h0_loaded, .ref oc, .ref oh, .ref om, .ref os, .ref ob])), (oc, .inr (1, [.ref oq, .ref oc_children, .ref oc_code, .ref oc_constantKinds, .ref oc_constantValues, .ref oc_upvalues, .ref oc_tape, .ref oc_open, .ref oc_left, .int oc_prototypeCount, .int oc_constantCount, .int oc_codeCount, .int oc_upvalueCount, .int oc_length, .int oc_at, .int oc_faultFound, .int oc_faultPlace])), (oq, .inl (kq, 250, .inr (.inr (.inr (.inr (fun _ => none)))))), (oo, .inl (ko, 1, .inr (.inl fo)))] sz) [(oo, .inl (ko, 1, .inr (.inl fo)))]) (va_A [(h0, .inr (0, [.int 0, .int h0_loaded, .ref oc, .ref oh, .ref om, .ref os, .ref ob])), (oc, .inr (1, [.ref oq, .ref oc_children, .ref oc_code, .ref oc_constantKinds, .ref oc_constantValues, .ref oc_upvalues, .ref oc_tape, .ref oc_open, .ref oc_left, .int oc_prototypeCount, .int oc_constantCount, .int oc_codeCount, .int oc_upvalueCount, .int oc_length, .int oc_at, .int oc_faultFound, .int oc_faultPlace])), (oq, .inl (kq, 250, .inr (.inr (.inr (.inr (fun _ => none)))))), (oo, .inl (ko, 1, .inr (.inl fo)))] sz)) 2 19 (va_A [(h0, .inr (0, [.int 0, .int h0_loaded, .ref oc, .ref oh, .ref om, .ref os, .ref ob])), (oc, .inr (1, [.ref oq, .ref oc_children, .ref oc_code, .ref oc_constantKinds, .ref oc_constantValues, .ref oc_upvalues, .ref oc_tape, .ref oc_open, .ref oc_left, .int oc_prototypeCount, .int oc_constantCount, .int oc_codeCount, .int oc_upvalueCount, .int oc_length, .int oc_at, .int oc_faultFound, .int oc_faultPlace])), (oq, .inl (kq, 250, .inr (.inr (.inr (.inr (fun _ => none)))))), (oo, .inl (ko, 1, .inr (.inl fo)))] sz) := by
  refine va_MetW (cc := b_law_load) (maxL := 3) (ret := (some .int)) (hh := [(0, 8, 11, 25), (0, 8, 14, 13)]) (by decide) rfl ?_
  intro p e s m args below meth c s₁ B hml hv
  obtain ⟨rfl, hsz, hP, hK, hD0, hB, hZ⟩ := hv
  have hx := B.exec
  have hb := B.bytes
  have hr := B.returns
  have hts := atoms_spec (ws := w_law_load) B.pre
  have hown : s.vm.findClass R_law = some m.cls := findClass_of_methodNamed B.named
  have hlocks := B.notSynchronized
  have hTab := xtab B (hts (.codeWith y_law_load b_law_load 3 (some .int) [(0, 8, 11, 25), (0, 8, 14, 13)]) List.mem_cons_self)
  subst hsz
  have hD := hD0.self (sz := s.heap.size)
  generalize hAe : va_A [(h0, .inr (0, [.int 0, .int h0_loaded, .ref oc, .ref oh, .ref om, .ref os, .ref ob])), (oc, .inr (1, [.ref oq, .ref oc_children, .ref oc_code, .ref oc_constantKinds, .ref oc_constantValues, .ref oc_upvalues, .ref oc_tape, .ref oc_open, .ref oc_left, .int oc_prototypeCount, .int oc_constantCount, .int oc_codeCount, .int oc_upvalueCount, .int oc_length, .int oc_at, .int oc_faultFound, .int oc_faultPlace])), (oq, .inl (kq, 250, .inr (.inr (.inr (.inr (fun _ => none)))))), (oo, .inl (ko, 1, .inr (.inl fo)))] s.heap.size = A at hD hZ ⊢
  have hA : ∀ q : Nat, s.heap.size ≤ q → A q := fun q h => by rw [← hAe]; exact Or.inr h
  have hS : va_S A s.heap s.heap [] := va_S.rf
  have hl := lv_entry ([.ref h0, .ref oo]) (n := 3) (Nat.le_of_ble_eq_true rfl)
  rw [lg_entry_eq]
  generalize (lg_sl ([.ref h0, .ref oo]) ++ List.replicate (3 - (lg_sl ([.ref h0, .ref oo])).length) Slot.unset).toArray = ls at hl ⊢
  have hl : lv_has ls 3 [(0, .ref h0), (1, .ref oo)] := hl
  have hP : va_P (dC, dI) vwCl [(h0, .inr (0, [.int 0, .int h0_loaded, .ref oc, .ref oh, .ref om, .ref os, .ref ob])), (oc, .inr (1, [.ref oq, .ref oc_children, .ref oc_code, .ref oc_constantKinds, .ref oc_constantValues, .ref oc_upvalues, .ref oc_tape, .ref oc_open, .ref oc_left, .int oc_prototypeCount, .int oc_constantCount, .int oc_codeCount, .int oc_upvalueCount, .int oc_length, .int oc_at, .int oc_faultFound, .int oc_faultPlace])), (oq, .inl (kq, 250, .inr (.inr (.inr (.inr (fun _ => none)))))), (oo, .inl (ko, 1, .inr (.inl fo)))] s.heap := hP
  have hD : va_D A [(h0, .inr (0, [.int 0, .int h0_loaded, .ref oc, .ref oh, .ref om, .ref os, .ref ob])), (oc, .inr (1, [.ref oq, .ref oc_children, .ref oc_code, .ref oc_constantKinds, .ref oc_constantValues, .ref oc_upvalues, .ref oc_tape, .ref oc_open, .ref oc_left, .int oc_prototypeCount, .int oc_constantCount, .int oc_codeCount, .int oc_upvalueCount, .int oc_length, .int oc_at, .int oc_faultFound, .int oc_faultPlace])), (oq, .inl (kq, 250, .inr (.inr (.inr (.inr (fun _ => none)))))), (oo, .inl (ko, 1, .inr (.inl fo)))] := hD
  refine lv_aload_n hx hb d_law_load_0 rfl (lv_at hl 1 rfl) ?_
  refine lv_iconst (v := 0) hx hb d_law_load_1 (by decide) ?_
  refine lv_aload_n hx hb d_law_load_2 rfl (lv_at hl 0 rfl) ?_
  have hPc := hP.sub (ws' := [(h0, .inr (0, [.int 0, .int h0_loaded, .ref oc, .ref oh, .ref om, .ref os, .ref ob])), (oc, .inr (1, [.ref oq, .ref oc_children, .ref oc_code, .ref oc_constantKinds, .ref oc_constantValues, .ref oc_upvalues, .ref oc_tape, .ref oc_open, .ref oc_left, .int oc_prototypeCount, .int oc_constantCount, .int oc_codeCount, .int oc_upvalueCount, .int oc_length, .int oc_at, .int oc_faultFound, .int oc_faultPlace])), (oq, .inl (kq, 250, .inr (.inr (.inr (.inr (fun _ => none))))))]) [0, 1, 2] rfl
  have hDc := hD.sub (ws' := [(h0, .inr (0, [.int 0, .int h0_loaded, .ref oc, .ref oh, .ref om, .ref os, .ref ob])), (oc, .inr (1, [.ref oq, .ref oc_children, .ref oc_code, .ref oc_constantKinds, .ref oc_constantValues, .ref oc_upvalues, .ref oc_tape, .ref oc_open, .ref oc_left, .int oc_prototypeCount, .int oc_constantCount, .int oc_codeCount, .int oc_upvalueCount, .int oc_length, .int oc_at, .int oc_faultFound, .int oc_faultPlace])), (oq, .inl (kq, 250, .inr (.inr (.inr (.inr (fun _ => none))))))]) [0, 1, 2] (by decide) rfl
  have hKc := hK.sub (tys' := [(kq, .object R_Pr)]) [0] rfl
  have hFc := va_free (wc := [(h0, .inr (0, [.int 0, .int h0_loaded, .ref oc, .ref oh, .ref om, .ref os, .ref ob])), (oc, .inr (1, [.ref oq, .ref oc_children, .ref oc_code, .ref oc_constantKinds, .ref oc_constantValues, .ref oc_upvalues, .ref oc_tape, .ref oc_open, .ref oc_left, .int oc_prototypeCount, .int oc_constantCount, .int oc_codeCount, .int oc_upvalueCount, .int oc_length, .int oc_at, .int oc_faultFound, .int oc_faultPlace])), (oq, .inl (kq, 250, .inr (.inr (.inr (.inr (fun _ => none))))))]) hD hS hA [0, 1, 2] rfl
  refine xcall (A1 := va_A [(h0, .inr (0, [.int 0, .int h0_loaded, .ref oc, .ref oh, .ref om, .ref os, .ref ob])), (oc, .inr (1, [.ref oq, .ref oc_children, .ref oc_code, .ref oc_constantKinds, .ref oc_constantValues, .ref oc_upvalues, .ref oc_tape, .ref oc_open, .ref oc_left, .int oc_prototypeCount, .int oc_constantCount, .int oc_codeCount, .int oc_upvalueCount, .int oc_length, .int oc_at, .int oc_faultFound, .int oc_faultPlace])), (oq, .inl (kq, 250, .inr (.inr (.inr (.inr (fun _ => none))))))] s.heap.size) (rest := [.int 0, .ref oo]) (name := "java/lang/UnsupportedOperationException") (As := []) ⟨hx, hb, hml, hown, hts⟩ (c_LM_load_empty l hst dC dI h0 oc oh om os ob h0_loaded oq kq oc_children oc_code oc_constantKinds oc_constantValues oc_upvalues oc_tape oc_open oc_left oc_prototypeCount oc_constantCount oc_codeCount oc_upvalueCount oc_length oc_at oc_faultFound oc_faultPlace s.heap.size ) (cwV 0 hts (gV kw_289 kw_290 kw_291 kw_122 k_LM_load) rfl rfl rfl (by decide +kernel) ⟨(Nat.le_of_ble_eq_true rfl), (Nat.le_of_ble_eq_true rfl)⟩) ⟨fun a U g mk q => by obtain ⟨q0, q1, qP, qK, qD, qhB, qhZ⟩ := q; exact ⟨q0, q1, qP, va_K.moved (u := U) (U := U.calling g mk a) (Vm.Alike.refl U.vm) qK, qD, xB.warm (s := U) (U := U.calling g mk a) (State.WarmedH.refl U) qhB, xZ.moved (u := U) (U := U.calling g mk a) (Vm.Alike.refl U.vm) qhZ⟩, va_recv hKc hPc (ci := 0) (q0 := 0) rfl rfl, fun U hU hW => ⟨rfl, by rw [hU], by rw [hU]; exact hPc, va_K.moved hW.alike hKc, hDc.weaken (fun _ _ _ _ => trivial), xB.warm hW hB, (by rw [hU]; exact xZ.moved hW.alike ((hZ.kept hS.2.1).narrow hFc))⟩⟩ rfl hl.1 rfl (Nat.le_of_ble_eq_true rfl) d_law_load_3 ⟨(Nat.le_of_ble_eq_true rfl), (Nat.le_of_ble_eq_true rfl)⟩ hS (fun q _ h => hFc q h) hFc (fun _ _ h => h) [] ⟨0, 8, 11, 25⟩ [⟨0, 8, 14, 13⟩] hTab (fun _ h => nomatch h) (by decide) (by decide) (hts (.classLink R_law 25 "java/lang/UnsupportedOperationException") (List.mem_cons_of_mem _ kw_292)) (va_Nw.use rfl (hB _ nwc_UnsupportedOperationException)) (fun q9 t H1 locs ht hvm hQ hz1 hk1 hS => ?_)
  obtain ⟨hP, hD⟩ := va_join (wr := [(oo, .inl (ko, 1, .inr (.inl fo)))]) (w1 := []) hP hD [0, 1, 2] [3] rfl rfl (by decide) (by decide) hk1 hFc xP0 xD0
  generalize H1 = H at hP hS ⊢
  have hP : va_P (dC, dI) vwCl [(oo, .inl (ko, 1, .inr (.inl fo)))] H := hP
  have hD : va_D A [(oo, .inl (ko, 1, .inr (.inl fo)))] := hD
  refine W.widen (k := 2) (n := 19) (Nat.le_of_ble_eq_true rfl) (Nat.le_of_ble_eq_true rfl) ?_
  refine lv_astore_n (lv' := [(2, .ref q9), (0, .ref h0), (1, .ref oo)]) hx hb d_law_load_11 rfl hl (by decide) rfl (fun ls hl => ?_)
  refine lv_iconst (v := 1) hx hb d_law_load_12 (by decide) ?_
  have hP9 := hP.sub (ws' := [(oo, .inl (ko, 1, .inr (.inl fo)))]) [0] rfl
  have hD9 := hD.sub (ws' := [(oo, .inl (ko, 1, .inr (.inl fo)))]) [0] (by decide) rfl
  have hK9 := hK.sub (tys' := [(ko, .long)]) [1] rfl
  refine W.widen (k := 2) (n := 19) (Nat.le_of_ble_eq_true rfl) (Nat.le_of_ble_eq_true rfl) ?_
  exact W.iret (v := 1) hx hb hr (fun t ht hW => ⟨⟨1, (), rfl, rfl, by rw [ht]; exact hP9, va_K.moved hW.alike hK9, hD9⟩, hS.F ht⟩) hS.2.2 d_law_load_13

