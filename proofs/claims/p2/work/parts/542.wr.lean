abbrev b_law_feed : ByteArray := method_3_code
def y_law_feed : MethodName := ⟨R_law, "feed", "(LLuaMachine;IIIII[J)I"⟩
abbrev w_law_feed : List Cond := .codeWith y_law_feed b_law_feed 8 (some .int) [(0, 16, 19, 13)] :: wA
theorem k_law_feed : Cond.codeWith y_law_feed b_law_feed 8 (some .int) [(0, 16, 19, 13)] ∈ wA := kinm (show _ ∈ tables_1 from (List.mem_append_right _ (List.mem_append_left _ (List.mem_of_getElem? (l := tables_1_2) (i := 238) (by decide +kernel))))) (by decide +kernel)
theorem d_law_feed_0 : decode b_law_feed 0 = .ok (.aload 6, 2) := by decide +kernel
theorem d_law_feed_2 : decode b_law_feed 2 = .ok (.iconst 0, 1) := by decide +kernel
theorem d_law_feed_3 : decode b_law_feed 3 = .ok (.aload_n 0, 1) := by decide +kernel
theorem d_law_feed_4 : decode b_law_feed 4 = .ok (.iload_n 1, 1) := by decide +kernel
theorem d_law_feed_5 : decode b_law_feed 5 = .ok (.iload_n 2, 1) := by decide +kernel
theorem d_law_feed_6 : decode b_law_feed 6 = .ok (.iload_n 3, 1) := by decide +kernel
theorem d_law_feed_7 : decode b_law_feed 7 = .ok (.iload 4, 2) := by decide +kernel
theorem d_law_feed_9 : decode b_law_feed 9 = .ok (.iload 5, 2) := by decide +kernel
theorem d_law_feed_11 : decode b_law_feed 11 = .ok (.invokevirtual 7, 3) := by decide +kernel
theorem d_law_feed_14 : decode b_law_feed 14 = .ok (.i2l, 1) := by decide +kernel
theorem d_law_feed_15 : decode b_law_feed 15 = .ok (.lastore, 1) := by decide +kernel
theorem d_law_feed_16 : decode b_law_feed 16 = .ok (.goto 7, 3) := by decide +kernel
theorem d_law_feed_19 : decode b_law_feed 19 = .ok (.astore 7, 2) := by decide +kernel
theorem d_law_feed_21 : decode b_law_feed 21 = .ok (.iconst 1, 1) := by decide +kernel
theorem d_law_feed_22 : decode b_law_feed 22 = .ok (.ireturn, 1) := by decide +kernel
theorem d_law_feed_23 : decode b_law_feed 23 = .ok (.iconst 0, 1) := by decide +kernel
theorem d_law_feed_24 : decode b_law_feed 24 = .ok (.ireturn, 1) := by decide +kernel
theorem kt_12 : Cond.methodLink R_law 7 y_LM_feed ∈ wA := kinm (show _ ∈ tables_1 from (List.mem_append_right _ (List.mem_append_right _ (List.mem_append_left _ (List.mem_of_getElem? (l := tables_1_3) (i := 0) (by decide +kernel)))))) (by decide +kernel)
theorem kt_13 : Cond.classLink R_law 13 "java/lang/IllegalStateException" ∈ wA := kinm (show _ ∈ tables_1 from (List.mem_append_right _ (List.mem_append_left _ (List.mem_of_getElem? (l := tables_1_2) (i := 239) (by decide +kernel))))) (by decide +kernel)
abbrev b_law_end : ByteArray := method_4_code
def y_law_end : MethodName := ⟨R_law, "end", "(LLuaMachine;I[J)I"⟩
abbrev w_law_end : List Cond := .codeWith y_law_end b_law_end 4 (some .int) [(0, 9, 12, 19)] :: wA
theorem k_law_end : Cond.codeWith y_law_end b_law_end 4 (some .int) [(0, 9, 12, 19)] ∈ wA := kinm (show _ ∈ tables_1 from (List.mem_append_right _ (List.mem_append_right _ (List.mem_append_left _ (List.mem_of_getElem? (l := tables_1_3) (i := 77) (by decide +kernel)))))) (by decide +kernel)
theorem d_law_end_0 : decode b_law_end 0 = .ok (.aload_n 2, 1) := by decide +kernel
theorem d_law_end_1 : decode b_law_end 1 = .ok (.iconst 0, 1) := by decide +kernel
theorem d_law_end_2 : decode b_law_end 2 = .ok (.aload_n 0, 1) := by decide +kernel
theorem d_law_end_3 : decode b_law_end 3 = .ok (.iload_n 1, 1) := by decide +kernel
theorem d_law_end_4 : decode b_law_end 4 = .ok (.invokevirtual 15, 3) := by decide +kernel
theorem d_law_end_7 : decode b_law_end 7 = .ok (.i2l, 1) := by decide +kernel
theorem d_law_end_8 : decode b_law_end 8 = .ok (.lastore, 1) := by decide +kernel
theorem d_law_end_9 : decode b_law_end 9 = .ok (.goto 6, 3) := by decide +kernel
theorem d_law_end_12 : decode b_law_end 12 = .ok (.astore_n 3, 1) := by decide +kernel
theorem d_law_end_13 : decode b_law_end 13 = .ok (.iconst 1, 1) := by decide +kernel
theorem d_law_end_14 : decode b_law_end 14 = .ok (.ireturn, 1) := by decide +kernel
theorem d_law_end_15 : decode b_law_end 15 = .ok (.iconst 0, 1) := by decide +kernel
theorem d_law_end_16 : decode b_law_end 16 = .ok (.ireturn, 1) := by decide +kernel
theorem kt_14 : Cond.methodLink R_law 15 y_LM_end ∈ wA := kinm (show _ ∈ tables_1 from (List.mem_append_right _ (List.mem_append_right _ (List.mem_append_left _ (List.mem_of_getElem? (l := tables_1_3) (i := 79) (by decide +kernel)))))) (by decide +kernel)
theorem kt_15 : Cond.classLink R_law 19 "java/lang/IllegalArgumentException" ∈ wA := kinm (show _ ∈ tables_1 from (List.mem_append_right _ (List.mem_append_right _ (List.mem_append_left _ (List.mem_of_getElem? (l := tables_1_3) (i := 78) (by decide +kernel)))))) (by decide +kernel)
abbrev b_law_load : ByteArray := method_5_code
def y_law_load : MethodName := ⟨R_law, "load", "(LLuaMachine;[J)I"⟩
abbrev w_law_load : List Cond := .codeWith y_law_load b_law_load 3 (some .int) [(0, 8, 11, 25), (0, 8, 14, 13)] :: wA
theorem k_law_load : Cond.codeWith y_law_load b_law_load 3 (some .int) [(0, 8, 11, 25), (0, 8, 14, 13)] ∈ wA := kinm (show _ ∈ tables_1 from (List.mem_append_right _ (List.mem_append_right _ (List.mem_append_left _ (List.mem_of_getElem? (l := tables_1_3) (i := 100) (by decide +kernel)))))) (by decide +kernel)
theorem d_law_load_0 : decode b_law_load 0 = .ok (.aload_n 1, 1) := by decide +kernel
theorem d_law_load_1 : decode b_law_load 1 = .ok (.iconst 0, 1) := by decide +kernel
theorem d_law_load_2 : decode b_law_load 2 = .ok (.aload_n 0, 1) := by decide +kernel
theorem d_law_load_3 : decode b_law_load 3 = .ok (.invokevirtual 21, 3) := by decide +kernel
theorem d_law_load_6 : decode b_law_load 6 = .ok (.i2l, 1) := by decide +kernel
theorem d_law_load_7 : decode b_law_load 7 = .ok (.lastore, 1) := by decide +kernel
theorem d_law_load_8 : decode b_law_load 8 = .ok (.goto 9, 3) := by decide +kernel
theorem d_law_load_11 : decode b_law_load 11 = .ok (.astore_n 2, 1) := by decide +kernel
theorem d_law_load_12 : decode b_law_load 12 = .ok (.iconst 1, 1) := by decide +kernel
theorem d_law_load_13 : decode b_law_load 13 = .ok (.ireturn, 1) := by decide +kernel
theorem d_law_load_14 : decode b_law_load 14 = .ok (.astore_n 2, 1) := by decide +kernel
theorem d_law_load_15 : decode b_law_load 15 = .ok (.iconst 2, 1) := by decide +kernel
theorem d_law_load_16 : decode b_law_load 16 = .ok (.ireturn, 1) := by decide +kernel
theorem d_law_load_17 : decode b_law_load 17 = .ok (.iconst 0, 1) := by decide +kernel
theorem d_law_load_18 : decode b_law_load 18 = .ok (.ireturn, 1) := by decide +kernel
theorem kt_16 : Cond.methodLink R_law 21 y_LM_load ∈ wA := kinm (show _ ∈ tables_1 from (List.mem_append_right _ (List.mem_append_right _ (List.mem_append_left _ (List.mem_of_getElem? (l := tables_1_3) (i := 102) (by decide +kernel)))))) (by decide +kernel)
theorem kt_17 : Cond.classLink R_law 25 "java/lang/UnsupportedOperationException" ∈ wA := kinm (show _ ∈ tables_1 from (List.mem_append_right _ (List.mem_append_right _ (List.mem_append_left _ (List.mem_of_getElem? (l := tables_1_3) (i := 101) (by decide +kernel)))))) (by decide +kernel)
abbrev b_law_fault : ByteArray := method_6_code
def y_law_fault : MethodName := ⟨R_law, "fault", "(LLuaMachine;I[J)I"⟩
abbrev w_law_fault : List Cond := .codeWith y_law_fault b_law_fault 4 (some .int) [(0, 9, 12, 19)] :: wA
theorem k_law_fault : Cond.codeWith y_law_fault b_law_fault 4 (some .int) [(0, 9, 12, 19)] ∈ wA := kinm (show _ ∈ tables_1 from (List.mem_append_right _ (List.mem_append_right _ (List.mem_append_right _ (List.mem_append_right _ (List.mem_append_right _ (List.mem_append_left _ (List.mem_of_getElem? (l := tables_1_6) (i := 239) (by decide +kernel))))))))) (by decide +kernel)
theorem d_law_fault_0 : decode b_law_fault 0 = .ok (.aload_n 2, 1) := by decide +kernel
theorem d_law_fault_1 : decode b_law_fault 1 = .ok (.iconst 0, 1) := by decide +kernel
theorem d_law_fault_2 : decode b_law_fault 2 = .ok (.aload_n 0, 1) := by decide +kernel
theorem d_law_fault_3 : decode b_law_fault 3 = .ok (.iload_n 1, 1) := by decide +kernel
theorem d_law_fault_4 : decode b_law_fault 4 = .ok (.invokevirtual 27, 3) := by decide +kernel
theorem d_law_fault_7 : decode b_law_fault 7 = .ok (.i2l, 1) := by decide +kernel
theorem d_law_fault_8 : decode b_law_fault 8 = .ok (.lastore, 1) := by decide +kernel
theorem d_law_fault_9 : decode b_law_fault 9 = .ok (.goto 6, 3) := by decide +kernel
theorem d_law_fault_12 : decode b_law_fault 12 = .ok (.astore_n 3, 1) := by decide +kernel
theorem d_law_fault_13 : decode b_law_fault 13 = .ok (.iconst 1, 1) := by decide +kernel
theorem d_law_fault_14 : decode b_law_fault 14 = .ok (.ireturn, 1) := by decide +kernel
theorem d_law_fault_15 : decode b_law_fault 15 = .ok (.iconst 0, 1) := by decide +kernel
theorem d_law_fault_16 : decode b_law_fault 16 = .ok (.ireturn, 1) := by decide +kernel
theorem kt_18 : Cond.methodLink R_law 27 y_LM_fault ∈ wA := kinm (show _ ∈ tables_1 from (List.mem_append_right _ (List.mem_append_right _ (List.mem_append_right _ (List.mem_append_right _ (List.mem_append_right _ (List.mem_append_right _ (List.mem_append_left _ (List.mem_of_getElem? (l := tables_1_7) (i := 0) (by decide +kernel)))))))))) (by decide +kernel)
abbrev b_law_limit : ByteArray := method_7_code
def y_law_limit : MethodName := ⟨R_law, "limit", "(LLuaMachine;I[J)I"⟩
abbrev w_law_limit : List Cond := .codeWith y_law_limit b_law_limit 4 (some .int) [(0, 9, 12, 19)] :: wA
theorem k_law_limit : Cond.codeWith y_law_limit b_law_limit 4 (some .int) [(0, 9, 12, 19)] ∈ wA := kinm (show _ ∈ tables_1 from (List.mem_append_right _ (List.mem_append_right _ (List.mem_append_right _ (List.mem_append_right _ (List.mem_append_right _ (List.mem_append_right _ (List.mem_append_left _ (List.mem_of_getElem? (l := tables_1_7) (i := 6) (by decide +kernel)))))))))) (by decide +kernel)
theorem d_law_limit_0 : decode b_law_limit 0 = .ok (.aload_n 2, 1) := by decide +kernel
theorem d_law_limit_1 : decode b_law_limit 1 = .ok (.iconst 0, 1) := by decide +kernel
theorem d_law_limit_2 : decode b_law_limit 2 = .ok (.aload_n 0, 1) := by decide +kernel
theorem d_law_limit_3 : decode b_law_limit 3 = .ok (.iload_n 1, 1) := by decide +kernel
theorem d_law_limit_4 : decode b_law_limit 4 = .ok (.invokevirtual 30, 3) := by decide +kernel
theorem d_law_limit_7 : decode b_law_limit 7 = .ok (.i2l, 1) := by decide +kernel
theorem d_law_limit_8 : decode b_law_limit 8 = .ok (.lastore, 1) := by decide +kernel
theorem d_law_limit_9 : decode b_law_limit 9 = .ok (.goto 6, 3) := by decide +kernel
theorem d_law_limit_12 : decode b_law_limit 12 = .ok (.astore_n 3, 1) := by decide +kernel
theorem d_law_limit_13 : decode b_law_limit 13 = .ok (.iconst 1, 1) := by decide +kernel
theorem d_law_limit_14 : decode b_law_limit 14 = .ok (.ireturn, 1) := by decide +kernel
theorem d_law_limit_15 : decode b_law_limit 15 = .ok (.iconst 0, 1) := by decide +kernel
theorem d_law_limit_16 : decode b_law_limit 16 = .ok (.ireturn, 1) := by decide +kernel
theorem kt_19 : Cond.methodLink R_law 30 y_LM_limit ∈ wA := kinm (show _ ∈ tables_1 from (List.mem_append_right _ (List.mem_append_right _ (List.mem_append_right _ (List.mem_append_right _ (List.mem_append_right _ (List.mem_append_right _ (List.mem_append_left _ (List.mem_of_getElem? (l := tables_1_7) (i := 7) (by decide +kernel)))))))))) (by decide +kernel)
abbrev b_law_run : ByteArray := method_8_code
def y_law_run : MethodName := ⟨R_law, "run", "(LLuaMachine;I[J)I"⟩
abbrev w_law_run : List Cond := .codeWith y_law_run b_law_run 4 (some .int) [(0, 9, 12, 19), (0, 9, 15, 13)] :: wA
theorem k_law_run : Cond.codeWith y_law_run b_law_run 4 (some .int) [(0, 9, 12, 19), (0, 9, 15, 13)] ∈ wA := kinm (show _ ∈ tables_1 from (List.mem_append_right _ (List.mem_append_right _ (List.mem_append_right _ (List.mem_append_right _ (List.mem_append_right _ (List.mem_append_right _ (List.mem_append_left _ (List.mem_of_getElem? (l := tables_1_7) (i := 13) (by decide +kernel)))))))))) (by decide +kernel)
theorem d_law_run_0 : decode b_law_run 0 = .ok (.aload_n 2, 1) := by decide +kernel
theorem d_law_run_1 : decode b_law_run 1 = .ok (.iconst 0, 1) := by decide +kernel
theorem d_law_run_2 : decode b_law_run 2 = .ok (.aload_n 0, 1) := by decide +kernel
theorem d_law_run_3 : decode b_law_run 3 = .ok (.iload_n 1, 1) := by decide +kernel
theorem d_law_run_4 : decode b_law_run 4 = .ok (.invokevirtual 33, 3) := by decide +kernel
theorem d_law_run_7 : decode b_law_run 7 = .ok (.i2l, 1) := by decide +kernel
theorem d_law_run_8 : decode b_law_run 8 = .ok (.lastore, 1) := by decide +kernel
theorem d_law_run_9 : decode b_law_run 9 = .ok (.goto 9, 3) := by decide +kernel
theorem d_law_run_12 : decode b_law_run 12 = .ok (.astore_n 3, 1) := by decide +kernel
theorem d_law_run_13 : decode b_law_run 13 = .ok (.iconst 1, 1) := by decide +kernel
theorem d_law_run_14 : decode b_law_run 14 = .ok (.ireturn, 1) := by decide +kernel
theorem d_law_run_15 : decode b_law_run 15 = .ok (.astore_n 3, 1) := by decide +kernel
theorem d_law_run_16 : decode b_law_run 16 = .ok (.iconst 2, 1) := by decide +kernel
theorem d_law_run_17 : decode b_law_run 17 = .ok (.ireturn, 1) := by decide +kernel
theorem d_law_run_18 : decode b_law_run 18 = .ok (.iconst 0, 1) := by decide +kernel
theorem d_law_run_19 : decode b_law_run 19 = .ok (.ireturn, 1) := by decide +kernel
theorem kt_20 : Cond.methodLink R_law 33 y_LM_run ∈ wA := kinm (show _ ∈ tables_1 from (List.mem_append_right _ (List.mem_append_right _ (List.mem_append_right _ (List.mem_append_right _ (List.mem_append_right _ (List.mem_append_right _ (List.mem_append_left _ (List.mem_of_getElem? (l := tables_1_7) (i := 14) (by decide +kernel)))))))))) (by decide +kernel)
abbrev b_law_collect : ByteArray := method_9_code
def y_law_collect : MethodName := ⟨R_law, "collect", "(LLuaMachine;[J)I"⟩
abbrev w_law_collect : List Cond := .codeWith y_law_collect b_law_collect 3 (some .int) [(0, 8, 11, 13)] :: wA
theorem k_law_collect : Cond.codeWith y_law_collect b_law_collect 3 (some .int) [(0, 8, 11, 13)] ∈ wA := kinm (show _ ∈ tables_1 from (List.mem_append_right _ (List.mem_append_right _ (List.mem_append_right _ (List.mem_append_right _ (List.mem_append_right _ (List.mem_append_right _ (List.mem_append_right _ (List.mem_append_right _ (List.mem_append_left _ (List.mem_of_getElem? (l := tables_1_9) (i := 54) (by decide +kernel)))))))))))) (by decide +kernel)
theorem d_law_collect_0 : decode b_law_collect 0 = .ok (.aload_n 1, 1) := by decide +kernel
theorem d_law_collect_1 : decode b_law_collect 1 = .ok (.iconst 0, 1) := by decide +kernel
theorem d_law_collect_2 : decode b_law_collect 2 = .ok (.aload_n 0, 1) := by decide +kernel
theorem d_law_collect_3 : decode b_law_collect 3 = .ok (.invokevirtual 36, 3) := by decide +kernel
theorem d_law_collect_6 : decode b_law_collect 6 = .ok (.i2l, 1) := by decide +kernel
theorem d_law_collect_7 : decode b_law_collect 7 = .ok (.lastore, 1) := by decide +kernel
theorem d_law_collect_8 : decode b_law_collect 8 = .ok (.goto 6, 3) := by decide +kernel
theorem d_law_collect_11 : decode b_law_collect 11 = .ok (.astore_n 2, 1) := by decide +kernel
theorem d_law_collect_12 : decode b_law_collect 12 = .ok (.iconst 1, 1) := by decide +kernel
theorem d_law_collect_13 : decode b_law_collect 13 = .ok (.ireturn, 1) := by decide +kernel
theorem d_law_collect_14 : decode b_law_collect 14 = .ok (.iconst 0, 1) := by decide +kernel
theorem d_law_collect_15 : decode b_law_collect 15 = .ok (.ireturn, 1) := by decide +kernel
theorem kt_21 : Cond.methodLink R_law 36 y_LM_collect ∈ wA := kinm (show _ ∈ tables_1 from (List.mem_append_right _ (List.mem_append_right _ (List.mem_append_right _ (List.mem_append_right _ (List.mem_append_right _ (List.mem_append_right _ (List.mem_append_right _ (List.mem_append_right _ (List.mem_append_left _ (List.mem_of_getElem? (l := tables_1_9) (i := 55) (by decide +kernel)))))))))))) (by decide +kernel)
abbrev b_law_kind : ByteArray := method_10_code
def y_law_kind : MethodName := ⟨R_law, "kind", "(LLuaMachine;I[J)I"⟩
abbrev w_law_kind : List Cond := .codeWith y_law_kind b_law_kind 4 (some .int) [(0, 9, 12, 42)] :: wA
theorem k_law_kind : Cond.codeWith y_law_kind b_law_kind 4 (some .int) [(0, 9, 12, 42)] ∈ wA := kinm (show _ ∈ tables_1 from (List.mem_append_right _ (List.mem_append_right _ (List.mem_append_right _ (List.mem_append_right _ (List.mem_append_right _ (List.mem_append_right _ (List.mem_append_right _ (List.mem_append_right _ (List.mem_append_left _ (List.mem_of_getElem? (l := tables_1_9) (i := 62) (by decide +kernel)))))))))))) (by decide +kernel)
theorem d_law_kind_0 : decode b_law_kind 0 = .ok (.aload_n 2, 1) := by decide +kernel
theorem d_law_kind_1 : decode b_law_kind 1 = .ok (.iconst 0, 1) := by decide +kernel
theorem d_law_kind_2 : decode b_law_kind 2 = .ok (.aload_n 0, 1) := by decide +kernel
theorem d_law_kind_3 : decode b_law_kind 3 = .ok (.iload_n 1, 1) := by decide +kernel
theorem d_law_kind_4 : decode b_law_kind 4 = .ok (.invokevirtual 39, 3) := by decide +kernel
theorem d_law_kind_7 : decode b_law_kind 7 = .ok (.i2l, 1) := by decide +kernel
theorem d_law_kind_8 : decode b_law_kind 8 = .ok (.lastore, 1) := by decide +kernel
theorem d_law_kind_9 : decode b_law_kind 9 = .ok (.goto 6, 3) := by decide +kernel
theorem d_law_kind_12 : decode b_law_kind 12 = .ok (.astore_n 3, 1) := by decide +kernel
theorem d_law_kind_13 : decode b_law_kind 13 = .ok (.iconst 1, 1) := by decide +kernel
theorem d_law_kind_14 : decode b_law_kind 14 = .ok (.ireturn, 1) := by decide +kernel
theorem d_law_kind_15 : decode b_law_kind 15 = .ok (.iconst 0, 1) := by decide +kernel
theorem d_law_kind_16 : decode b_law_kind 16 = .ok (.ireturn, 1) := by decide +kernel
theorem kt_22 : Cond.methodLink R_law 39 y_LM_kind ∈ wA := kinm (show _ ∈ tables_1 from (List.mem_append_right _ (List.mem_append_right _ (List.mem_append_right _ (List.mem_append_right _ (List.mem_append_right _ (List.mem_append_right _ (List.mem_append_right _ (List.mem_append_right _ (List.mem_append_left _ (List.mem_of_getElem? (l := tables_1_9) (i := 64) (by decide +kernel)))))))))))) (by decide +kernel)
theorem kt_23 : Cond.classLink R_law 42 "java/lang/IndexOutOfBoundsException" ∈ wA := kinm (show _ ∈ tables_1 from (List.mem_append_right _ (List.mem_append_right _ (List.mem_append_right _ (List.mem_append_right _ (List.mem_append_right _ (List.mem_append_right _ (List.mem_append_right _ (List.mem_append_right _ (List.mem_append_left _ (List.mem_of_getElem? (l := tables_1_9) (i := 63) (by decide +kernel)))))))))))) (by decide +kernel)
abbrev b_law_value : ByteArray := method_11_code
def y_law_value : MethodName := ⟨R_law, "value", "(LLuaMachine;I[J)I"⟩
abbrev w_law_value : List Cond := .codeWith y_law_value b_law_value 4 (some .int) [(0, 8, 11, 42)] :: wA
theorem k_law_value : Cond.codeWith y_law_value b_law_value 4 (some .int) [(0, 8, 11, 42)] ∈ wA := kinm (show _ ∈ tables_1 from (List.mem_append_right _ (List.mem_append_right _ (List.mem_append_right _ (List.mem_append_right _ (List.mem_append_right _ (List.mem_append_right _ (List.mem_append_right _ (List.mem_append_right _ (List.mem_append_left _ (List.mem_of_getElem? (l := tables_1_9) (i := 89) (by decide +kernel)))))))))))) (by decide +kernel)
theorem d_law_value_0 : decode b_law_value 0 = .ok (.aload_n 2, 1) := by decide +kernel
theorem d_law_value_1 : decode b_law_value 1 = .ok (.iconst 0, 1) := by decide +kernel
theorem d_law_value_2 : decode b_law_value 2 = .ok (.aload_n 0, 1) := by decide +kernel
theorem d_law_value_3 : decode b_law_value 3 = .ok (.iload_n 1, 1) := by decide +kernel
theorem d_law_value_4 : decode b_law_value 4 = .ok (.invokevirtual 44, 3) := by decide +kernel
theorem d_law_value_7 : decode b_law_value 7 = .ok (.lastore, 1) := by decide +kernel
theorem d_law_value_8 : decode b_law_value 8 = .ok (.goto 6, 3) := by decide +kernel
theorem d_law_value_11 : decode b_law_value 11 = .ok (.astore_n 3, 1) := by decide +kernel
theorem d_law_value_12 : decode b_law_value 12 = .ok (.iconst 1, 1) := by decide +kernel
theorem d_law_value_13 : decode b_law_value 13 = .ok (.ireturn, 1) := by decide +kernel
theorem d_law_value_14 : decode b_law_value 14 = .ok (.iconst 0, 1) := by decide +kernel
theorem d_law_value_15 : decode b_law_value 15 = .ok (.ireturn, 1) := by decide +kernel
theorem kt_24 : Cond.methodLink R_law 44 y_LM_value ∈ wA := kinm (show _ ∈ tables_1 from (List.mem_append_right _ (List.mem_append_right _ (List.mem_append_right _ (List.mem_append_right _ (List.mem_append_right _ (List.mem_append_right _ (List.mem_append_right _ (List.mem_append_right _ (List.mem_append_left _ (List.mem_of_getElem? (l := tables_1_9) (i := 90) (by decide +kernel)))))))))))) (by decide +kernel)
abbrev b_law_byteOf : ByteArray := method_12_code
def y_law_byteOf : MethodName := ⟨R_law, "byteOf", "(LLuaMachine;II[J)I"⟩
abbrev w_law_byteOf : List Cond := .codeWith y_law_byteOf b_law_byteOf 5 (some .int) [(0, 10, 13, 42), (0, 10, 17, 19)] :: wA
theorem k_law_byteOf : Cond.codeWith y_law_byteOf b_law_byteOf 5 (some .int) [(0, 10, 13, 42), (0, 10, 17, 19)] ∈ wA := kinm (show _ ∈ tables_1 from (List.mem_append_right _ (List.mem_append_right _ (List.mem_append_right _ (List.mem_append_right _ (List.mem_append_right _ (List.mem_append_right _ (List.mem_append_right _ (List.mem_append_right _ (List.mem_append_left _ (List.mem_of_getElem? (l := tables_1_9) (i := 97) (by decide +kernel)))))))))))) (by decide +kernel)
theorem d_law_byteOf_0 : decode b_law_byteOf 0 = .ok (.aload_n 3, 1) := by decide +kernel
theorem d_law_byteOf_1 : decode b_law_byteOf 1 = .ok (.iconst 0, 1) := by decide +kernel
theorem d_law_byteOf_2 : decode b_law_byteOf 2 = .ok (.aload_n 0, 1) := by decide +kernel
theorem d_law_byteOf_3 : decode b_law_byteOf 3 = .ok (.iload_n 1, 1) := by decide +kernel
theorem d_law_byteOf_4 : decode b_law_byteOf 4 = .ok (.iload_n 2, 1) := by decide +kernel
theorem d_law_byteOf_5 : decode b_law_byteOf 5 = .ok (.invokevirtual 48, 3) := by decide +kernel
theorem d_law_byteOf_8 : decode b_law_byteOf 8 = .ok (.i2l, 1) := by decide +kernel
theorem d_law_byteOf_9 : decode b_law_byteOf 9 = .ok (.lastore, 1) := by decide +kernel
theorem d_law_byteOf_10 : decode b_law_byteOf 10 = .ok (.goto 11, 3) := by decide +kernel
theorem d_law_byteOf_13 : decode b_law_byteOf 13 = .ok (.astore 4, 2) := by decide +kernel
theorem d_law_byteOf_15 : decode b_law_byteOf 15 = .ok (.iconst 1, 1) := by decide +kernel
theorem d_law_byteOf_16 : decode b_law_byteOf 16 = .ok (.ireturn, 1) := by decide +kernel
theorem d_law_byteOf_17 : decode b_law_byteOf 17 = .ok (.astore 4, 2) := by decide +kernel
theorem d_law_byteOf_19 : decode b_law_byteOf 19 = .ok (.iconst 2, 1) := by decide +kernel
theorem d_law_byteOf_20 : decode b_law_byteOf 20 = .ok (.ireturn, 1) := by decide +kernel
theorem d_law_byteOf_21 : decode b_law_byteOf 21 = .ok (.iconst 0, 1) := by decide +kernel
theorem d_law_byteOf_22 : decode b_law_byteOf 22 = .ok (.ireturn, 1) := by decide +kernel
theorem kt_25 : Cond.methodLink R_law 48 y_LM_byteOf ∈ wA := kinm (show _ ∈ tables_1 from (List.mem_append_right _ (List.mem_append_right _ (List.mem_append_right _ (List.mem_append_right _ (List.mem_append_right _ (List.mem_append_right _ (List.mem_append_right _ (List.mem_append_right _ (List.mem_append_left _ (List.mem_of_getElem? (l := tables_1_9) (i := 98) (by decide +kernel)))))))))))) (by decide +kernel)
abbrev b_law_output : ByteArray := method_13_code
def y_law_output : MethodName := ⟨R_law, "output", "(LLuaMachine;I[J)I"⟩
abbrev w_law_output : List Cond := .codeWith y_law_output b_law_output 4 (some .int) [(0, 9, 12, 42)] :: wA
theorem k_law_output : Cond.codeWith y_law_output b_law_output 4 (some .int) [(0, 9, 12, 42)] ∈ wA := kinm (show _ ∈ tables_1 from (List.mem_append_right _ (List.mem_append_right _ (List.mem_append_right _ (List.mem_append_right _ (List.mem_append_right _ (List.mem_append_right _ (List.mem_append_right _ (List.mem_append_right _ (List.mem_append_left _ (List.mem_of_getElem? (l := tables_1_9) (i := 104) (by decide +kernel)))))))))))) (by decide +kernel)
theorem d_law_output_0 : decode b_law_output 0 = .ok (.aload_n 2, 1) := by decide +kernel
theorem d_law_output_1 : decode b_law_output 1 = .ok (.iconst 0, 1) := by decide +kernel
theorem d_law_output_2 : decode b_law_output 2 = .ok (.aload_n 0, 1) := by decide +kernel
theorem d_law_output_3 : decode b_law_output 3 = .ok (.iload_n 1, 1) := by decide +kernel
theorem d_law_output_4 : decode b_law_output 4 = .ok (.invokevirtual 52, 3) := by decide +kernel
theorem d_law_output_7 : decode b_law_output 7 = .ok (.i2l, 1) := by decide +kernel
theorem d_law_output_8 : decode b_law_output 8 = .ok (.lastore, 1) := by decide +kernel
theorem d_law_output_9 : decode b_law_output 9 = .ok (.goto 6, 3) := by decide +kernel
theorem d_law_output_12 : decode b_law_output 12 = .ok (.astore_n 3, 1) := by decide +kernel
theorem d_law_output_13 : decode b_law_output 13 = .ok (.iconst 1, 1) := by decide +kernel
theorem d_law_output_14 : decode b_law_output 14 = .ok (.ireturn, 1) := by decide +kernel
theorem d_law_output_15 : decode b_law_output 15 = .ok (.iconst 0, 1) := by decide +kernel
theorem d_law_output_16 : decode b_law_output 16 = .ok (.ireturn, 1) := by decide +kernel
theorem kt_26 : Cond.methodLink R_law 52 y_LM_output ∈ wA := kinm (show _ ∈ tables_1 from (List.mem_append_right _ (List.mem_append_right _ (List.mem_append_right _ (List.mem_append_right _ (List.mem_append_right _ (List.mem_append_right _ (List.mem_append_right _ (List.mem_append_right _ (List.mem_append_left _ (List.mem_of_getElem? (l := tables_1_9) (i := 105) (by decide +kernel)))))))))))) (by decide +kernel)
theorem nwc_1 : Cond.castable "java/lang/IllegalStateException" "java/lang/IllegalStateException" ∈ xW := xinm (show _ ∈ tables_1 from (List.mem_append_right _ (List.mem_append_right _ (List.mem_append_left _ (List.mem_of_getElem? (l := tables_1_3) (i := 7) (by decide +kernel)))))) (by decide +kernel)
theorem nwc_2 : Cond.castable "java/lang/IllegalArgumentException" "java/lang/IllegalArgumentException" ∈ xW := xinm (show _ ∈ tables_1 from (List.mem_append_right _ (List.mem_append_right _ (List.mem_append_left _ (List.mem_of_getElem? (l := tables_1_3) (i := 85) (by decide +kernel)))))) (by decide +kernel)
theorem nwc_3 : Cond.castable "java/lang/UnsupportedOperationException" "java/lang/UnsupportedOperationException" ∈ xW := xinm (show _ ∈ tables_1 from (List.mem_append_right _ (List.mem_append_right _ (List.mem_append_right _ (List.mem_append_left _ (List.mem_of_getElem? (l := tables_1_4) (i := 57) (by decide +kernel))))))) (by decide +kernel)
theorem nwc_4 : Cond.castable "java/lang/IndexOutOfBoundsException" "java/lang/IndexOutOfBoundsException" ∈ xW := xinm (show _ ∈ tables_1 from (List.mem_append_right _ (List.mem_append_right _ (List.mem_append_right _ (List.mem_append_right _ (List.mem_append_right _ (List.mem_append_right _ (List.mem_append_right _ (List.mem_append_right _ (List.mem_append_left _ (List.mem_of_getElem? (l := tables_1_9) (i := 74) (by decide +kernel)))))))))))) (by decide +kernel)
/-! What the programs with throwing roads say where they return, and what they throw. -/
def Re (β : Type) (f : M (Int32 ⊕ β)) (g : M β) : Prop := ∀ s v s', f s = some (Sum.inr v, s') → g s = some (v, s')
def ReX (β : Type) (f : M ((Int32 ⊕ β) × (Nat × Nat))) (g : M (β × (Nat × Nat))) : Prop := ∀ s v n s', f s = some ((Sum.inr v, n), s') → g s = some ((v, n), s')
def Ke (S : Int32 → Prop) (β : Type) (f : M (Int32 ⊕ β)) : Prop := ∀ s k s', f s = some (Sum.inl k, s') → S k
def KeX (S : Int32 → Prop) (β : Type) (f : M ((Int32 ⊕ β) × (Nat × Nat))) : Prop := ∀ s k n s', f s = some ((Sum.inl k, n), s') → S k
section RE
variable {α β : Type} {S : Int32 → Prop}
theorem re_B {f : M α} {g : α → M (Int32 ⊕ β)} {h : α → M β} (k : ∀ a, Re β (g a) (h a)) : Re β (oB f g) (oB f h) := fun s v s' e => by
  obtain ⟨a, s1, e1, e2⟩ := oB_of e
  show oB f h s = _
  unfold oB
  rw [e1]
  exact k a s1 v s' e2
theorem re_C {c : Prop} [Decidable c] {f f' : M (Int32 ⊕ β)} {g g' : M β} (a : Re β f g) (b : Re β f' g') : Re β (oC c f f') (oC c g g') := fun s v s' e => by
  unfold oC at e ⊢
  by_cases h : c
  · rw [if_pos h] at e ⊢
    exact a s v s' e
  · rw [if_neg h] at e ⊢
    exact b s v s' e
theorem re_R (v : β) : Re β (oR (Sum.inr v)) (oR v) := fun s w s' e => by
  unfold oR at e ⊢
  cases e
  rfl
theorem re_L (k : Int32) (g : M β) : Re β (oR (Sum.inl k)) g := fun s w s' e => by
  unfold oR at e
  cases e
theorem re_J (f : M β) : Re β (oB f (fun v => oR (Sum.inr v))) f := fun s v s' e => by
  obtain ⟨a, s1, e1, e2⟩ := oB_of e
  unfold oR at e2
  cases e2
  exact e1
theorem rx_B {f : M α} {g : α → M ((Int32 ⊕ β) × (Nat × Nat))} {h : α → M (β × (Nat × Nat))} (k : ∀ a, ReX β (g a) (h a)) : ReX β (oB f g) (oB f h) := fun s v n s' e => by
  obtain ⟨a, s1, e1, e2⟩ := oB_of e
  show oB f h s = _
  unfold oB
  rw [e1]
  exact k a s1 v n s' e2
theorem rx_C {c : Prop} [Decidable c] {f f' : M ((Int32 ⊕ β) × (Nat × Nat))} {g g' : M (β × (Nat × Nat))} (a : ReX β f g) (b : ReX β f' g') : ReX β (oC c f f') (oC c g g') := fun s v n s' e => by
  unfold oC at e ⊢
  by_cases h : c
  · rw [if_pos h] at e ⊢
    exact a s v n s' e
  · rw [if_neg h] at e ⊢
    exact b s v n s' e
theorem rx_R (v : β) (n : Nat × Nat) : ReX β (oR (Sum.inr v, n)) (oR (v, n)) := fun s w m s' e => by
  unfold oR at e ⊢
  cases e
  rfl
theorem rx_L (k : Int32) (n : Nat × Nat) (g : M (β × (Nat × Nat))) : ReX β (oR (Sum.inl k, n)) g := fun s w m s' e => by
  unfold oR at e
  cases e
theorem rx_J (f : M (β × (Nat × Nat))) : ReX β (oB f (fun v => oR (Sum.inr v.1, v.2))) f := fun s v n s' e => by
  obtain ⟨a, s1, e1, e2⟩ := oB_of e
  unfold oR at e2
  cases e2
  exact e1
theorem ke_B {f : M α} {g : α → M (Int32 ⊕ β)} (k : ∀ a, Ke S β (g a)) : Ke S β (oB f g) := fun s v s' e => by
  obtain ⟨a, s1, e1, e2⟩ := oB_of e
  exact k a s1 v s' e2
theorem ke_C {c : Prop} [Decidable c] {f f' : M (Int32 ⊕ β)} (a : Ke S β f) (b : Ke S β f') : Ke S β (oC c f f') := fun s v s' e => by
  unfold oC at e
  by_cases h : c
  · rw [if_pos h] at e
    exact a s v s' e
  · rw [if_neg h] at e
    exact b s v s' e
theorem ke_R (v : β) : Ke S β (oR (Sum.inr v)) := fun s w s' e => by
  unfold oR at e
  cases e
theorem ke_L {k : Int32} (h : S k) : Ke S β (oR (Sum.inl k)) := fun s w s' e => by
  unfold oR at e
  cases e
  exact h
theorem kx_B {f : M α} {g : α → M ((Int32 ⊕ β) × (Nat × Nat))} (k : ∀ a, KeX S β (g a)) : KeX S β (oB f g) := fun s v n s' e => by
  obtain ⟨a, s1, e1, e2⟩ := oB_of e
  exact k a s1 v n s' e2
theorem kx_C {c : Prop} [Decidable c] {f f' : M ((Int32 ⊕ β) × (Nat × Nat))} (a : KeX S β f) (b : KeX S β f') : KeX S β (oC c f f') := fun s v n s' e => by
  unfold oC at e
  by_cases h : c
  · rw [if_pos h] at e
    exact a s v n s' e
  · rw [if_neg h] at e
    exact b s v n s' e
theorem kx_R (v : β) (n : Nat × Nat) : KeX S β (oR (Sum.inr v, n)) := fun s w m s' e => by
  unfold oR at e
  cases e
theorem kx_L {k : Int32} {n : Nat × Nat} (h : S k) : KeX S β (oR (Sum.inl k, n)) := fun s w m s' e => by
  unfold oR at e
  cases e
  exact h
end RE
theorem xm_feed {l1 : Int32} {l2 : Int32} {l3 : Int32} {l4 : Int32} {l5 : Int32} : Re Int32 (X_feed l1 l2 l3 l4 l5) (M_LM_feed l1 l2 l3 l4 l5) := by
  unfold X_feed M_LM_feed
  repeat' with_reducible (first | exact re_R _ | exact re_L _ _ | exact re_J _ | apply re_C | apply re_B | intro _)
theorem xk_feed {l1 : Int32} {l2 : Int32} {l3 : Int32} {l4 : Int32} {l5 : Int32} : Ke (fun k => k = 1) Int32 (X_feed l1 l2 l3 l4 l5) := by
  unfold X_feed
  repeat' with_reducible (first | exact ke_R _ | exact ke_L (by decide) | apply ke_C | apply ke_B | intro _)
theorem xm_end {l1 : Int32} : Re Int32 (X_end l1) (M_LM_end l1) := by
  unfold X_end M_LM_end
  repeat' with_reducible (first | exact re_R _ | exact re_L _ _ | exact re_J _ | apply re_C | apply re_B | intro _)
theorem xk_end {l1 : Int32} : Ke (fun k => k = 2) Int32 (X_end l1) := by
  unfold X_end
  repeat' with_reducible (first | exact ke_R _ | exact ke_L (by decide) | apply ke_C | apply ke_B | intro _)
theorem xm_load {n0 : Nat × Nat}  : ReX Int32 (X_load n0) (M_LM_load n0) := by
  unfold X_load M_LM_load
  repeat' with_reducible (first | exact rx_R _ _ | exact rx_L _ _ _ | exact rx_J _ | apply rx_C | apply rx_B | intro _)
theorem xk_load {n0 : Nat × Nat}  : KeX (fun k => k = 3 ∨ k = 1) Int32 (X_load n0) := by
  unfold X_load
  repeat' with_reducible (first | exact kx_R _ _ | exact kx_L (by decide) | apply kx_C | apply kx_B | intro _)
theorem xm_fault {l1 : Int32} : Re Int32 (X_fault l1) (M_LM_fault l1) := by
  unfold X_fault M_LM_fault
  repeat' with_reducible (first | exact re_R _ | exact re_L _ _ | exact re_J _ | apply re_C | apply re_B | intro _)
theorem xk_fault {l1 : Int32} : Ke (fun k => k = 2) Int32 (X_fault l1) := by
  unfold X_fault
  repeat' with_reducible (first | exact ke_R _ | exact ke_L (by decide) | apply ke_C | apply ke_B | intro _)
theorem xm_limit {l1 : Int32} : Re Int32 (X_limit l1) (M_LM_limit l1) := by
  unfold X_limit M_LM_limit
  repeat' with_reducible (first | exact re_R _ | exact re_L _ _ | exact re_J _ | apply re_C | apply re_B | intro _)
theorem xk_limit {l1 : Int32} : Ke (fun k => k = 2) Int32 (X_limit l1) := by
  unfold X_limit
  repeat' with_reducible (first | exact ke_R _ | exact ke_L (by decide) | apply ke_C | apply ke_B | intro _)
theorem xm_run {n0 : Nat × Nat} {l1 : Int32} : ReX Int32 (X_run n0 l1) (M_LM_run n0 l1) := fun s v n s' e => by
  unfold X_run at e
  by_cases h1 : l1 < 1
  · rw [show oC (l1 < 1) _ _ s = _ from if_pos h1] at e
    unfold oR at e
    cases e
  · have e := oC_neg h1 e
    by_cases h2 : l1 ≤ 100000
    · have e := oC_pos h2 e
      obtain ⟨a, s1, e1, e⟩ := oB_of e
      unfold oGI at e1
      cases e1
      by_cases h3 : gI s 12801 0 = 0
      · have e := oC_pos h3 e
        unfold oR at e
        cases e
      · exact rx_J _ s v n s' (oC_neg h3 e)
    · have e := oC_neg h2 e
      unfold oR at e
      cases e
theorem xk_run {n0 : Nat × Nat} {l1 : Int32} : KeX (fun k => k = 2 ∨ k = 1) Int32 (X_run n0 l1) := by
  unfold X_run
  repeat' with_reducible (first | exact kx_R _ _ | exact kx_L (by decide) | apply kx_C | apply kx_B | intro _)
theorem xm_collect  : Re Int32 (X_collect) (M_LM_collect) := by
  unfold X_collect M_LM_collect
  repeat' with_reducible (first | exact re_R _ | exact re_L _ _ | exact re_J _ | apply re_C | apply re_B | intro _)
theorem xk_collect  : Ke (fun k => k = 1) Int32 (X_collect) := by
  unfold X_collect
  repeat' with_reducible (first | exact ke_R _ | exact ke_L (by decide) | apply ke_C | apply ke_B | intro _)
theorem xm_kind {l1 : Int32} : Re Int32 (X_kind l1) (M_LM_kind l1) := by
  unfold X_kind M_LM_kind
  repeat' with_reducible (first | exact re_R _ | exact re_L _ _ | exact re_J _ | apply re_C | apply re_B | intro _)
theorem xk_kind {l1 : Int32} : Ke (fun k => k = 4) Int32 (X_kind l1) := by
  unfold X_kind
  repeat' with_reducible (first | exact ke_R _ | exact ke_L (by decide) | apply ke_C | apply ke_B | intro _)
theorem xm_value {l1 : Int32} : Re Int64 (X_value l1) (M_LM_value l1) := by
  unfold X_value M_LM_value
  repeat' with_reducible (first | exact re_R _ | exact re_L _ _ | exact re_J _ | apply re_C | apply re_B | intro _)
theorem xk_value {l1 : Int32} : Ke (fun k => k = 4) Int64 (X_value l1) := by
  unfold X_value
  repeat' with_reducible (first | exact ke_R _ | exact ke_L (by decide) | apply ke_C | apply ke_B | intro _)
theorem xm_byteOf {l1 : Int32} {l2 : Int32} : Re Int32 (X_byteOf l1 l2) (M_LM_byteOf l1 l2) := by
  unfold X_byteOf M_LM_byteOf
  repeat' with_reducible (first | exact re_R _ | exact re_L _ _ | exact re_J _ | apply re_C | apply re_B | intro _)
theorem xk_byteOf {l1 : Int32} {l2 : Int32} : Ke (fun k => k = 4 ∨ k = 2) Int32 (X_byteOf l1 l2) := by
  unfold X_byteOf
  repeat' with_reducible (first | exact ke_R _ | exact ke_L (by decide) | apply ke_C | apply ke_B | intro _)
theorem xm_output {l1 : Int32} : Re Int32 (X_output l1) (M_LM_output l1) := by
  unfold X_output M_LM_output
  repeat' with_reducible (first | exact re_R _ | exact re_L _ _ | exact re_J _ | apply re_C | apply re_B | intro _)
theorem xk_output {l1 : Int32} : Ke (fun k => k = 4) Int32 (X_output l1) := by
  unfold X_output
  repeat' with_reducible (first | exact ke_R _ | exact ke_L (by decide) | apply ke_C | apply ke_B | intro _)
def cw_feed (k : Int32) : Int32 :=  1
theorem wo_feed {l : Launch} {P : PP} {q : PL} {s s' : S1} {n0 : Nat × Nat} {l1 : Int32} {l2 : Int32} {l3 : Int32} {l4 : Int32} {l5 : Int32} {v : Int32} (hm : Rmq P q n0) (h : X_feed l1 l2 l3 l4 l5 s = some (Sum.inr v, s')) : CtW l y_law_feed b_law_feed 8 (some .int) [(0, 16, 19, 13)] 8 115 P [] q s [.ref (q.1 100 0), .int l1, .int l2, .int l3, .int l4, .int l5, .ref (q.1 155 0)] (fun _ => some (.int 0)) n0 (sB s' 155 0 0 v.toInt64) := by
  refine ctW_of (by decide) (Nat.le_of_ble_eq_true rfl) fun X ls eP el g hR hl => ?_
  subst eP
  subst el
  have hl : lv_has ls 8 [(0, .ref (q.1 100 0)), (1, .int l1), (2, .int l2), (3, .int l3), (4, .int l4), (5, .int l5), (6, .ref (q.1 155 0))] := hl
  refine ww_aload (pc := 0) g.1.1 d_law_feed_0 (lv_at hl 6 rfl) ?_
  refine ww_iconst (pc := 2) g.1.1 (v := 0) d_law_feed_2 (by decide) ?_
  refine ww_aload_n (pc := 3) g.1.1 d_law_feed_3 rfl (lv_at hl 0 rfl) ?_
  refine ww_iload_n (pc := 4) g.1.1 d_law_feed_4 rfl (lv_at hl 1 rfl) ?_
  refine ww_iload_n (pc := 5) g.1.1 d_law_feed_5 rfl (lv_at hl 2 rfl) ?_
  refine ww_iload_n (pc := 6) g.1.1 d_law_feed_6 rfl (lv_at hl 3 rfl) ?_
  refine ww_iload (pc := 7) g.1.1 d_law_feed_7 (lv_at hl 4 rfl) ?_
  refine ww_iload (pc := 9) g.1.1 d_law_feed_9 (lv_at hl 5 rfl) ?_
  refine ww_lo fun dlo => ?_
  refine wt_callX (pc := 11) (rest := [.int 0, .ref (q.1 155 0)]) g.1 cv_LM_feed kt_12 cl_LM (pz rfl (by decide)) (ct_ctX (ct_LM_feed (xm_feed _ _ _ h)) hm) ⟨by decide, by decide⟩ rfl hl.1 (Nat.le_of_ble_eq_true rfl) d_law_feed_11 rfl (fun q1 hE hm1 => ?_)
  have e155 : q1.1 155 0 = q.1 155 0 := hE _ _ (by decide) (dlo _ _ (pz rfl (by decide)))
  refine ww_st (st' := [.int v, .int 0, .ref (q1.1 155 0)]) (by rw [e155]; rfl) ?_
  refine ww_i2l (pc := 14) g.1.1 (v := v.toInt64) d_law_feed_14 rfl ?_
  refine wt_sl (pc := 15) g.1 (pz rfl (by decide)) rfl ⟨by decide, Nat.lt_of_lt_of_eq (by decide : (0 : Int32).toNatClampNeg < 1) rfl⟩ d_law_feed_15 ?_
  refine ww_goto (pc := 16) (tgt := 23) g.1.1 d_law_feed_16 (by decide) ?_
  refine ww_iconst (pc := 23) g.1.1 (v := 0) d_law_feed_23 (by decide) ?_
  exact wt_iret (pc := 24) g hR hE hm1 d_law_feed_24
theorem wb_feed {l : Launch} (hst : l.stackTraces = false) {P : PP} {q : PL} {s s' : S1} {n0 : Nat × Nat} {l1 : Int32} {l2 : Int32} {l3 : Int32} {l4 : Int32} {l5 : Int32} {k : Int32} (hm : Rmq P q n0) (hn : 1 ≤ n0.1 ∧ 6 ≤ n0.2) (h : X_feed l1 l2 l3 l4 l5 s = some (Sum.inl k, s')) : CtW l y_law_feed b_law_feed 8 (some .int) [(0, 16, 19, 13)] 8 115 P [] q s [.ref (q.1 100 0), .int l1, .int l2, .int l3, .int l4, .int l5, .ref (q.1 155 0)] (fun _ => some (.int (cw_feed k))) (n0.1 - 1, n0.2 - 6) s' := by
  have hk := xk_feed _ _ _ h
  refine ctW_of (by decide) (Nat.le_of_ble_eq_true rfl) fun X ls eP el g hR hl => ?_
  subst eP
  subst el
  have hl : lv_has ls 8 [(0, .ref (q.1 100 0)), (1, .int l1), (2, .int l2), (3, .int l3), (4, .int l4), (5, .int l5), (6, .ref (q.1 155 0))] := hl
  refine ww_aload (pc := 0) g.1.1 d_law_feed_0 (lv_at hl 6 rfl) ?_
  refine ww_iconst (pc := 2) g.1.1 (v := 0) d_law_feed_2 (by decide) ?_
  refine ww_aload_n (pc := 3) g.1.1 d_law_feed_3 rfl (lv_at hl 0 rfl) ?_
  refine ww_iload_n (pc := 4) g.1.1 d_law_feed_4 rfl (lv_at hl 1 rfl) ?_
  refine ww_iload_n (pc := 5) g.1.1 d_law_feed_5 rfl (lv_at hl 2 rfl) ?_
  refine ww_iload_n (pc := 6) g.1.1 d_law_feed_6 rfl (lv_at hl 3 rfl) ?_
  refine ww_iload (pc := 7) g.1.1 d_law_feed_7 (lv_at hl 4 rfl) ?_
  refine ww_iload (pc := 9) g.1.1 d_law_feed_9 (lv_at hl 5 rfl) ?_
  refine ww_lo fun dlo => ?_
  obtain rfl := hk
  have hT := tt_feed hst hm hn h
  rw [exN_1] at hT
  refine wt_callT (pc := 11) (rest := [.int 0, .ref (q.1 155 0)]) (name := "java/lang/IllegalStateException") g cv_LM_feed kt_12 cl_LM (pz rfl (by decide)) hT ⟨by decide, by decide⟩ rfl hl.1 (Nat.le_of_ble_eq_true rfl) d_law_feed_11 rfl [] ⟨0, 16, 19, 13⟩ [] rfl (fun _ hz => nomatch hz) (by decide) (by decide) kt_13 nwc_1 rfl (fun q9 q1 hE hm1 => ?_)
  have e100 : q1.1 100 0 = q.1 100 0 := hE _ _ (by decide) (dlo _ _ (pz rfl (by decide)))
  refine ww_astore (pc := 19) (i := 7) g.1.1 (lv' := ((7, Value.ref q9) :: [(0, .ref (q.1 100 0)), (1, .int l1), (2, .int l2), (3, .int l3), (4, .int l4), (5, .int l5), (6, .ref (q.1 155 0))])) d_law_feed_19 hl (by decide) rfl fun ls hl => ?_
  refine ww_iconst (pc := 21) g.1.1 (v := 1) d_law_feed_21 (by decide) ?_
  exact wt_iret (pc := 22) g hR hE hm1 d_law_feed_22
def cw_end (k : Int32) : Int32 :=  1
theorem wo_end {l : Launch} {P : PP} {q : PL} {s s' : S1} {n0 : Nat × Nat} {l1 : Int32} {v : Int32} (hm : Rmq P q n0) (h : X_end l1 s = some (Sum.inr v, s')) : CtW l y_law_end b_law_end 4 (some .int) [(0, 9, 12, 19)] 8 111 P [] q s [.ref (q.1 100 0), .int l1, .ref (q.1 155 0)] (fun _ => some (.int 0)) n0 (sB s' 155 0 0 v.toInt64) := by
  refine ctW_of (by decide) (Nat.le_of_ble_eq_true rfl) fun X ls eP el g hR hl => ?_
  subst eP
  subst el
  have hl : lv_has ls 4 [(0, .ref (q.1 100 0)), (1, .int l1), (2, .ref (q.1 155 0))] := hl
  refine ww_aload_n (pc := 0) g.1.1 d_law_end_0 rfl (lv_at hl 2 rfl) ?_
  refine ww_iconst (pc := 1) g.1.1 (v := 0) d_law_end_1 (by decide) ?_
  refine ww_aload_n (pc := 2) g.1.1 d_law_end_2 rfl (lv_at hl 0 rfl) ?_
  refine ww_iload_n (pc := 3) g.1.1 d_law_end_3 rfl (lv_at hl 1 rfl) ?_
  refine ww_lo fun dlo => ?_
  refine wt_callX (pc := 4) (rest := [.int 0, .ref (q.1 155 0)]) g.1 cv_LM_end kt_14 cl_LM (pz rfl (by decide)) (ct_ctX (ct_LM_end (xm_end _ _ _ h)) hm) ⟨by decide, by decide⟩ rfl hl.1 (Nat.le_of_ble_eq_true rfl) d_law_end_4 rfl (fun q1 hE hm1 => ?_)
  have e155 : q1.1 155 0 = q.1 155 0 := hE _ _ (by decide) (dlo _ _ (pz rfl (by decide)))
  refine ww_st (st' := [.int v, .int 0, .ref (q1.1 155 0)]) (by rw [e155]; rfl) ?_
  refine ww_i2l (pc := 7) g.1.1 (v := v.toInt64) d_law_end_7 rfl ?_
  refine wt_sl (pc := 8) g.1 (pz rfl (by decide)) rfl ⟨by decide, Nat.lt_of_lt_of_eq (by decide : (0 : Int32).toNatClampNeg < 1) rfl⟩ d_law_end_8 ?_
  refine ww_goto (pc := 9) (tgt := 15) g.1.1 d_law_end_9 (by decide) ?_
  refine ww_iconst (pc := 15) g.1.1 (v := 0) d_law_end_15 (by decide) ?_
  exact wt_iret (pc := 16) g hR hE hm1 d_law_end_16
theorem wb_end {l : Launch} (hst : l.stackTraces = false) {P : PP} {q : PL} {s s' : S1} {n0 : Nat × Nat} {l1 : Int32} {k : Int32} (hm : Rmq P q n0) (hn : 1 ≤ n0.1 ∧ 6 ≤ n0.2) (h : X_end l1 s = some (Sum.inl k, s')) : CtW l y_law_end b_law_end 4 (some .int) [(0, 9, 12, 19)] 8 111 P [] q s [.ref (q.1 100 0), .int l1, .ref (q.1 155 0)] (fun _ => some (.int (cw_end k))) (n0.1 - 1, n0.2 - 6) s' := by
  have hk := xk_end _ _ _ h
  refine ctW_of (by decide) (Nat.le_of_ble_eq_true rfl) fun X ls eP el g hR hl => ?_
  subst eP
  subst el
  have hl : lv_has ls 4 [(0, .ref (q.1 100 0)), (1, .int l1), (2, .ref (q.1 155 0))] := hl
  refine ww_aload_n (pc := 0) g.1.1 d_law_end_0 rfl (lv_at hl 2 rfl) ?_
  refine ww_iconst (pc := 1) g.1.1 (v := 0) d_law_end_1 (by decide) ?_
  refine ww_aload_n (pc := 2) g.1.1 d_law_end_2 rfl (lv_at hl 0 rfl) ?_
  refine ww_iload_n (pc := 3) g.1.1 d_law_end_3 rfl (lv_at hl 1 rfl) ?_
  refine ww_lo fun dlo => ?_
  obtain rfl := hk
  have hT := tt_end hst hm hn h
  rw [exN_2] at hT
  refine wt_callT (pc := 4) (rest := [.int 0, .ref (q.1 155 0)]) (name := "java/lang/IllegalArgumentException") g cv_LM_end kt_14 cl_LM (pz rfl (by decide)) hT ⟨by decide, by decide⟩ rfl hl.1 (Nat.le_of_ble_eq_true rfl) d_law_end_4 rfl [] ⟨0, 9, 12, 19⟩ [] rfl (fun _ hz => nomatch hz) (by decide) (by decide) kt_15 nwc_2 rfl (fun q9 q1 hE hm1 => ?_)
  have e100 : q1.1 100 0 = q.1 100 0 := hE _ _ (by decide) (dlo _ _ (pz rfl (by decide)))
  refine ww_astore_n (pc := 12) (i := 3) g.1.1 (lv' := ((3, Value.ref q9) :: [(0, .ref (q.1 100 0)), (1, .int l1), (2, .ref (q.1 155 0))])) d_law_end_12 rfl hl (by decide) rfl fun ls hl => ?_
  refine ww_iconst (pc := 13) g.1.1 (v := 1) d_law_end_13 (by decide) ?_
  exact wt_iret (pc := 14) g hR hE hm1 d_law_end_14
def cw_load (k : Int32) : Int32 := if k = 3 then 1 else 2
theorem wo_load {l : Launch} {P : PP} {q : PL} {s s' : S1} {n0 n1 : Nat × Nat}  {v : Int32} (hm : Rmq P q n0) (h : X_load n0 s = some ((Sum.inr v, n1), s')) : CtW l y_law_load b_law_load 3 (some .int) [(0, 8, 11, 25), (0, 8, 14, 13)] 9 242 P [118, 146, 147, 149, 150, 151, 153, 154] q s [.ref (q.1 100 0), .ref (q.1 155 0)] (fun _ => some (.int 0)) n1 (sB s' 155 0 0 v.toInt64) := by
  refine ctW_of (by decide) (Nat.le_of_ble_eq_true rfl) fun X ls eP el g hR hl => ?_
  subst eP
  subst el
  have hl : lv_has ls 3 [(0, .ref (q.1 100 0)), (1, .ref (q.1 155 0))] := hl
  refine ww_aload_n (pc := 0) g.1.1 d_law_load_0 rfl (lv_at hl 1 rfl) ?_
  refine ww_iconst (pc := 1) g.1.1 (v := 0) d_law_load_1 (by decide) ?_
  refine ww_aload_n (pc := 2) g.1.1 d_law_load_2 rfl (lv_at hl 0 rfl) ?_
  refine ww_lo fun dlo => ?_
  refine wt_callX (pc := 3) (rest := [.int 0, .ref (q.1 155 0)]) g.1 cv_LM_load kt_16 cl_LM (pz rfl (by decide)) (ct_LM_load hm (xm_load _ _ _ _ h)) ⟨by decide, by decide⟩ rfl hl.1 (Nat.le_of_ble_eq_true rfl) d_law_load_3 rfl (fun q1 hE hm1 => ?_)
  have e155 : q1.1 155 0 = q.1 155 0 := hE _ _ (by decide) (dlo _ _ (pz rfl (by decide)))
  refine ww_st (st' := [.int v, .int 0, .ref (q1.1 155 0)]) (by rw [e155]; rfl) ?_
  refine ww_i2l (pc := 6) g.1.1 (v := v.toInt64) d_law_load_6 rfl ?_
  refine wt_sl (pc := 7) g.1 (pz rfl (by decide)) rfl ⟨by decide, Nat.lt_of_lt_of_eq (by decide : (0 : Int32).toNatClampNeg < 1) rfl⟩ d_law_load_7 ?_
  refine ww_goto (pc := 8) (tgt := 17) g.1.1 d_law_load_8 (by decide) ?_
  refine ww_iconst (pc := 17) g.1.1 (v := 0) d_law_load_17 (by decide) ?_
  exact wt_iret (pc := 18) g hR hE hm1 d_law_load_18
theorem wb_load {l : Launch} (hst : l.stackTraces = false) {P : PP} {q : PL} {s s' : S1} {n0 n1 : Nat × Nat}  {k : Int32} (hm : Rmq P q n0) (hn : 1 ≤ n1.1 ∧ 6 ≤ n1.2) (h : X_load n0 s = some ((Sum.inl k, n1), s')) : CtW l y_law_load b_law_load 3 (some .int) [(0, 8, 11, 25), (0, 8, 14, 13)] 9 242 P [118, 146, 147, 149, 150, 151, 153, 154] q s [.ref (q.1 100 0), .ref (q.1 155 0)] (fun _ => some (.int (cw_load k))) (n1.1 - 1, n1.2 - 6) s' := by
  have hk := xk_load _ _ _ _ h
  refine ctW_of (by decide) (Nat.le_of_ble_eq_true rfl) fun X ls eP el g hR hl => ?_
  subst eP
  subst el
  have hl : lv_has ls 3 [(0, .ref (q.1 100 0)), (1, .ref (q.1 155 0))] := hl
  refine ww_aload_n (pc := 0) g.1.1 d_law_load_0 rfl (lv_at hl 1 rfl) ?_
  refine ww_iconst (pc := 1) g.1.1 (v := 0) d_law_load_1 (by decide) ?_
  refine ww_aload_n (pc := 2) g.1.1 d_law_load_2 rfl (lv_at hl 0 rfl) ?_
  refine ww_lo fun dlo => ?_
  rcases hk with rfl | rfl
  · have hT := tt_load hst hm hn h
    rw [exN_3] at hT
    refine wt_callT (pc := 3) (rest := [.int 0, .ref (q.1 155 0)]) (name := "java/lang/UnsupportedOperationException") g cv_LM_load kt_16 cl_LM (pz rfl (by decide)) hT ⟨by decide, by decide⟩ rfl hl.1 (Nat.le_of_ble_eq_true rfl) d_law_load_3 rfl [] ⟨0, 8, 11, 25⟩ [⟨0, 8, 14, 13⟩] rfl (fun _ hz => nomatch hz) (by decide) (by decide) kt_17 nwc_3 rfl (fun q9 q1 hE hm1 => ?_)
    have e100 : q1.1 100 0 = q.1 100 0 := hE _ _ (by decide) (dlo _ _ (pz rfl (by decide)))
    refine ww_astore_n (pc := 11) (i := 2) g.1.1 (lv' := ((2, Value.ref q9) :: [(0, .ref (q.1 100 0)), (1, .ref (q.1 155 0))])) d_law_load_11 rfl hl (by decide) rfl fun ls hl => ?_
    refine ww_iconst (pc := 12) g.1.1 (v := 1) d_law_load_12 (by decide) ?_
    exact wt_iret (pc := 13) g hR hE hm1 d_law_load_13
  · have hT := tt_load hst hm hn h
    rw [exN_1] at hT
    refine wt_callT (pc := 3) (rest := [.int 0, .ref (q.1 155 0)]) (name := "java/lang/IllegalStateException") g cv_LM_load kt_16 cl_LM (pz rfl (by decide)) hT ⟨by decide, by decide⟩ rfl hl.1 (Nat.le_of_ble_eq_true rfl) d_law_load_3 rfl [⟨0, 8, 11, 25⟩] ⟨0, 8, 14, 13⟩ [] rfl (fun z hz => by obtain rfl := List.mem_singleton.mp hz; exact ⟨by decide, by decide, "java/lang/UnsupportedOperationException", kt_17, g.1.2.2.2.2.2.2.2.1⟩) (by decide) (by decide) kt_13 nwc_1 rfl (fun q9 q1 hE hm1 => ?_)
    have e100 : q1.1 100 0 = q.1 100 0 := hE _ _ (by decide) (dlo _ _ (pz rfl (by decide)))
    refine ww_astore_n (pc := 14) (i := 2) g.1.1 (lv' := ((2, Value.ref q9) :: [(0, .ref (q.1 100 0)), (1, .ref (q.1 155 0))])) d_law_load_14 rfl hl (by decide) rfl fun ls hl => ?_
    refine ww_iconst (pc := 15) g.1.1 (v := 2) d_law_load_15 (by decide) ?_
    exact wt_iret (pc := 16) g hR hE hm1 d_law_load_16
def cw_fault (k : Int32) : Int32 :=  1
theorem wo_fault {l : Launch} {P : PP} {q : PL} {s s' : S1} {n0 : Nat × Nat} {l1 : Int32} {v : Int32} (hm : Rmq P q n0) (h : X_fault l1 s = some (Sum.inr v, s')) : CtW l y_law_fault b_law_fault 4 (some .int) [(0, 9, 12, 19)] 8 111 P [] q s [.ref (q.1 100 0), .int l1, .ref (q.1 155 0)] (fun _ => some (.int 0)) n0 (sB s' 155 0 0 v.toInt64) := by
  refine ctW_of (by decide) (Nat.le_of_ble_eq_true rfl) fun X ls eP el g hR hl => ?_
  subst eP
  subst el
  have hl : lv_has ls 4 [(0, .ref (q.1 100 0)), (1, .int l1), (2, .ref (q.1 155 0))] := hl
  refine ww_aload_n (pc := 0) g.1.1 d_law_fault_0 rfl (lv_at hl 2 rfl) ?_
  refine ww_iconst (pc := 1) g.1.1 (v := 0) d_law_fault_1 (by decide) ?_
  refine ww_aload_n (pc := 2) g.1.1 d_law_fault_2 rfl (lv_at hl 0 rfl) ?_
  refine ww_iload_n (pc := 3) g.1.1 d_law_fault_3 rfl (lv_at hl 1 rfl) ?_
  refine ww_lo fun dlo => ?_
  refine wt_callX (pc := 4) (rest := [.int 0, .ref (q.1 155 0)]) g.1 cv_LM_fault kt_18 cl_LM (pz rfl (by decide)) (ct_ctX (ct_LM_fault (xm_fault _ _ _ h)) hm) ⟨by decide, by decide⟩ rfl hl.1 (Nat.le_of_ble_eq_true rfl) d_law_fault_4 rfl (fun q1 hE hm1 => ?_)
  have e155 : q1.1 155 0 = q.1 155 0 := hE _ _ (by decide) (dlo _ _ (pz rfl (by decide)))
  refine ww_st (st' := [.int v, .int 0, .ref (q1.1 155 0)]) (by rw [e155]; rfl) ?_
  refine ww_i2l (pc := 7) g.1.1 (v := v.toInt64) d_law_fault_7 rfl ?_
  refine wt_sl (pc := 8) g.1 (pz rfl (by decide)) rfl ⟨by decide, Nat.lt_of_lt_of_eq (by decide : (0 : Int32).toNatClampNeg < 1) rfl⟩ d_law_fault_8 ?_
  refine ww_goto (pc := 9) (tgt := 15) g.1.1 d_law_fault_9 (by decide) ?_
  refine ww_iconst (pc := 15) g.1.1 (v := 0) d_law_fault_15 (by decide) ?_
  exact wt_iret (pc := 16) g hR hE hm1 d_law_fault_16
theorem wb_fault {l : Launch} (hst : l.stackTraces = false) {P : PP} {q : PL} {s s' : S1} {n0 : Nat × Nat} {l1 : Int32} {k : Int32} (hm : Rmq P q n0) (hn : 1 ≤ n0.1 ∧ 6 ≤ n0.2) (h : X_fault l1 s = some (Sum.inl k, s')) : CtW l y_law_fault b_law_fault 4 (some .int) [(0, 9, 12, 19)] 8 111 P [] q s [.ref (q.1 100 0), .int l1, .ref (q.1 155 0)] (fun _ => some (.int (cw_fault k))) (n0.1 - 1, n0.2 - 6) s' := by
  have hk := xk_fault _ _ _ h
  refine ctW_of (by decide) (Nat.le_of_ble_eq_true rfl) fun X ls eP el g hR hl => ?_
  subst eP
  subst el
  have hl : lv_has ls 4 [(0, .ref (q.1 100 0)), (1, .int l1), (2, .ref (q.1 155 0))] := hl
  refine ww_aload_n (pc := 0) g.1.1 d_law_fault_0 rfl (lv_at hl 2 rfl) ?_
  refine ww_iconst (pc := 1) g.1.1 (v := 0) d_law_fault_1 (by decide) ?_
  refine ww_aload_n (pc := 2) g.1.1 d_law_fault_2 rfl (lv_at hl 0 rfl) ?_
  refine ww_iload_n (pc := 3) g.1.1 d_law_fault_3 rfl (lv_at hl 1 rfl) ?_
  refine ww_lo fun dlo => ?_
  obtain rfl := hk
  have hT := tt_fault hst hm hn h
  rw [exN_2] at hT
  refine wt_callT (pc := 4) (rest := [.int 0, .ref (q.1 155 0)]) (name := "java/lang/IllegalArgumentException") g cv_LM_fault kt_18 cl_LM (pz rfl (by decide)) hT ⟨by decide, by decide⟩ rfl hl.1 (Nat.le_of_ble_eq_true rfl) d_law_fault_4 rfl [] ⟨0, 9, 12, 19⟩ [] rfl (fun _ hz => nomatch hz) (by decide) (by decide) kt_15 nwc_2 rfl (fun q9 q1 hE hm1 => ?_)
  have e100 : q1.1 100 0 = q.1 100 0 := hE _ _ (by decide) (dlo _ _ (pz rfl (by decide)))
  refine ww_astore_n (pc := 12) (i := 3) g.1.1 (lv' := ((3, Value.ref q9) :: [(0, .ref (q.1 100 0)), (1, .int l1), (2, .ref (q.1 155 0))])) d_law_fault_12 rfl hl (by decide) rfl fun ls hl => ?_
  refine ww_iconst (pc := 13) g.1.1 (v := 1) d_law_fault_13 (by decide) ?_
  exact wt_iret (pc := 14) g hR hE hm1 d_law_fault_14
def cw_limit (k : Int32) : Int32 :=  1
theorem wo_limit {l : Launch} {P : PP} {q : PL} {s s' : S1} {n0 : Nat × Nat} {l1 : Int32} {v : Int32} (hm : Rmq P q n0) (h : X_limit l1 s = some (Sum.inr v, s')) : CtW l y_law_limit b_law_limit 4 (some .int) [(0, 9, 12, 19)] 8 112 P [] q s [.ref (q.1 100 0), .int l1, .ref (q.1 155 0)] (fun _ => some (.int 0)) n0 (sB s' 155 0 0 v.toInt64) := by
  refine ctW_of (by decide) (Nat.le_of_ble_eq_true rfl) fun X ls eP el g hR hl => ?_
  subst eP
  subst el
  have hl : lv_has ls 4 [(0, .ref (q.1 100 0)), (1, .int l1), (2, .ref (q.1 155 0))] := hl
  refine ww_aload_n (pc := 0) g.1.1 d_law_limit_0 rfl (lv_at hl 2 rfl) ?_
  refine ww_iconst (pc := 1) g.1.1 (v := 0) d_law_limit_1 (by decide) ?_
  refine ww_aload_n (pc := 2) g.1.1 d_law_limit_2 rfl (lv_at hl 0 rfl) ?_
  refine ww_iload_n (pc := 3) g.1.1 d_law_limit_3 rfl (lv_at hl 1 rfl) ?_
  refine ww_lo fun dlo => ?_
  refine wt_callX (pc := 4) (rest := [.int 0, .ref (q.1 155 0)]) g.1 cv_LM_limit kt_19 cl_LM (pz rfl (by decide)) (ct_ctX (ct_LM_limit (xm_limit _ _ _ h)) hm) ⟨by decide, by decide⟩ rfl hl.1 (Nat.le_of_ble_eq_true rfl) d_law_limit_4 rfl (fun q1 hE hm1 => ?_)
  have e155 : q1.1 155 0 = q.1 155 0 := hE _ _ (by decide) (dlo _ _ (pz rfl (by decide)))
  refine ww_st (st' := [.int v, .int 0, .ref (q1.1 155 0)]) (by rw [e155]; rfl) ?_
  refine ww_i2l (pc := 7) g.1.1 (v := v.toInt64) d_law_limit_7 rfl ?_
  refine wt_sl (pc := 8) g.1 (pz rfl (by decide)) rfl ⟨by decide, Nat.lt_of_lt_of_eq (by decide : (0 : Int32).toNatClampNeg < 1) rfl⟩ d_law_limit_8 ?_
  refine ww_goto (pc := 9) (tgt := 15) g.1.1 d_law_limit_9 (by decide) ?_
  refine ww_iconst (pc := 15) g.1.1 (v := 0) d_law_limit_15 (by decide) ?_
  exact wt_iret (pc := 16) g hR hE hm1 d_law_limit_16
theorem wb_limit {l : Launch} (hst : l.stackTraces = false) {P : PP} {q : PL} {s s' : S1} {n0 : Nat × Nat} {l1 : Int32} {k : Int32} (hm : Rmq P q n0) (hn : 1 ≤ n0.1 ∧ 6 ≤ n0.2) (h : X_limit l1 s = some (Sum.inl k, s')) : CtW l y_law_limit b_law_limit 4 (some .int) [(0, 9, 12, 19)] 8 112 P [] q s [.ref (q.1 100 0), .int l1, .ref (q.1 155 0)] (fun _ => some (.int (cw_limit k))) (n0.1 - 1, n0.2 - 6) s' := by
  have hk := xk_limit _ _ _ h
  refine ctW_of (by decide) (Nat.le_of_ble_eq_true rfl) fun X ls eP el g hR hl => ?_
  subst eP
  subst el
  have hl : lv_has ls 4 [(0, .ref (q.1 100 0)), (1, .int l1), (2, .ref (q.1 155 0))] := hl
  refine ww_aload_n (pc := 0) g.1.1 d_law_limit_0 rfl (lv_at hl 2 rfl) ?_
  refine ww_iconst (pc := 1) g.1.1 (v := 0) d_law_limit_1 (by decide) ?_
  refine ww_aload_n (pc := 2) g.1.1 d_law_limit_2 rfl (lv_at hl 0 rfl) ?_
  refine ww_iload_n (pc := 3) g.1.1 d_law_limit_3 rfl (lv_at hl 1 rfl) ?_
  refine ww_lo fun dlo => ?_
  obtain rfl := hk
  have hT := tt_limit hst hm hn h
  rw [exN_2] at hT
  refine wt_callT (pc := 4) (rest := [.int 0, .ref (q.1 155 0)]) (name := "java/lang/IllegalArgumentException") g cv_LM_limit kt_19 cl_LM (pz rfl (by decide)) hT ⟨by decide, by decide⟩ rfl hl.1 (Nat.le_of_ble_eq_true rfl) d_law_limit_4 rfl [] ⟨0, 9, 12, 19⟩ [] rfl (fun _ hz => nomatch hz) (by decide) (by decide) kt_15 nwc_2 rfl (fun q9 q1 hE hm1 => ?_)
  have e100 : q1.1 100 0 = q.1 100 0 := hE _ _ (by decide) (dlo _ _ (pz rfl (by decide)))
  refine ww_astore_n (pc := 12) (i := 3) g.1.1 (lv' := ((3, Value.ref q9) :: [(0, .ref (q.1 100 0)), (1, .int l1), (2, .ref (q.1 155 0))])) d_law_limit_12 rfl hl (by decide) rfl fun ls hl => ?_
  refine ww_iconst (pc := 13) g.1.1 (v := 1) d_law_limit_13 (by decide) ?_
  exact wt_iret (pc := 14) g hR hE hm1 d_law_limit_14
def cw_run (k : Int32) : Int32 := if k = 2 then 1 else 2
theorem wo_run {l : Launch} {P : PP} {q : PL} {s s' : S1} {n0 n1 : Nat × Nat} {l1 : Int32} {v : Int32} (hm : Rmq P q n0) (h : X_run n0 l1 s = some ((Sum.inr v, n1), s')) : CtW l y_law_run b_law_run 4 (some .int) [(0, 9, 12, 19), (0, 9, 15, 13)] 10 262 P [118, 146, 147, 149, 150, 151, 153, 154] q s [.ref (q.1 100 0), .int l1, .ref (q.1 155 0)] (fun _ => some (.int 0)) n1 (sB s' 155 0 0 v.toInt64) := by
  refine ctW_of (by decide) (Nat.le_of_ble_eq_true rfl) fun X ls eP el g hR hl => ?_
  subst eP
  subst el
  have hl : lv_has ls 4 [(0, .ref (q.1 100 0)), (1, .int l1), (2, .ref (q.1 155 0))] := hl
  refine ww_aload_n (pc := 0) g.1.1 d_law_run_0 rfl (lv_at hl 2 rfl) ?_
  refine ww_iconst (pc := 1) g.1.1 (v := 0) d_law_run_1 (by decide) ?_
  refine ww_aload_n (pc := 2) g.1.1 d_law_run_2 rfl (lv_at hl 0 rfl) ?_
  refine ww_iload_n (pc := 3) g.1.1 d_law_run_3 rfl (lv_at hl 1 rfl) ?_
  refine ww_lo fun dlo => ?_
  refine wt_callX (pc := 4) (rest := [.int 0, .ref (q.1 155 0)]) g.1 cv_LM_run kt_20 cl_LM (pz rfl (by decide)) (ct_LM_run hm (xm_run _ _ _ _ h)) ⟨by decide, by decide⟩ rfl hl.1 (Nat.le_of_ble_eq_true rfl) d_law_run_4 rfl (fun q1 hE hm1 => ?_)
  have e155 : q1.1 155 0 = q.1 155 0 := hE _ _ (by decide) (dlo _ _ (pz rfl (by decide)))
  refine ww_st (st' := [.int v, .int 0, .ref (q1.1 155 0)]) (by rw [e155]; rfl) ?_
  refine ww_i2l (pc := 7) g.1.1 (v := v.toInt64) d_law_run_7 rfl ?_
  refine wt_sl (pc := 8) g.1 (pz rfl (by decide)) rfl ⟨by decide, Nat.lt_of_lt_of_eq (by decide : (0 : Int32).toNatClampNeg < 1) rfl⟩ d_law_run_8 ?_
  refine ww_goto (pc := 9) (tgt := 18) g.1.1 d_law_run_9 (by decide) ?_
  refine ww_iconst (pc := 18) g.1.1 (v := 0) d_law_run_18 (by decide) ?_
  exact wt_iret (pc := 19) g hR hE hm1 d_law_run_19
theorem wb_run {l : Launch} (hst : l.stackTraces = false) {P : PP} {q : PL} {s s' : S1} {n0 n1 : Nat × Nat} {l1 : Int32} {k : Int32} (hm : Rmq P q n0) (hn : 1 ≤ n1.1 ∧ 6 ≤ n1.2) (h : X_run n0 l1 s = some ((Sum.inl k, n1), s')) : CtW l y_law_run b_law_run 4 (some .int) [(0, 9, 12, 19), (0, 9, 15, 13)] 10 262 P [118, 146, 147, 149, 150, 151, 153, 154] q s [.ref (q.1 100 0), .int l1, .ref (q.1 155 0)] (fun _ => some (.int (cw_run k))) (n1.1 - 1, n1.2 - 6) s' := by
  have hk := xk_run _ _ _ _ h
  refine ctW_of (by decide) (Nat.le_of_ble_eq_true rfl) fun X ls eP el g hR hl => ?_
  subst eP
  subst el
  have hl : lv_has ls 4 [(0, .ref (q.1 100 0)), (1, .int l1), (2, .ref (q.1 155 0))] := hl
  refine ww_aload_n (pc := 0) g.1.1 d_law_run_0 rfl (lv_at hl 2 rfl) ?_
  refine ww_iconst (pc := 1) g.1.1 (v := 0) d_law_run_1 (by decide) ?_
  refine ww_aload_n (pc := 2) g.1.1 d_law_run_2 rfl (lv_at hl 0 rfl) ?_
  refine ww_iload_n (pc := 3) g.1.1 d_law_run_3 rfl (lv_at hl 1 rfl) ?_
  refine ww_lo fun dlo => ?_
  rcases hk with rfl | rfl
  · have hT := tt_run hst hm hn h
    rw [exN_2] at hT
    refine wt_callT (pc := 4) (rest := [.int 0, .ref (q.1 155 0)]) (name := "java/lang/IllegalArgumentException") g cv_LM_run kt_20 cl_LM (pz rfl (by decide)) hT ⟨by decide, by decide⟩ rfl hl.1 (Nat.le_of_ble_eq_true rfl) d_law_run_4 rfl [] ⟨0, 9, 12, 19⟩ [⟨0, 9, 15, 13⟩] rfl (fun _ hz => nomatch hz) (by decide) (by decide) kt_15 nwc_2 rfl (fun q9 q1 hE hm1 => ?_)
    have e100 : q1.1 100 0 = q.1 100 0 := hE _ _ (by decide) (dlo _ _ (pz rfl (by decide)))
    refine ww_astore_n (pc := 12) (i := 3) g.1.1 (lv' := ((3, Value.ref q9) :: [(0, .ref (q.1 100 0)), (1, .int l1), (2, .ref (q.1 155 0))])) d_law_run_12 rfl hl (by decide) rfl fun ls hl => ?_
    refine ww_iconst (pc := 13) g.1.1 (v := 1) d_law_run_13 (by decide) ?_
    exact wt_iret (pc := 14) g hR hE hm1 d_law_run_14
  · have hT := tt_run hst hm hn h
    rw [exN_1] at hT
    refine wt_callT (pc := 4) (rest := [.int 0, .ref (q.1 155 0)]) (name := "java/lang/IllegalStateException") g cv_LM_run kt_20 cl_LM (pz rfl (by decide)) hT ⟨by decide, by decide⟩ rfl hl.1 (Nat.le_of_ble_eq_true rfl) d_law_run_4 rfl [⟨0, 9, 12, 19⟩] ⟨0, 9, 15, 13⟩ [] rfl (fun z hz => by obtain rfl := List.mem_singleton.mp hz; exact ⟨by decide, by decide, "java/lang/IllegalArgumentException", kt_15, g.1.2.2.2.2.2.2.2.2.1⟩) (by decide) (by decide) kt_13 nwc_1 rfl (fun q9 q1 hE hm1 => ?_)
    have e100 : q1.1 100 0 = q.1 100 0 := hE _ _ (by decide) (dlo _ _ (pz rfl (by decide)))
    refine ww_astore_n (pc := 15) (i := 3) g.1.1 (lv' := ((3, Value.ref q9) :: [(0, .ref (q.1 100 0)), (1, .int l1), (2, .ref (q.1 155 0))])) d_law_run_15 rfl hl (by decide) rfl fun ls hl => ?_
    refine ww_iconst (pc := 16) g.1.1 (v := 2) d_law_run_16 (by decide) ?_
    exact wt_iret (pc := 17) g hR hE hm1 d_law_run_17
def cw_collect (k : Int32) : Int32 :=  1
theorem wo_collect {l : Launch} {P : PP} {q : PL} {s s' : S1} {n0 : Nat × Nat}  {v : Int32} (hm : Rmq P q n0) (h : X_collect s = some (Sum.inr v, s')) : CtW l y_law_collect b_law_collect 3 (some .int) [(0, 8, 11, 13)] 8 110 P [] q s [.ref (q.1 100 0), .ref (q.1 155 0)] (fun _ => some (.int 0)) n0 (sB s' 155 0 0 v.toInt64) := by
  refine ctW_of (by decide) (Nat.le_of_ble_eq_true rfl) fun X ls eP el g hR hl => ?_
  subst eP
  subst el
  have hl : lv_has ls 3 [(0, .ref (q.1 100 0)), (1, .ref (q.1 155 0))] := hl
  refine ww_aload_n (pc := 0) g.1.1 d_law_collect_0 rfl (lv_at hl 1 rfl) ?_
  refine ww_iconst (pc := 1) g.1.1 (v := 0) d_law_collect_1 (by decide) ?_
  refine ww_aload_n (pc := 2) g.1.1 d_law_collect_2 rfl (lv_at hl 0 rfl) ?_
  refine ww_lo fun dlo => ?_
  refine wt_callX (pc := 3) (rest := [.int 0, .ref (q.1 155 0)]) g.1 cv_LM_collect kt_21 cl_LM (pz rfl (by decide)) (ct_ctX (ct_LM_collect (xm_collect _ _ _ h)) hm) ⟨by decide, by decide⟩ rfl hl.1 (Nat.le_of_ble_eq_true rfl) d_law_collect_3 rfl (fun q1 hE hm1 => ?_)
  have e155 : q1.1 155 0 = q.1 155 0 := hE _ _ (by decide) (dlo _ _ (pz rfl (by decide)))
  refine ww_st (st' := [.int v, .int 0, .ref (q1.1 155 0)]) (by rw [e155]; rfl) ?_
  refine ww_i2l (pc := 6) g.1.1 (v := v.toInt64) d_law_collect_6 rfl ?_
  refine wt_sl (pc := 7) g.1 (pz rfl (by decide)) rfl ⟨by decide, Nat.lt_of_lt_of_eq (by decide : (0 : Int32).toNatClampNeg < 1) rfl⟩ d_law_collect_7 ?_
  refine ww_goto (pc := 8) (tgt := 14) g.1.1 d_law_collect_8 (by decide) ?_
  refine ww_iconst (pc := 14) g.1.1 (v := 0) d_law_collect_14 (by decide) ?_
  exact wt_iret (pc := 15) g hR hE hm1 d_law_collect_15
theorem wb_collect {l : Launch} (hst : l.stackTraces = false) {P : PP} {q : PL} {s s' : S1} {n0 : Nat × Nat}  {k : Int32} (hm : Rmq P q n0) (hn : 1 ≤ n0.1 ∧ 6 ≤ n0.2) (h : X_collect s = some (Sum.inl k, s')) : CtW l y_law_collect b_law_collect 3 (some .int) [(0, 8, 11, 13)] 8 110 P [] q s [.ref (q.1 100 0), .ref (q.1 155 0)] (fun _ => some (.int (cw_collect k))) (n0.1 - 1, n0.2 - 6) s' := by
  have hk := xk_collect _ _ _ h
  refine ctW_of (by decide) (Nat.le_of_ble_eq_true rfl) fun X ls eP el g hR hl => ?_
  subst eP
  subst el
  have hl : lv_has ls 3 [(0, .ref (q.1 100 0)), (1, .ref (q.1 155 0))] := hl
  refine ww_aload_n (pc := 0) g.1.1 d_law_collect_0 rfl (lv_at hl 1 rfl) ?_
  refine ww_iconst (pc := 1) g.1.1 (v := 0) d_law_collect_1 (by decide) ?_
  refine ww_aload_n (pc := 2) g.1.1 d_law_collect_2 rfl (lv_at hl 0 rfl) ?_
  refine ww_lo fun dlo => ?_
  obtain rfl := hk
  have hT := tt_collect hst hm hn h
  rw [exN_1] at hT
  refine wt_callT (pc := 3) (rest := [.int 0, .ref (q.1 155 0)]) (name := "java/lang/IllegalStateException") g cv_LM_collect kt_21 cl_LM (pz rfl (by decide)) hT ⟨by decide, by decide⟩ rfl hl.1 (Nat.le_of_ble_eq_true rfl) d_law_collect_3 rfl [] ⟨0, 8, 11, 13⟩ [] rfl (fun _ hz => nomatch hz) (by decide) (by decide) kt_13 nwc_1 rfl (fun q9 q1 hE hm1 => ?_)
  have e100 : q1.1 100 0 = q.1 100 0 := hE _ _ (by decide) (dlo _ _ (pz rfl (by decide)))
  refine ww_astore_n (pc := 11) (i := 2) g.1.1 (lv' := ((2, Value.ref q9) :: [(0, .ref (q.1 100 0)), (1, .ref (q.1 155 0))])) d_law_collect_11 rfl hl (by decide) rfl fun ls hl => ?_
  refine ww_iconst (pc := 12) g.1.1 (v := 1) d_law_collect_12 (by decide) ?_
  exact wt_iret (pc := 13) g hR hE hm1 d_law_collect_13
def cw_kind (k : Int32) : Int32 :=  1
theorem wo_kind {l : Launch} {P : PP} {q : PL} {s s' : S1} {n0 : Nat × Nat} {l1 : Int32} {v : Int32} (hm : Rmq P q n0) (h : X_kind l1 s = some (Sum.inr v, s')) : CtW l y_law_kind b_law_kind 4 (some .int) [(0, 9, 12, 42)] 8 111 P [] q s [.ref (q.1 100 0), .int l1, .ref (q.1 155 0)] (fun _ => some (.int 0)) n0 (sB s' 155 0 0 v.toInt64) := by
  refine ctW_of (by decide) (Nat.le_of_ble_eq_true rfl) fun X ls eP el g hR hl => ?_
  subst eP
  subst el
  have hl : lv_has ls 4 [(0, .ref (q.1 100 0)), (1, .int l1), (2, .ref (q.1 155 0))] := hl
  refine ww_aload_n (pc := 0) g.1.1 d_law_kind_0 rfl (lv_at hl 2 rfl) ?_
  refine ww_iconst (pc := 1) g.1.1 (v := 0) d_law_kind_1 (by decide) ?_
  refine ww_aload_n (pc := 2) g.1.1 d_law_kind_2 rfl (lv_at hl 0 rfl) ?_
  refine ww_iload_n (pc := 3) g.1.1 d_law_kind_3 rfl (lv_at hl 1 rfl) ?_
  refine ww_lo fun dlo => ?_
  refine wt_callX (pc := 4) (rest := [.int 0, .ref (q.1 155 0)]) g.1 cv_LM_kind kt_22 cl_LM (pz rfl (by decide)) (ct_ctX (ct_LM_kind (xm_kind _ _ _ h)) hm) ⟨by decide, by decide⟩ rfl hl.1 (Nat.le_of_ble_eq_true rfl) d_law_kind_4 rfl (fun q1 hE hm1 => ?_)
  have e155 : q1.1 155 0 = q.1 155 0 := hE _ _ (by decide) (dlo _ _ (pz rfl (by decide)))
  refine ww_st (st' := [.int v, .int 0, .ref (q1.1 155 0)]) (by rw [e155]; rfl) ?_
  refine ww_i2l (pc := 7) g.1.1 (v := v.toInt64) d_law_kind_7 rfl ?_
  refine wt_sl (pc := 8) g.1 (pz rfl (by decide)) rfl ⟨by decide, Nat.lt_of_lt_of_eq (by decide : (0 : Int32).toNatClampNeg < 1) rfl⟩ d_law_kind_8 ?_
  refine ww_goto (pc := 9) (tgt := 15) g.1.1 d_law_kind_9 (by decide) ?_
  refine ww_iconst (pc := 15) g.1.1 (v := 0) d_law_kind_15 (by decide) ?_
  exact wt_iret (pc := 16) g hR hE hm1 d_law_kind_16
theorem wb_kind {l : Launch} (hst : l.stackTraces = false) {P : PP} {q : PL} {s s' : S1} {n0 : Nat × Nat} {l1 : Int32} {k : Int32} (hm : Rmq P q n0) (hn : 1 ≤ n0.1 ∧ 6 ≤ n0.2) (h : X_kind l1 s = some (Sum.inl k, s')) : CtW l y_law_kind b_law_kind 4 (some .int) [(0, 9, 12, 42)] 8 111 P [] q s [.ref (q.1 100 0), .int l1, .ref (q.1 155 0)] (fun _ => some (.int (cw_kind k))) (n0.1 - 1, n0.2 - 6) s' := by
  have hk := xk_kind _ _ _ h
  refine ctW_of (by decide) (Nat.le_of_ble_eq_true rfl) fun X ls eP el g hR hl => ?_
  subst eP
  subst el
  have hl : lv_has ls 4 [(0, .ref (q.1 100 0)), (1, .int l1), (2, .ref (q.1 155 0))] := hl
  refine ww_aload_n (pc := 0) g.1.1 d_law_kind_0 rfl (lv_at hl 2 rfl) ?_
  refine ww_iconst (pc := 1) g.1.1 (v := 0) d_law_kind_1 (by decide) ?_
  refine ww_aload_n (pc := 2) g.1.1 d_law_kind_2 rfl (lv_at hl 0 rfl) ?_
  refine ww_iload_n (pc := 3) g.1.1 d_law_kind_3 rfl (lv_at hl 1 rfl) ?_
  refine ww_lo fun dlo => ?_
  obtain rfl := hk
  have hT := tt_kind hst hm hn h
  rw [exN_4] at hT
  refine wt_callT (pc := 4) (rest := [.int 0, .ref (q.1 155 0)]) (name := "java/lang/IndexOutOfBoundsException") g cv_LM_kind kt_22 cl_LM (pz rfl (by decide)) hT ⟨by decide, by decide⟩ rfl hl.1 (Nat.le_of_ble_eq_true rfl) d_law_kind_4 rfl [] ⟨0, 9, 12, 42⟩ [] rfl (fun _ hz => nomatch hz) (by decide) (by decide) kt_23 nwc_4 rfl (fun q9 q1 hE hm1 => ?_)
  have e100 : q1.1 100 0 = q.1 100 0 := hE _ _ (by decide) (dlo _ _ (pz rfl (by decide)))
  refine ww_astore_n (pc := 12) (i := 3) g.1.1 (lv' := ((3, Value.ref q9) :: [(0, .ref (q.1 100 0)), (1, .int l1), (2, .ref (q.1 155 0))])) d_law_kind_12 rfl hl (by decide) rfl fun ls hl => ?_
  refine ww_iconst (pc := 13) g.1.1 (v := 1) d_law_kind_13 (by decide) ?_
  exact wt_iret (pc := 14) g hR hE hm1 d_law_kind_14
def cw_value (k : Int32) : Int32 :=  1
theorem wo_value {l : Launch} {P : PP} {q : PL} {s s' : S1} {n0 : Nat × Nat} {l1 : Int32} {v : Int64} (hm : Rmq P q n0) (h : X_value l1 s = some (Sum.inr v, s')) : CtW l y_law_value b_law_value 4 (some .int) [(0, 8, 11, 42)] 8 114 P [] q s [.ref (q.1 100 0), .int l1, .ref (q.1 155 0)] (fun _ => some (.int 0)) n0 (sB s' 155 0 0 v) := by
  refine ctW_of (by decide) (Nat.le_of_ble_eq_true rfl) fun X ls eP el g hR hl => ?_
  subst eP
  subst el
  have hl : lv_has ls 4 [(0, .ref (q.1 100 0)), (1, .int l1), (2, .ref (q.1 155 0))] := hl
  refine ww_aload_n (pc := 0) g.1.1 d_law_value_0 rfl (lv_at hl 2 rfl) ?_
  refine ww_iconst (pc := 1) g.1.1 (v := 0) d_law_value_1 (by decide) ?_
  refine ww_aload_n (pc := 2) g.1.1 d_law_value_2 rfl (lv_at hl 0 rfl) ?_
  refine ww_iload_n (pc := 3) g.1.1 d_law_value_3 rfl (lv_at hl 1 rfl) ?_
  refine ww_lo fun dlo => ?_
  refine wt_callX (pc := 4) (rest := [.int 0, .ref (q.1 155 0)]) g.1 cv_LM_value kt_24 cl_LM (pz rfl (by decide)) (ct_ctX (ct_LM_value (xm_value _ _ _ h)) hm) ⟨by decide, by decide⟩ rfl hl.1 (Nat.le_of_ble_eq_true rfl) d_law_value_4 rfl (fun q1 hE hm1 => ?_)
  have e155 : q1.1 155 0 = q.1 155 0 := hE _ _ (by decide) (dlo _ _ (pz rfl (by decide)))
  refine ww_st (st' := [.long v, .int 0, .ref (q1.1 155 0)]) (by rw [e155]; rfl) ?_
  refine wt_sl (pc := 7) g.1 (pz rfl (by decide)) rfl ⟨by decide, Nat.lt_of_lt_of_eq (by decide : (0 : Int32).toNatClampNeg < 1) rfl⟩ d_law_value_7 ?_
  refine ww_goto (pc := 8) (tgt := 14) g.1.1 d_law_value_8 (by decide) ?_
  refine ww_iconst (pc := 14) g.1.1 (v := 0) d_law_value_14 (by decide) ?_
  exact wt_iret (pc := 15) g hR hE hm1 d_law_value_15
theorem wb_value {l : Launch} (hst : l.stackTraces = false) {P : PP} {q : PL} {s s' : S1} {n0 : Nat × Nat} {l1 : Int32} {k : Int32} (hm : Rmq P q n0) (hn : 1 ≤ n0.1 ∧ 6 ≤ n0.2) (h : X_value l1 s = some (Sum.inl k, s')) : CtW l y_law_value b_law_value 4 (some .int) [(0, 8, 11, 42)] 8 114 P [] q s [.ref (q.1 100 0), .int l1, .ref (q.1 155 0)] (fun _ => some (.int (cw_value k))) (n0.1 - 1, n0.2 - 6) s' := by
  have hk := xk_value _ _ _ h
  refine ctW_of (by decide) (Nat.le_of_ble_eq_true rfl) fun X ls eP el g hR hl => ?_
  subst eP
  subst el
  have hl : lv_has ls 4 [(0, .ref (q.1 100 0)), (1, .int l1), (2, .ref (q.1 155 0))] := hl
  refine ww_aload_n (pc := 0) g.1.1 d_law_value_0 rfl (lv_at hl 2 rfl) ?_
  refine ww_iconst (pc := 1) g.1.1 (v := 0) d_law_value_1 (by decide) ?_
  refine ww_aload_n (pc := 2) g.1.1 d_law_value_2 rfl (lv_at hl 0 rfl) ?_
  refine ww_iload_n (pc := 3) g.1.1 d_law_value_3 rfl (lv_at hl 1 rfl) ?_
  refine ww_lo fun dlo => ?_
  obtain rfl := hk
  have hT := tt_value hst hm hn h
  rw [exN_4] at hT
  refine wt_callT (pc := 4) (rest := [.int 0, .ref (q.1 155 0)]) (name := "java/lang/IndexOutOfBoundsException") g cv_LM_value kt_24 cl_LM (pz rfl (by decide)) hT ⟨by decide, by decide⟩ rfl hl.1 (Nat.le_of_ble_eq_true rfl) d_law_value_4 rfl [] ⟨0, 8, 11, 42⟩ [] rfl (fun _ hz => nomatch hz) (by decide) (by decide) kt_23 nwc_4 rfl (fun q9 q1 hE hm1 => ?_)
  have e100 : q1.1 100 0 = q.1 100 0 := hE _ _ (by decide) (dlo _ _ (pz rfl (by decide)))
  refine ww_astore_n (pc := 11) (i := 3) g.1.1 (lv' := ((3, Value.ref q9) :: [(0, .ref (q.1 100 0)), (1, .int l1), (2, .ref (q.1 155 0))])) d_law_value_11 rfl hl (by decide) rfl fun ls hl => ?_
  refine ww_iconst (pc := 12) g.1.1 (v := 1) d_law_value_12 (by decide) ?_
  exact wt_iret (pc := 13) g hR hE hm1 d_law_value_13
def cw_byteOf (k : Int32) : Int32 := if k = 4 then 1 else 2
theorem wo_byteOf {l : Launch} {P : PP} {q : PL} {s s' : S1} {n0 : Nat × Nat} {l1 : Int32} {l2 : Int32} {v : Int32} (hm : Rmq P q n0) (h : X_byteOf l1 l2 s = some (Sum.inr v, s')) : CtW l y_law_byteOf b_law_byteOf 5 (some .int) [(0, 10, 13, 42), (0, 10, 17, 19)] 8 113 P [] q s [.ref (q.1 100 0), .int l1, .int l2, .ref (q.1 155 0)] (fun _ => some (.int 0)) n0 (sB s' 155 0 0 v.toInt64) := by
  refine ctW_of (by decide) (Nat.le_of_ble_eq_true rfl) fun X ls eP el g hR hl => ?_
  subst eP
  subst el
  have hl : lv_has ls 5 [(0, .ref (q.1 100 0)), (1, .int l1), (2, .int l2), (3, .ref (q.1 155 0))] := hl
  refine ww_aload_n (pc := 0) g.1.1 d_law_byteOf_0 rfl (lv_at hl 3 rfl) ?_
  refine ww_iconst (pc := 1) g.1.1 (v := 0) d_law_byteOf_1 (by decide) ?_
  refine ww_aload_n (pc := 2) g.1.1 d_law_byteOf_2 rfl (lv_at hl 0 rfl) ?_
  refine ww_iload_n (pc := 3) g.1.1 d_law_byteOf_3 rfl (lv_at hl 1 rfl) ?_
  refine ww_iload_n (pc := 4) g.1.1 d_law_byteOf_4 rfl (lv_at hl 2 rfl) ?_
  refine ww_lo fun dlo => ?_
  refine wt_callX (pc := 5) (rest := [.int 0, .ref (q.1 155 0)]) g.1 cv_LM_byteOf kt_25 cl_LM (pz rfl (by decide)) (ct_ctX (ct_LM_byteOf (xm_byteOf _ _ _ h)) hm) ⟨by decide, by decide⟩ rfl hl.1 (Nat.le_of_ble_eq_true rfl) d_law_byteOf_5 rfl (fun q1 hE hm1 => ?_)
  have e155 : q1.1 155 0 = q.1 155 0 := hE _ _ (by decide) (dlo _ _ (pz rfl (by decide)))
  refine ww_st (st' := [.int v, .int 0, .ref (q1.1 155 0)]) (by rw [e155]; rfl) ?_
  refine ww_i2l (pc := 8) g.1.1 (v := v.toInt64) d_law_byteOf_8 rfl ?_
  refine wt_sl (pc := 9) g.1 (pz rfl (by decide)) rfl ⟨by decide, Nat.lt_of_lt_of_eq (by decide : (0 : Int32).toNatClampNeg < 1) rfl⟩ d_law_byteOf_9 ?_
  refine ww_goto (pc := 10) (tgt := 21) g.1.1 d_law_byteOf_10 (by decide) ?_
  refine ww_iconst (pc := 21) g.1.1 (v := 0) d_law_byteOf_21 (by decide) ?_
  exact wt_iret (pc := 22) g hR hE hm1 d_law_byteOf_22
theorem wb_byteOf {l : Launch} (hst : l.stackTraces = false) {P : PP} {q : PL} {s s' : S1} {n0 : Nat × Nat} {l1 : Int32} {l2 : Int32} {k : Int32} (hm : Rmq P q n0) (hn : 1 ≤ n0.1 ∧ 6 ≤ n0.2) (h : X_byteOf l1 l2 s = some (Sum.inl k, s')) : CtW l y_law_byteOf b_law_byteOf 5 (some .int) [(0, 10, 13, 42), (0, 10, 17, 19)] 8 113 P [] q s [.ref (q.1 100 0), .int l1, .int l2, .ref (q.1 155 0)] (fun _ => some (.int (cw_byteOf k))) (n0.1 - 1, n0.2 - 6) s' := by
  have hk := xk_byteOf _ _ _ h
  refine ctW_of (by decide) (Nat.le_of_ble_eq_true rfl) fun X ls eP el g hR hl => ?_
  subst eP
  subst el
  have hl : lv_has ls 5 [(0, .ref (q.1 100 0)), (1, .int l1), (2, .int l2), (3, .ref (q.1 155 0))] := hl
  refine ww_aload_n (pc := 0) g.1.1 d_law_byteOf_0 rfl (lv_at hl 3 rfl) ?_
  refine ww_iconst (pc := 1) g.1.1 (v := 0) d_law_byteOf_1 (by decide) ?_
  refine ww_aload_n (pc := 2) g.1.1 d_law_byteOf_2 rfl (lv_at hl 0 rfl) ?_
  refine ww_iload_n (pc := 3) g.1.1 d_law_byteOf_3 rfl (lv_at hl 1 rfl) ?_
  refine ww_iload_n (pc := 4) g.1.1 d_law_byteOf_4 rfl (lv_at hl 2 rfl) ?_
  refine ww_lo fun dlo => ?_
  rcases hk with rfl | rfl
  · have hT := tt_byteOf hst hm hn h
    rw [exN_4] at hT
    refine wt_callT (pc := 5) (rest := [.int 0, .ref (q.1 155 0)]) (name := "java/lang/IndexOutOfBoundsException") g cv_LM_byteOf kt_25 cl_LM (pz rfl (by decide)) hT ⟨by decide, by decide⟩ rfl hl.1 (Nat.le_of_ble_eq_true rfl) d_law_byteOf_5 rfl [] ⟨0, 10, 13, 42⟩ [⟨0, 10, 17, 19⟩] rfl (fun _ hz => nomatch hz) (by decide) (by decide) kt_23 nwc_4 rfl (fun q9 q1 hE hm1 => ?_)
    have e100 : q1.1 100 0 = q.1 100 0 := hE _ _ (by decide) (dlo _ _ (pz rfl (by decide)))
    refine ww_astore (pc := 13) (i := 4) g.1.1 (lv' := ((4, Value.ref q9) :: [(0, .ref (q.1 100 0)), (1, .int l1), (2, .int l2), (3, .ref (q.1 155 0))])) d_law_byteOf_13 hl (by decide) rfl fun ls hl => ?_
    refine ww_iconst (pc := 15) g.1.1 (v := 1) d_law_byteOf_15 (by decide) ?_
    exact wt_iret (pc := 16) g hR hE hm1 d_law_byteOf_16
  · have hT := tt_byteOf hst hm hn h
    rw [exN_2] at hT
    refine wt_callT (pc := 5) (rest := [.int 0, .ref (q.1 155 0)]) (name := "java/lang/IllegalArgumentException") g cv_LM_byteOf kt_25 cl_LM (pz rfl (by decide)) hT ⟨by decide, by decide⟩ rfl hl.1 (Nat.le_of_ble_eq_true rfl) d_law_byteOf_5 rfl [⟨0, 10, 13, 42⟩] ⟨0, 10, 17, 19⟩ [] rfl (fun z hz => by obtain rfl := List.mem_singleton.mp hz; exact ⟨by decide, by decide, "java/lang/IndexOutOfBoundsException", kt_23, g.1.2.2.2.2.2.2.2.2.2⟩) (by decide) (by decide) kt_15 nwc_2 rfl (fun q9 q1 hE hm1 => ?_)
    have e100 : q1.1 100 0 = q.1 100 0 := hE _ _ (by decide) (dlo _ _ (pz rfl (by decide)))
    refine ww_astore (pc := 17) (i := 4) g.1.1 (lv' := ((4, Value.ref q9) :: [(0, .ref (q.1 100 0)), (1, .int l1), (2, .int l2), (3, .ref (q.1 155 0))])) d_law_byteOf_17 hl (by decide) rfl fun ls hl => ?_
    refine ww_iconst (pc := 19) g.1.1 (v := 2) d_law_byteOf_19 (by decide) ?_
    exact wt_iret (pc := 20) g hR hE hm1 d_law_byteOf_20
def cw_output (k : Int32) : Int32 :=  1
theorem wo_output {l : Launch} {P : PP} {q : PL} {s s' : S1} {n0 : Nat × Nat} {l1 : Int32} {v : Int32} (hm : Rmq P q n0) (h : X_output l1 s = some (Sum.inr v, s')) : CtW l y_law_output b_law_output 4 (some .int) [(0, 9, 12, 42)] 8 111 P [] q s [.ref (q.1 100 0), .int l1, .ref (q.1 155 0)] (fun _ => some (.int 0)) n0 (sB s' 155 0 0 v.toInt64) := by
  refine ctW_of (by decide) (Nat.le_of_ble_eq_true rfl) fun X ls eP el g hR hl => ?_
  subst eP
  subst el
  have hl : lv_has ls 4 [(0, .ref (q.1 100 0)), (1, .int l1), (2, .ref (q.1 155 0))] := hl
  refine ww_aload_n (pc := 0) g.1.1 d_law_output_0 rfl (lv_at hl 2 rfl) ?_
  refine ww_iconst (pc := 1) g.1.1 (v := 0) d_law_output_1 (by decide) ?_
  refine ww_aload_n (pc := 2) g.1.1 d_law_output_2 rfl (lv_at hl 0 rfl) ?_
  refine ww_iload_n (pc := 3) g.1.1 d_law_output_3 rfl (lv_at hl 1 rfl) ?_
  refine ww_lo fun dlo => ?_
  refine wt_callX (pc := 4) (rest := [.int 0, .ref (q.1 155 0)]) g.1 cv_LM_output kt_26 cl_LM (pz rfl (by decide)) (ct_ctX (ct_LM_output (xm_output _ _ _ h)) hm) ⟨by decide, by decide⟩ rfl hl.1 (Nat.le_of_ble_eq_true rfl) d_law_output_4 rfl (fun q1 hE hm1 => ?_)
  have e155 : q1.1 155 0 = q.1 155 0 := hE _ _ (by decide) (dlo _ _ (pz rfl (by decide)))
  refine ww_st (st' := [.int v, .int 0, .ref (q1.1 155 0)]) (by rw [e155]; rfl) ?_
  refine ww_i2l (pc := 7) g.1.1 (v := v.toInt64) d_law_output_7 rfl ?_
  refine wt_sl (pc := 8) g.1 (pz rfl (by decide)) rfl ⟨by decide, Nat.lt_of_lt_of_eq (by decide : (0 : Int32).toNatClampNeg < 1) rfl⟩ d_law_output_8 ?_
  refine ww_goto (pc := 9) (tgt := 15) g.1.1 d_law_output_9 (by decide) ?_
  refine ww_iconst (pc := 15) g.1.1 (v := 0) d_law_output_15 (by decide) ?_
  exact wt_iret (pc := 16) g hR hE hm1 d_law_output_16
theorem wb_output {l : Launch} (hst : l.stackTraces = false) {P : PP} {q : PL} {s s' : S1} {n0 : Nat × Nat} {l1 : Int32} {k : Int32} (hm : Rmq P q n0) (hn : 1 ≤ n0.1 ∧ 6 ≤ n0.2) (h : X_output l1 s = some (Sum.inl k, s')) : CtW l y_law_output b_law_output 4 (some .int) [(0, 9, 12, 42)] 8 111 P [] q s [.ref (q.1 100 0), .int l1, .ref (q.1 155 0)] (fun _ => some (.int (cw_output k))) (n0.1 - 1, n0.2 - 6) s' := by
  have hk := xk_output _ _ _ h
  refine ctW_of (by decide) (Nat.le_of_ble_eq_true rfl) fun X ls eP el g hR hl => ?_
  subst eP
  subst el
  have hl : lv_has ls 4 [(0, .ref (q.1 100 0)), (1, .int l1), (2, .ref (q.1 155 0))] := hl
  refine ww_aload_n (pc := 0) g.1.1 d_law_output_0 rfl (lv_at hl 2 rfl) ?_
  refine ww_iconst (pc := 1) g.1.1 (v := 0) d_law_output_1 (by decide) ?_
  refine ww_aload_n (pc := 2) g.1.1 d_law_output_2 rfl (lv_at hl 0 rfl) ?_
  refine ww_iload_n (pc := 3) g.1.1 d_law_output_3 rfl (lv_at hl 1 rfl) ?_
  refine ww_lo fun dlo => ?_
  obtain rfl := hk
  have hT := tt_output hst hm hn h
  rw [exN_4] at hT
  refine wt_callT (pc := 4) (rest := [.int 0, .ref (q.1 155 0)]) (name := "java/lang/IndexOutOfBoundsException") g cv_LM_output kt_26 cl_LM (pz rfl (by decide)) hT ⟨by decide, by decide⟩ rfl hl.1 (Nat.le_of_ble_eq_true rfl) d_law_output_4 rfl [] ⟨0, 9, 12, 42⟩ [] rfl (fun _ hz => nomatch hz) (by decide) (by decide) kt_23 nwc_4 rfl (fun q9 q1 hE hm1 => ?_)
  have e100 : q1.1 100 0 = q.1 100 0 := hE _ _ (by decide) (dlo _ _ (pz rfl (by decide)))
  refine ww_astore_n (pc := 12) (i := 3) g.1.1 (lv' := ((3, Value.ref q9) :: [(0, .ref (q.1 100 0)), (1, .int l1), (2, .ref (q.1 155 0))])) d_law_output_12 rfl hl (by decide) rfl fun ls hl => ?_
  refine ww_iconst (pc := 13) g.1.1 (v := 1) d_law_output_13 (by decide) ?_
  exact wt_iret (pc := 14) g hR hE hm1 d_law_output_14
