def R_Str : String := "java/lang/String"
def R_SL1 : String := "java/lang/StringLatin1"
def R_Pre : String := "jdk/internal/util/Preconditions"
abbrev b_Str_coder : ByteArray := prog_27_method_152_code
def y_Str_coder : MethodName := ⟨R_Str, "coder", "()B"⟩
abbrev w_Str_coder : List Cond := .code y_Str_coder b_Str_coder 1 (some .byte) :: wA
theorem k_Str_coder : Cond.code y_Str_coder b_Str_coder 1 (some .byte) ∈ wA := kinm (show _ ∈ tables_1 from (List.mem_append_right _ (List.mem_append_right _ (List.mem_append_right _ (List.mem_append_left _ (List.mem_of_getElem? (l := tables_1_4) (i := 187) (by decide +kernel))))))) (by decide +kernel)
theorem d_Str_coder_0 : decode b_Str_coder 0 = .ok (.getstatic 38, 3) := by decide +kernel
theorem d_Str_coder_3 : decode b_Str_coder 3 = .ok (.ifCond .eq 10, 3) := by decide +kernel
theorem d_Str_coder_6 : decode b_Str_coder 6 = .ok (.aload_n 0, 1) := by decide +kernel
theorem d_Str_coder_7 : decode b_Str_coder 7 = .ok (.getfield 15, 3) := by decide +kernel
theorem d_Str_coder_10 : decode b_Str_coder 10 = .ok (.goto 4, 3) := by decide +kernel
theorem d_Str_coder_13 : decode b_Str_coder 13 = .ok (.iconst 1, 1) := by decide +kernel
theorem d_Str_coder_14 : decode b_Str_coder 14 = .ok (.ireturn, 1) := by decide +kernel
abbrev b_Str_isLatin1 : ByteArray := prog_27_method_154_code
def y_Str_isLatin1 : MethodName := ⟨R_Str, "isLatin1", "()Z"⟩
abbrev w_Str_isLatin1 : List Cond := .code y_Str_isLatin1 b_Str_isLatin1 1 (some .boolean) :: wA
theorem k_Str_isLatin1 : Cond.code y_Str_isLatin1 b_Str_isLatin1 1 (some .boolean) ∈ wA := kinm (show _ ∈ tables_1 from (List.mem_append_right _ (List.mem_append_right _ (List.mem_append_left _ (List.mem_of_getElem? (l := tables_1_3) (i := 232) (by decide +kernel)))))) (by decide +kernel)
theorem d_Str_isLatin1_0 : decode b_Str_isLatin1 0 = .ok (.getstatic 38, 3) := by decide +kernel
theorem d_Str_isLatin1_3 : decode b_Str_isLatin1 3 = .ok (.ifCond .eq 14, 3) := by decide +kernel
theorem d_Str_isLatin1_6 : decode b_Str_isLatin1 6 = .ok (.aload_n 0, 1) := by decide +kernel
theorem d_Str_isLatin1_7 : decode b_Str_isLatin1 7 = .ok (.getfield 15, 3) := by decide +kernel
theorem d_Str_isLatin1_10 : decode b_Str_isLatin1 10 = .ok (.ifCond .ne 7, 3) := by decide +kernel
theorem d_Str_isLatin1_13 : decode b_Str_isLatin1 13 = .ok (.iconst 1, 1) := by decide +kernel
theorem d_Str_isLatin1_14 : decode b_Str_isLatin1 14 = .ok (.goto 4, 3) := by decide +kernel
theorem d_Str_isLatin1_17 : decode b_Str_isLatin1 17 = .ok (.iconst 0, 1) := by decide +kernel
theorem d_Str_isLatin1_18 : decode b_Str_isLatin1 18 = .ok (.ireturn, 1) := by decide +kernel
abbrev b_Pre_checkIndex : ByteArray := prog_36_method_11_code
def y_Pre_checkIndex : MethodName := ⟨R_Pre, "checkIndex", "(IILjava/util/function/BiFunction;)I"⟩
abbrev w_Pre_checkIndex : List Cond := .code y_Pre_checkIndex b_Pre_checkIndex 3 (some .int) :: wA
theorem k_Pre_checkIndex : Cond.code y_Pre_checkIndex b_Pre_checkIndex 3 (some .int) ∈ wA := kinm (show _ ∈ tables_1 from (List.mem_append_right _ (List.mem_append_right _ (List.mem_append_right _ (List.mem_append_left _ (List.mem_of_getElem? (l := tables_1_4) (i := 5) (by decide +kernel))))))) (by decide +kernel)
theorem d_Pre_checkIndex_0 : decode b_Pre_checkIndex 0 = .ok (.iload_n 0, 1) := by decide +kernel
theorem d_Pre_checkIndex_1 : decode b_Pre_checkIndex 1 = .ok (.ifCond .lt 8, 3) := by decide +kernel
theorem d_Pre_checkIndex_4 : decode b_Pre_checkIndex 4 = .ok (.iload_n 0, 1) := by decide +kernel
theorem d_Pre_checkIndex_5 : decode b_Pre_checkIndex 5 = .ok (.iload_n 1, 1) := by decide +kernel
theorem d_Pre_checkIndex_6 : decode b_Pre_checkIndex 6 = .ok (.if_icmp .lt 10, 3) := by decide +kernel
theorem d_Pre_checkIndex_9 : decode b_Pre_checkIndex 9 = .ok (.aload_n 2, 1) := by decide +kernel
theorem d_Pre_checkIndex_10 : decode b_Pre_checkIndex 10 = .ok (.iload_n 0, 1) := by decide +kernel
theorem d_Pre_checkIndex_11 : decode b_Pre_checkIndex 11 = .ok (.iload_n 1, 1) := by decide +kernel
theorem d_Pre_checkIndex_12 : decode b_Pre_checkIndex 12 = .ok (.invokestatic 95, 3) := by decide +kernel
theorem d_Pre_checkIndex_15 : decode b_Pre_checkIndex 15 = .ok (.athrow, 1) := by decide +kernel
theorem d_Pre_checkIndex_16 : decode b_Pre_checkIndex 16 = .ok (.iload_n 0, 1) := by decide +kernel
theorem d_Pre_checkIndex_17 : decode b_Pre_checkIndex 17 = .ok (.ireturn, 1) := by decide +kernel
abbrev b_Str_checkIndex : ByteArray := prog_27_method_155_code
def y_Str_checkIndex : MethodName := ⟨R_Str, "checkIndex", "(II)V"⟩
abbrev w_Str_checkIndex : List Cond := .code y_Str_checkIndex b_Str_checkIndex 2 none :: wA
theorem k_Str_checkIndex : Cond.code y_Str_checkIndex b_Str_checkIndex 2 none ∈ wA := kinm (show _ ∈ tables_1 from (List.mem_append_right _ (List.mem_append_right _ (List.mem_append_right _ (List.mem_append_left _ (List.mem_of_getElem? (l := tables_1_4) (i := 0) (by decide +kernel))))))) (by decide +kernel)
theorem d_Str_checkIndex_0 : decode b_Str_checkIndex 0 = .ok (.iload_n 0, 1) := by decide +kernel
theorem d_Str_checkIndex_1 : decode b_Str_checkIndex 1 = .ok (.iload_n 1, 1) := by decide +kernel
theorem d_Str_checkIndex_2 : decode b_Str_checkIndex 2 = .ok (.getstatic 1053, 3) := by decide +kernel
theorem d_Str_checkIndex_5 : decode b_Str_checkIndex 5 = .ok (.invokestatic 1059, 3) := by decide +kernel
theorem d_Str_checkIndex_8 : decode b_Str_checkIndex 8 = .ok (.pop, 1) := by decide +kernel
theorem d_Str_checkIndex_9 : decode b_Str_checkIndex 9 = .ok (.return_, 1) := by decide +kernel
abbrev b_SL1_charAt : ByteArray := prog_29_method_2_code
def y_SL1_charAt : MethodName := ⟨R_SL1, "charAt", "([BI)C"⟩
abbrev w_SL1_charAt : List Cond := .code y_SL1_charAt b_SL1_charAt 2 (some .char) :: wA
theorem k_SL1_charAt : Cond.code y_SL1_charAt b_SL1_charAt 2 (some .char) ∈ wA := kinm (show _ ∈ tables_1 from (List.mem_append_right _ (List.mem_append_right _ (List.mem_append_left _ (List.mem_of_getElem? (l := tables_1_3) (i := 237) (by decide +kernel)))))) (by decide +kernel)
theorem d_SL1_charAt_0 : decode b_SL1_charAt 0 = .ok (.iload_n 1, 1) := by decide +kernel
theorem d_SL1_charAt_1 : decode b_SL1_charAt 1 = .ok (.aload_n 0, 1) := by decide +kernel
theorem d_SL1_charAt_2 : decode b_SL1_charAt 2 = .ok (.arraylength, 1) := by decide +kernel
theorem d_SL1_charAt_3 : decode b_SL1_charAt 3 = .ok (.invokestatic 9, 3) := by decide +kernel
theorem d_SL1_charAt_6 : decode b_SL1_charAt 6 = .ok (.aload_n 0, 1) := by decide +kernel
theorem d_SL1_charAt_7 : decode b_SL1_charAt 7 = .ok (.iload_n 1, 1) := by decide +kernel
theorem d_SL1_charAt_8 : decode b_SL1_charAt 8 = .ok (.baload, 1) := by decide +kernel
theorem d_SL1_charAt_9 : decode b_SL1_charAt 9 = .ok (.sipush 255, 3) := by decide +kernel
theorem d_SL1_charAt_12 : decode b_SL1_charAt 12 = .ok (.iand, 1) := by decide +kernel
theorem d_SL1_charAt_13 : decode b_SL1_charAt 13 = .ok (.i2c, 1) := by decide +kernel
theorem d_SL1_charAt_14 : decode b_SL1_charAt 14 = .ok (.ireturn, 1) := by decide +kernel
abbrev b_Str_length : ByteArray := prog_27_method_54_code
def y_Str_length : MethodName := ⟨R_Str, "length", "()I"⟩
abbrev w_Str_length : List Cond := .code y_Str_length b_Str_length 1 (some .int) :: wA
theorem k_Str_length : Cond.code y_Str_length b_Str_length 1 (some .int) ∈ wA := kinm (show _ ∈ tables_1 from (List.mem_append_right _ (List.mem_append_right _ (List.mem_append_right _ (List.mem_append_left _ (List.mem_of_getElem? (l := tables_1_4) (i := 183) (by decide +kernel))))))) (by decide +kernel)
theorem d_Str_length_0 : decode b_Str_length 0 = .ok (.aload_n 0, 1) := by decide +kernel
theorem d_Str_length_1 : decode b_Str_length 1 = .ok (.getfield 9, 3) := by decide +kernel
theorem d_Str_length_4 : decode b_Str_length 4 = .ok (.arraylength, 1) := by decide +kernel
theorem d_Str_length_5 : decode b_Str_length 5 = .ok (.aload_n 0, 1) := by decide +kernel
theorem d_Str_length_6 : decode b_Str_length 6 = .ok (.invokevirtual 335, 3) := by decide +kernel
theorem d_Str_length_9 : decode b_Str_length 9 = .ok (.ishr, 1) := by decide +kernel
theorem d_Str_length_10 : decode b_Str_length 10 = .ok (.ireturn, 1) := by decide +kernel
abbrev b_Str_charAt : ByteArray := prog_27_method_56_code
def y_Str_charAt : MethodName := ⟨R_Str, "charAt", "(I)C"⟩
abbrev w_Str_charAt : List Cond := .code y_Str_charAt b_Str_charAt 2 (some .char) :: wA
theorem k_Str_charAt : Cond.code y_Str_charAt b_Str_charAt 2 (some .char) ∈ wA := kinm (show _ ∈ tables_1 from (List.mem_append_right _ (List.mem_append_right _ (List.mem_append_left _ (List.mem_of_getElem? (l := tables_1_3) (i := 228) (by decide +kernel)))))) (by decide +kernel)
theorem d_Str_charAt_0 : decode b_Str_charAt 0 = .ok (.aload_n 0, 1) := by decide +kernel
theorem d_Str_charAt_1 : decode b_Str_charAt 1 = .ok (.invokevirtual 492, 3) := by decide +kernel
theorem d_Str_charAt_4 : decode b_Str_charAt 4 = .ok (.ifCond .eq 12, 3) := by decide +kernel
theorem d_Str_charAt_7 : decode b_Str_charAt 7 = .ok (.aload_n 0, 1) := by decide +kernel
theorem d_Str_charAt_8 : decode b_Str_charAt 8 = .ok (.getfield 9, 3) := by decide +kernel
theorem d_Str_charAt_11 : decode b_Str_charAt 11 = .ok (.iload_n 1, 1) := by decide +kernel
theorem d_Str_charAt_12 : decode b_Str_charAt 12 = .ok (.invokestatic 495, 3) := by decide +kernel
theorem d_Str_charAt_15 : decode b_Str_charAt 15 = .ok (.ireturn, 1) := by decide +kernel
theorem d_Str_charAt_16 : decode b_Str_charAt 16 = .ok (.aload_n 0, 1) := by decide +kernel
theorem d_Str_charAt_17 : decode b_Str_charAt 17 = .ok (.getfield 9, 3) := by decide +kernel
theorem d_Str_charAt_20 : decode b_Str_charAt 20 = .ok (.iload_n 1, 1) := by decide +kernel
theorem d_Str_charAt_21 : decode b_Str_charAt 21 = .ok (.invokestatic 498, 3) := by decide +kernel
theorem d_Str_charAt_24 : decode b_Str_charAt 24 = .ok (.ireturn, 1) := by decide +kernel
theorem kws_0 : Cond.fieldLink R_Str 9 "java/lang/String" "value" "[B" ∈ wA := kinm (show _ ∈ tables_1 from (List.mem_append_right _ (List.mem_append_right _ (List.mem_append_right _ (List.mem_append_right _ (List.mem_append_left _ (List.mem_of_getElem? (l := tables_1_5) (i := 68) (by decide +kernel)))))))) (by decide +kernel)
theorem kws_1 : Cond.fieldLink R_Str 15 "java/lang/String" "coder" "B" ∈ wA := kinm (show _ ∈ tables_1 from (List.mem_append_right _ (List.mem_append_right _ (List.mem_append_right _ (List.mem_append_right _ (List.mem_append_left _ (List.mem_of_getElem? (l := tables_1_5) (i := 69) (by decide +kernel)))))))) (by decide +kernel)
theorem kws_2 : Cond.fieldLink R_Str 38 "java/lang/String" "COMPACT_STRINGS" "Z" ∈ wA := kinm (show _ ∈ tables_1 from (List.mem_append_right _ (List.mem_append_right _ (List.mem_append_left _ (List.mem_of_getElem? (l := tables_1_3) (i := 233) (by decide +kernel)))))) (by decide +kernel)
theorem kws_3 : Cond.fieldLink R_Str 1053 "jdk/internal/util/Preconditions" "SIOOBE_FORMATTER" "Ljava/util/function/BiFunction;" ∈ wA := kinm (show _ ∈ tables_1 from (List.mem_append_right _ (List.mem_append_right _ (List.mem_append_right _ (List.mem_append_left _ (List.mem_of_getElem? (l := tables_1_4) (i := 1) (by decide +kernel))))))) (by decide +kernel)
theorem kws_4 : Cond.instanceMethod y_Str_coder ∈ wA := kinm (show _ ∈ tables_1 from (List.mem_append_right _ (List.mem_append_right _ (List.mem_append_right _ (List.mem_append_left _ (List.mem_of_getElem? (l := tables_1_4) (i := 185) (by decide +kernel))))))) (by decide +kernel)
theorem kws_5 : Cond.selects R_Str y_Str_coder y_Str_coder ∈ wA := kinm (show _ ∈ tables_1 from (List.mem_append_right _ (List.mem_append_right _ (List.mem_append_right _ (List.mem_append_left _ (List.mem_of_getElem? (l := tables_1_4) (i := 186) (by decide +kernel))))))) (by decide +kernel)
theorem kws_6 : Cond.initialized R_Str ∈ wA := kinm (show _ ∈ tables_1 from (List.mem_append_left _ (List.mem_of_getElem? (l := tables_1_1) (i := 18) (by decide +kernel)))) (by decide +kernel)
theorem kws_7 : Cond.instanceMethod y_Str_isLatin1 ∈ wA := kinm (show _ ∈ tables_1 from (List.mem_append_right _ (List.mem_append_right _ (List.mem_append_left _ (List.mem_of_getElem? (l := tables_1_3) (i := 230) (by decide +kernel)))))) (by decide +kernel)
theorem kws_8 : Cond.selects R_Str y_Str_isLatin1 y_Str_isLatin1 ∈ wA := kinm (show _ ∈ tables_1 from (List.mem_append_right _ (List.mem_append_right _ (List.mem_append_left _ (List.mem_of_getElem? (l := tables_1_3) (i := 231) (by decide +kernel)))))) (by decide +kernel)
theorem kws_9 : Cond.static y_Pre_checkIndex ∈ wA := kinm (show _ ∈ tables_1 from (List.mem_append_right _ (List.mem_append_right _ (List.mem_append_right _ (List.mem_append_left _ (List.mem_of_getElem? (l := tables_1_4) (i := 4) (by decide +kernel))))))) (by decide +kernel)
theorem kws_10 : Cond.initialized R_Pre ∈ wA := kinm (show _ ∈ tables_1 from (List.mem_append_left _ (List.mem_of_getElem? (l := tables_1_1) (i := 20) (by decide +kernel)))) (by decide +kernel)
theorem kws_11 : Cond.static y_Str_checkIndex ∈ wA := kinm (show _ ∈ tables_1 from (List.mem_append_right _ (List.mem_append_right _ (List.mem_append_left _ (List.mem_of_getElem? (l := tables_1_3) (i := 239) (by decide +kernel)))))) (by decide +kernel)
theorem kws_12 : Cond.static y_SL1_charAt ∈ wA := kinm (show _ ∈ tables_1 from (List.mem_append_right _ (List.mem_append_right _ (List.mem_append_left _ (List.mem_of_getElem? (l := tables_1_3) (i := 236) (by decide +kernel)))))) (by decide +kernel)
theorem kws_13 : Cond.initialized R_SL1 ∈ wA := kinm (show _ ∈ tables_1 from (List.mem_append_left _ (List.mem_of_getElem? (l := tables_1_1) (i := 19) (by decide +kernel)))) (by decide +kernel)
theorem kws_14 : Cond.instanceMethod y_Str_length ∈ wA := kinm (show _ ∈ tables_1 from (List.mem_append_right _ (List.mem_append_right _ (List.mem_append_right _ (List.mem_append_left _ (List.mem_of_getElem? (l := tables_1_4) (i := 181) (by decide +kernel))))))) (by decide +kernel)
theorem kws_15 : Cond.selects R_Str y_Str_length y_Str_length ∈ wA := kinm (show _ ∈ tables_1 from (List.mem_append_right _ (List.mem_append_right _ (List.mem_append_right _ (List.mem_append_left _ (List.mem_of_getElem? (l := tables_1_4) (i := 182) (by decide +kernel))))))) (by decide +kernel)
theorem kws_16 : Cond.instanceMethod y_Str_charAt ∈ wA := kinm (show _ ∈ tables_1 from (List.mem_append_right _ (List.mem_append_right _ (List.mem_append_left _ (List.mem_of_getElem? (l := tables_1_3) (i := 226) (by decide +kernel)))))) (by decide +kernel)
theorem kws_17 : Cond.selects R_Str y_Str_charAt y_Str_charAt ∈ wA := kinm (show _ ∈ tables_1 from (List.mem_append_right _ (List.mem_append_right _ (List.mem_append_left _ (List.mem_of_getElem? (l := tables_1_3) (i := 227) (by decide +kernel)))))) (by decide +kernel)
theorem kws_18 : Cond.methodLink R_Str 335 y_Str_coder ∈ wA := kinm (show _ ∈ tables_1 from (List.mem_append_right _ (List.mem_append_right _ (List.mem_append_right _ (List.mem_append_left _ (List.mem_of_getElem? (l := tables_1_4) (i := 184) (by decide +kernel))))))) (by decide +kernel)
theorem kws_19 : Cond.methodLink R_Str 492 y_Str_isLatin1 ∈ wA := kinm (show _ ∈ tables_1 from (List.mem_append_right _ (List.mem_append_right _ (List.mem_append_left _ (List.mem_of_getElem? (l := tables_1_3) (i := 229) (by decide +kernel)))))) (by decide +kernel)
theorem kws_20 : Cond.methodLink R_Str 1059 y_Pre_checkIndex ∈ wA := kinm (show _ ∈ tables_1 from (List.mem_append_right _ (List.mem_append_right _ (List.mem_append_right _ (List.mem_append_left _ (List.mem_of_getElem? (l := tables_1_4) (i := 3) (by decide +kernel))))))) (by decide +kernel)
theorem kws_21 : Cond.methodLink R_SL1 9 y_Str_checkIndex ∈ wA := kinm (show _ ∈ tables_1 from (List.mem_append_right _ (List.mem_append_right _ (List.mem_append_left _ (List.mem_of_getElem? (l := tables_1_3) (i := 238) (by decide +kernel)))))) (by decide +kernel)
theorem kws_22 : Cond.methodLink R_Str 495 y_SL1_charAt ∈ wA := kinm (show _ ∈ tables_1 from (List.mem_append_right _ (List.mem_append_right _ (List.mem_append_left _ (List.mem_of_getElem? (l := tables_1_3) (i := 235) (by decide +kernel)))))) (by decide +kernel)
theorem cv_Str_coder : CV y_Str_coder b_Str_coder 1 (some .byte) 0 := ⟨kws_4, kws_5, kws_6, k_Str_coder, by decide +kernel⟩
theorem cv_Str_isLatin1 : CV y_Str_isLatin1 b_Str_isLatin1 1 (some .boolean) 0 := ⟨kws_7, kws_8, kws_6, k_Str_isLatin1, by decide +kernel⟩
theorem cs_Pre_checkIndex : CS y_Pre_checkIndex b_Pre_checkIndex 3 (some .int) 3 := ⟨kws_9, kws_10, k_Pre_checkIndex, by decide +kernel⟩
theorem cs_Str_checkIndex : CS y_Str_checkIndex b_Str_checkIndex 2 none 2 := ⟨kws_11, kws_6, k_Str_checkIndex, by decide +kernel⟩
theorem cs_SL1_charAt : CS y_SL1_charAt b_SL1_charAt 2 (some .char) 2 := ⟨kws_12, kws_13, k_SL1_charAt, by decide +kernel⟩
theorem cv_Str_length : CV y_Str_length b_Str_length 1 (some .int) 0 := ⟨kws_14, kws_15, kws_6, k_Str_length, by decide +kernel⟩
theorem cv_Str_charAt : CV y_Str_charAt b_Str_charAt 2 (some .char) 1 := ⟨kws_16, kws_17, kws_6, k_Str_charAt, by decide +kernel⟩
def stLI (n : Nat) : Int32 := Int32.ofNat (stL n)
def stC (n : Nat) (k : Int32) : Int32 := (stB n).getD k.toNatClampNeg 0
theorem st_len : ∀ n, n < nSt → stL n < 2147483648 := by decide +kernel
theorem st_ch : ∀ n, n < nSt → ∀ b ∈ stB n, ((b &&& 255).toUInt32 % 65536).toInt32 = b ∧ narrow .char (.int b) = .int b := by decide +kernel
theorem st_c {n : Nat} (hn : n < nSt) {k : Int32} (hk : (0 : Int32) ≤ k ∧ k < stLI n) : (((stB n).getD k.toNatClampNeg 0 &&& 255).toUInt32 % 65536).toInt32 = stC n k ∧ narrow .char (.int (stC n k)) = .int (stC n k) := by
  have hj := j_in hk (N := stL n) (nI_clamp (by have := st_len n hn; omega))
  have hlt : k.toNatClampNeg < (stB n).length := by
    have : stL n = (stB n).length := rfl
    omega
  have hm : (stB n).getD k.toNatClampNeg 0 ∈ stB n := by
    rw [List.getD_eq_getElem?_getD, List.getElem?_eq_getElem hlt]
    exact List.getElem_mem hlt
  exact st_ch n hn _ hm
section ST
variable {X : Cx} {q : PL} {s : S1} {y : MethodName} {cc : ByteArray} {nL : Nat} {ret : Option FieldType} {fr lo : Nat} {own : String} {pc : Nat} {ls : Array Slot} {rest : List Value} {index n : Nat} {α : Type} {o : α × S1}
theorem ww_ldcS (g : Gd X y cc nL ret fr lo own) (hn : n < nSt) (ho : stO n = own) (hi : stI n = index) (hdg : decode cc pc = .ok (.ldc index, 2)) (kk : WW X q s (pc + 2) ls (.ref (aK (xP X) n) :: rest)) : WW X q s pc ls rest := fun H locs u1 u2 => va_ldcS g.1.1 g.1.2 g.2.2.1 (ho ▸ hi ▸ (g.2.2.2.2.1.2.2.2.1.2.2 n hn).1) hdg (kk H locs u1 u2)
theorem ww_as (g : Gd X y cc nL ret fr lo own) {a : Nat} {i m j : Int32} (hp : prs s a i) (ha : rkF a = 6) (hm : m.toNatClampNeg = lnS s a i) (hdg : decode cc pc = .ok (.aaload, 1)) {kt : Unit → M α} (h : oB (oK (((0 : Int32) ≤ j ∧ j < m) ∧ sbF a + j.toNatClampNeg < nSt)) kt s = some o) (kk : (0 ≤ j ∧ j < m) ∧ sbF a + j.toNatClampNeg < nSt → kt () s = some o → WW X q s (pc + 1) ls (.ref (aK (xP X) (sbF a + j.toNatClampNeg)) :: rest)) : WW X q s pc ls (.int j :: .ref (q.1 a i) :: rest) := by
  intro H locs hW hS
  obtain ⟨⟨hx, hb⟩, -, hown, hts, hK, -⟩ := g
  obtain ⟨hj, h⟩ := oK_in h
  have hin := j_in hj.1 hm
  obtain ⟨C, hC⟩ := (hK.2.1 a).2.2.2.2 (by omega) (by omega)
  have hcell := (hW.2.2.1 a i hp).1
  unfold cellAt at hcell
  rw [if_neg (by omega)] at hcell
  unfold avP at hcell
  rw [if_pos ha] at hcell
  exact W.aald (v := .ref (aK (xP X) (sbF a + j.toNatClampNeg))) (ty := .object C) hx hb hcell (hC _ _) rfl (fun z => by cases z) (by rw [arrV_size]; exact hin) (by rw [arrV_read _ _ (by omega)]) rfl rfl hdg (kk hj h H locs hW hS)
theorem ww_sval (g : Gd X y cc nL ret fr lo R_Str) (hn : n < nSt) (hdg : decode cc pc = .ok (.getfield 9, 3)) (kk : WW X q s (pc + 3) ls (.ref (aV (xP X) n) :: rest)) : WW X q s pc ls (.ref (aK (xP X) n) :: rest) := fun H locs u1 u2 => vk_getf g.1.1 g.1.2 (g.2.2.2.2.1.2.2.2.1.2.2 n hn).2.2.2.1 u2 g.2.2.1 (g.2.2.2.1 _ (List.mem_cons_of_mem _ kws_0)) (fun _ h => h) hdg (kk H locs u1 u2)
theorem ww_scod (g : Gd X y cc nL ret fr lo R_Str) (hn : n < nSt) (hdg : decode cc pc = .ok (.getfield 15, 3)) (kk : WW X q s (pc + 3) ls (.int 0 :: rest)) : WW X q s pc ls (.ref (aK (xP X) n) :: rest) := fun H locs u1 u2 => vk_getf g.1.1 g.1.2 (g.2.2.2.2.1.2.2.2.1.2.2 n hn).2.2.1 u2 g.2.2.1 (g.2.2.2.1 _ (List.mem_cons_of_mem _ kws_1)) (fun _ h => h) hdg (kk H locs u1 u2)
theorem ww_scmp (g : Gd X y cc nL ret fr lo R_Str) (hdg : decode cc pc = .ok (.getstatic 38, 3)) (kk : WW X q s (pc + 3) ls (.int 1 :: rest)) : WW X q s pc ls rest := fun H locs u1 u2 => va_gets g.1.1 g.1.2 g.2.2.2.2.1.2.2.2.1.1 u2 g.2.2.1 (g.2.2.2.1 _ (List.mem_cons_of_mem _ kws_2)) (fun _ h => h) hdg (kk H locs u1 u2)
theorem ww_sfmt (g : Gd X y cc nL ret fr lo R_Str) (hdg : decode cc pc = .ok (.getstatic 1053, 3)) (kk : ∀ v : Value, (v = .null ∨ ∃ a, v = .ref a) → WW X q s (pc + 3) ls (v :: rest)) : WW X q s pc ls rest := by
  intro H locs u1 u2
  rcases g.2.2.2.2.1.2.2.2.1.2.1 with z | ⟨t, z⟩
  · exact va_gets g.1.1 g.1.2 z u2 g.2.2.1 (g.2.2.2.1 _ (List.mem_cons_of_mem _ kws_3)) (fun _ h => h) hdg (kk _ (Or.inl rfl) H locs u1 u2)
  · exact va_gets g.1.1 g.1.2 z u2 g.2.2.1 (g.2.2.2.1 _ (List.mem_cons_of_mem _ kws_3)) (fun _ h => h) hdg (kk _ (Or.inr ⟨t, rfl⟩) H locs u1 u2)
theorem ww_svl (g : Gd X y cc nL ret fr lo own) (hn : n < nSt) (hdg : decode cc pc = .ok (.arraylength, 1)) (kk : WW X q s (pc + 1) ls (.int (stLI n) :: rest)) : WW X q s pc ls (.ref (aV (xP X) n) :: rest) := by
  intro H locs u1 u2
  obtain ⟨cell, h1, h2, h3, h4, h5, h6, h7⟩ := ((g.2.2.2.2.1.2.2.2.1.2.2 n hn).2.2.2.2).kept u2.2.1
  exact W.alen g.1.1 g.1.2 h1 h2 h5 rfl rfl hdg (kk H locs u1 u2)
theorem ww_svb (g : Gd X y cc nL ret fr lo own) (hn : n < nSt) {k : Int32} (hk : (0 : Int32) ≤ k ∧ k < stLI n) (hdg : decode cc pc = .ok (.baload, 1)) (kk : WW X q s (pc + 1) ls (.int ((stB n).getD k.toNatClampNeg 0) :: rest)) : WW X q s pc ls (.int k :: .ref (aV (xP X) n) :: rest) := fun H locs u1 u2 =>
  va_tb g.1.1 g.1.2 (g.2.2.2.2.1.2.2.2.1.2.2 n hn).2.2.2.2 u2 (j_in hk (nI_clamp (by have := st_len n hn; omega))) rfl hdg (kk H locs u1 u2)
/-- a call on an object of the old heap -/
theorem ww_callO {q1 : PL} {s1 : S1} {y0 : MethodName} {bytes : ByteArray} {maxL : Nat} {ret0 : Option FieldType} {fr0 lo0 k : Nat} {rv : Option Value} {As st0 : List Value} {a : Nat} (g : Gd X y0 cc nL ret0 fr0 lo0 own) (hv : CV y bytes maxL ret k) (hm : Cond.methodLink own index y ∈ wA) (hO : va_O y.cls a (fun b => (xP X).1 ≤ b) (xs X) (xs X).heap) (hM : Ct (xl X) y bytes maxL ret fr lo (xP X) q s (.ref a :: As) rv q1 s1)
    (hR : fr + 1 ≤ fr0 ∧ 8 + (maxL + 11) + lo ≤ lo0) (hn : As.length = k) (hsz : ls.size = nL) (hrest : (rest.map fun v => v.category).sum ≤ 8) (hdg : decode cc pc = .ok (.invokevirtual index, 3)) (hst : st0 = As.reverse ++ .ref a :: rest)
    (kk : WW X q1 s1 (pc + 3) ls (rv.toList ++ rest)) : WW X q s pc ls st0 := by
  subst hst
  obtain ⟨v1, v2, v3, v4, v5⟩ := hv
  have g' := g
  obtain ⟨⟨hx, hb⟩, hml, hown, hts, hK, ⟨hR1, hR2, -, -⟩, -⟩ := g'
  refine ww_after g (a := (Value.ref a :: As).toArray) (fun H locs cells slots hW hS hf => ?_) kk
  obtain ⟨cell, c1, c2, c3, -⟩ := hO.kept hS.2.1
  have hpre : PreV (xs X) H y.cls a (va_Pc (.ref a :: As) (Pe (xP X) q s)) As := ⟨pe_blind _ _ _ _, ⟨cell, c1, c2, c3⟩, fun U hU hWm => ⟨rfl, by rw [hU]; exact hW, Kk.at hWm (by rw [hU]; exact hS.2.1) hK⟩⟩
  exact va_runV (Ts := Cond.code y0 cc nL ret0 :: wA) ⟨hx, hb, hml, hown, hts⟩ hM (cwV k hts (gV hm v1 v2 v3 v4) rfl rfl rfl ⟨rfl, v5⟩ (by rw [hR1, hR2]; exact hR)) hpre rfl hn hsz rfl (lv_room hrest) hdg hf
theorem ww_bret (g : Gd X y cc nL ret fr lo own) {ty : FieldType} (hret : ret = some ty) {v : Int32} (hR : Rt X q s (some (.int v))) (hn : narrow ty (.int v) = .int v) (hdg : decode cc pc = .ok (.ireturn, 1)) : WW X q s pc ls [.int v] := by
  intro H locs hW hS
  obtain ⟨⟨hx, hb⟩, -, hown, hts, hK, -, hr, hlk⟩ := g
  rw [hR]
  exact W.zret hx hb (hr.trans hret) hn (fun t ht _ => ⟨rfl, by rw [ht]; exact hW, hS.F ht⟩) hS.2.2 hdg hlk
end ST
theorem ct_Str_coder {l : Launch} {P : PP} {q : PL} {s : S1} {n : Nat} (hn : n < nSt) : Ct l y_Str_coder b_Str_coder 1 (some .byte) 0 0 P q s [.ref (aK P n)] (some (.int 0)) q s := by
  refine ct_ofF (by decide +kernel) (Nat.le_of_ble_eq_true rfl) fun X ls eP el g hR hl => ?_
  subst eP
  refine ww_scmp (pc := 0) g d_Str_coder_0 ?_
  intro H locs hW hS
  refine lv_if_eq (pc := 3) (tgt := 13) g.1.1 g.1.2 d_Str_coder_3 (by decide) (fun c => absurd c (by decide)) (fun c => ?_)
  refine (?_ : WW X q s 6 ls []) H locs hW hS
  refine ww_aload_n (pc := 6) g.1 d_Str_coder_6 rfl (lv_at hl 0 rfl) ?_
  refine ww_scod (pc := 7) g hn d_Str_coder_7 ?_
  refine ww_goto (pc := 10) (tgt := 14) g.1 d_Str_coder_10 (by decide) ?_
  exact ww_bret (pc := 14) g rfl hR rfl d_Str_coder_14
theorem ct_Str_isLatin1 {l : Launch} {P : PP} {q : PL} {s : S1} {n : Nat} (hn : n < nSt) : Ct l y_Str_isLatin1 b_Str_isLatin1 1 (some .boolean) 0 0 P q s [.ref (aK P n)] (some (.int 1)) q s := by
  refine ct_ofF (by decide +kernel) (Nat.le_of_ble_eq_true rfl) fun X ls eP el g hR hl => ?_
  subst eP
  refine ww_scmp (pc := 0) g d_Str_isLatin1_0 ?_
  intro H locs hW hS
  refine lv_if_eq (pc := 3) (tgt := 17) g.1.1 g.1.2 d_Str_isLatin1_3 (by decide) (fun c => absurd c (by decide)) (fun c => ?_)
  refine (?_ : WW X q s 6 ls []) H locs hW hS
  refine ww_aload_n (pc := 6) g.1 d_Str_isLatin1_6 rfl (lv_at hl 0 rfl) ?_
  refine ww_scod (pc := 7) g hn d_Str_isLatin1_7 ?_
  intro H locs hW hS
  refine lv_if_ne (pc := 10) (tgt := 17) g.1.1 g.1.2 d_Str_isLatin1_10 (by decide) (fun c => absurd rfl c) (fun c => ?_)
  refine (?_ : WW X q s 13 ls []) H locs hW hS
  refine ww_iconst (pc := 13) g.1 (v := 1) d_Str_isLatin1_13 (by decide) ?_
  refine ww_goto (pc := 14) (tgt := 18) g.1 d_Str_isLatin1_14 (by decide) ?_
  exact ww_bret (pc := 18) g rfl hR rfl d_Str_isLatin1_18
theorem ct_Pre_checkIndex {l : Launch} {P : PP} {q : PL} {s : S1} {i n : Int32} {v : Value} (hv : v = .null ∨ ∃ a, v = .ref a) (h : 0 ≤ i ∧ i < n) : Ct l y_Pre_checkIndex b_Pre_checkIndex 3 (some .int) 0 0 P q s [.int i, .int n, v] (some (.int i)) q s := by
  have hl8 : (lg_sl [Value.int i, Value.int n, v]).length ≤ 3 := by rcases hv with rfl | ⟨a, rfl⟩ <;> exact Nat.le_of_ble_eq_true rfl
  refine ct_ofF (by decide +kernel) hl8 fun X ls eP el g hR hl => ?_
  subst eP
  have hl0 : ls[0]? = some (.val (.int i)) := by rcases hv with rfl | ⟨a, rfl⟩ <;> exact lv_at hl 0 rfl
  have hl1 : ls[1]? = some (.val (.int n)) := by rcases hv with rfl | ⟨a, rfl⟩ <;> exact lv_at hl 1 rfl
  refine ww_iload_n (pc := 0) g.1 d_Pre_checkIndex_0 rfl hl0 ?_
  intro H locs hW hS
  refine lv_if_lt (pc := 1) (tgt := 9) g.1.1 g.1.2 d_Pre_checkIndex_1 (by decide) (fun c => absurd h.1 (Int32.not_le.mpr c)) (fun c => ?_)
  refine (?_ : WW X q s 4 ls []) H locs hW hS
  refine ww_iload_n (pc := 4) g.1 d_Pre_checkIndex_4 rfl hl0 ?_
  refine ww_iload_n (pc := 5) g.1 d_Pre_checkIndex_5 rfl hl1 ?_
  intro H locs hW hS
  refine lv_icmp_lt (pc := 6) (tgt := 16) g.1.1 g.1.2 d_Pre_checkIndex_6 (by decide) (fun c => ?_) (fun c => absurd h.2 c)
  refine (?_ : WW X q s 16 ls []) H locs hW hS
  refine ww_iload_n (pc := 16) g.1 d_Pre_checkIndex_16 rfl hl0 ?_
  exact ww_iret (pc := 17) g hR d_Pre_checkIndex_17
theorem ct_Str_checkIndex {l : Launch} {P : PP} {q : PL} {s : S1} {i n : Int32} (h : 0 ≤ i ∧ i < n) : Ct l y_Str_checkIndex b_Str_checkIndex 2 none 1 22 P q s [.int i, .int n] none q s := by
  refine ct_ofF (by decide +kernel) (Nat.le_of_ble_eq_true rfl) fun X ls eP el g hR hl => ?_
  subst eP
  refine ww_iload_n (pc := 0) g.1 d_Str_checkIndex_0 rfl (lv_at hl 0 rfl) ?_
  refine ww_iload_n (pc := 1) g.1 d_Str_checkIndex_1 rfl (lv_at hl 1 rfl) ?_
  refine ww_sfmt (pc := 2) g d_Str_checkIndex_2 fun v hv => ?_
  refine ww_callS (pc := 5) (rest := []) g cs_Pre_checkIndex (Or.inl kws_20) (ct_Pre_checkIndex hv h) ⟨by decide, by decide⟩ rfl hl.1 (Nat.le_of_ble_eq_true rfl) d_Str_checkIndex_5 rfl ?_
  refine ww_st (st' := [.int i]) rfl ?_
  refine ww_pop (pc := 8) g.1 d_Str_checkIndex_8 rfl ?_
  exact ww_vret (pc := 9) g hR d_Str_checkIndex_9
theorem ct_SL1_charAt {l : Launch} {P : PP} {q : PL} {s : S1} {n : Nat} (hn : n < nSt) {k : Int32} (hk : (0 : Int32) ≤ k ∧ k < stLI n) : Ct l y_SL1_charAt b_SL1_charAt 2 (some .char) 2 43 P q s [.ref (aV P n), .int k] (some (.int (stC n k))) q s := by
  refine ct_ofF (by decide +kernel) (Nat.le_of_ble_eq_true rfl) fun X ls eP el g hR hl => ?_
  subst eP
  refine ww_iload_n (pc := 0) g.1 d_SL1_charAt_0 rfl (lv_at hl 1 rfl) ?_
  refine ww_aload_n (pc := 1) g.1 d_SL1_charAt_1 rfl (lv_at hl 0 rfl) ?_
  refine ww_svl (pc := 2) g hn d_SL1_charAt_2 ?_
  refine ww_callS (pc := 3) (rest := []) g cs_Str_checkIndex (Or.inl kws_21) (ct_Str_checkIndex hk) ⟨by decide, by decide⟩ rfl hl.1 (Nat.le_of_ble_eq_true rfl) d_SL1_charAt_3 rfl ?_
  refine ww_st (st' := []) rfl ?_
  refine ww_aload_n (pc := 6) g.1 d_SL1_charAt_6 rfl (lv_at hl 0 rfl) ?_
  refine ww_iload_n (pc := 7) g.1 d_SL1_charAt_7 rfl (lv_at hl 1 rfl) ?_
  refine ww_svb (pc := 8) g hn hk d_SL1_charAt_8 ?_
  refine ww_sipush (pc := 9) g.1 (v := 255) d_SL1_charAt_9 (by decide) ?_
  refine ww_iand (pc := 12) g.1 d_SL1_charAt_12 ?_
  refine ww_i2c (pc := 13) g.1 (v := stC n k) d_SL1_charAt_13 (st_c hn hk).1 ?_
  exact ww_bret (pc := 14) g rfl hR (st_c hn hk).2 d_SL1_charAt_14
theorem ct_Str_length {l : Launch} {P : PP} {q : PL} {s : S1} {n : Nat} (hn : n < nSt) : Ct l y_Str_length b_Str_length 1 (some .int) 1 20 P q s [.ref (aK P n)] (some (.int (stLI n))) q s := by
  refine ct_ofF (by decide +kernel) (Nat.le_of_ble_eq_true rfl) fun X ls eP el g hR hl => ?_
  subst eP
  refine ww_aload_n (pc := 0) g.1 d_Str_length_0 rfl (lv_at hl 0 rfl) ?_
  refine ww_sval (pc := 1) g hn d_Str_length_1 ?_
  refine ww_svl (pc := 4) g hn d_Str_length_4 ?_
  refine ww_aload_n (pc := 5) g.1 d_Str_length_5 rfl (lv_at hl 0 rfl) ?_
  refine ww_callO (pc := 6) (rest := [.int (stLI n)]) (As := []) g cv_Str_coder kws_18 (g.2.2.2.2.1.2.2.2.1.2.2 n hn).2.1 (ct_Str_coder hn) ⟨by decide, by decide⟩ rfl hl.1 (Nat.le_of_ble_eq_true rfl) d_Str_length_6 rfl ?_
  refine ww_st (st' := [.int 0, .int (stLI n)]) rfl ?_
  refine ww_ishr (pc := 9) g.1 d_Str_length_9 ?_
  refine ww_xi (v := stLI n) (by
    have : (0 : Int32) &&& 31 = 0 := by decide
    rw [this]
    exact Int32.shiftRight_zero) ?_
  exact ww_iret (pc := 10) g hR d_Str_length_10
theorem ct_Str_charAt {l : Launch} {P : PP} {q : PL} {s : S1} {n : Nat} (hn : n < nSt) {k : Int32} (hk : (0 : Int32) ≤ k ∧ k < stLI n) : Ct l y_Str_charAt b_Str_charAt 2 (some .char) 3 64 P q s [.ref (aK P n), .int k] (some (.int (stC n k))) q s := by
  refine ct_ofF (by decide +kernel) (Nat.le_of_ble_eq_true rfl) fun X ls eP el g hR hl => ?_
  subst eP
  refine ww_aload_n (pc := 0) g.1 d_Str_charAt_0 rfl (lv_at hl 0 rfl) ?_
  refine ww_callO (pc := 1) (rest := []) (As := []) g cv_Str_isLatin1 kws_19 (g.2.2.2.2.1.2.2.2.1.2.2 n hn).2.1 (ct_Str_isLatin1 hn) ⟨by decide, by decide⟩ rfl hl.1 (Nat.le_of_ble_eq_true rfl) d_Str_charAt_1 rfl ?_
  refine ww_st (st' := [.int 1]) rfl ?_
  intro H locs hW hS
  refine lv_if_eq (pc := 4) (tgt := 16) g.1.1 g.1.2 d_Str_charAt_4 (by decide) (fun c => absurd c (by decide)) (fun c => ?_)
  refine (?_ : WW X q s 7 ls []) H locs hW hS
  refine ww_aload_n (pc := 7) g.1 d_Str_charAt_7 rfl (lv_at hl 0 rfl) ?_
  refine ww_sval (pc := 8) g hn d_Str_charAt_8 ?_
  refine ww_iload_n (pc := 11) g.1 d_Str_charAt_11 rfl (lv_at hl 1 rfl) ?_
  refine ww_callS (pc := 12) (rest := []) g cs_SL1_charAt (Or.inl kws_22) (ct_SL1_charAt hn hk) ⟨by decide, by decide⟩ rfl hl.1 (Nat.le_of_ble_eq_true rfl) d_Str_charAt_12 rfl ?_
  refine ww_st (st' := [.int (stC n k)]) rfl ?_
  exact ww_bret (pc := 15) g rfl hR (st_c hn hk).2 d_Str_charAt_15
section ST2
variable {X : Cx} {q : PL} {s : S1} {y : MethodName} {cc : ByteArray} {nL : Nat} {ret : Option FieldType} {fr lo : Nat} {own : String} {pc : Nat} {ls : Array Slot} {rest : List Value} {index n : Nat} {α : Type} {o : α × S1}
theorem ww_slen (g : Gd X y cc nL ret fr lo own) (hn : n < nSt) (hm : Cond.methodLink own index y_Str_length ∈ wA) (hR : 2 ≤ fr ∧ 40 ≤ lo) (hsz : ls.size = nL) (hrest : (rest.map fun v => v.category).sum ≤ 8) (hdg : decode cc pc = .ok (.invokevirtual index, 3)) (kk : WW X q s (pc + 3) ls (.int (stLI n) :: rest)) : WW X q s pc ls (.ref (aK (xP X) n) :: rest) :=
  ww_callO (As := []) g cv_Str_length hm (g.2.2.2.2.1.2.2.2.1.2.2 n hn).2.1 (ct_Str_length hn) ⟨by omega, by omega⟩ rfl hsz hrest hdg rfl kk
theorem ww_schar (g : Gd X y cc nL ret fr lo own) (hn : n < nSt) {k : Int32} (hk : (0 : Int32) ≤ k ∧ k < stLI n) (hm : Cond.methodLink own index y_Str_charAt ∈ wA) (hR : 4 ≤ fr ∧ 85 ≤ lo) (hsz : ls.size = nL) (hrest : (rest.map fun v => v.category).sum ≤ 8) (hdg : decode cc pc = .ok (.invokevirtual index, 3)) (kk : WW X q s (pc + 3) ls (.int (stC n k) :: rest)) : WW X q s pc ls (.int k :: .ref (aK (xP X) n) :: rest) :=
  ww_callO (As := [.int k]) g cv_Str_charAt hm (g.2.2.2.2.1.2.2.2.1.2.2 n hn).2.1 (ct_Str_charAt hn hk) ⟨by omega, by omega⟩ rfl hsz hrest hdg rfl kk
end ST2
