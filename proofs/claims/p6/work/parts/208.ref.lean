abbrev b_Mo_sayValue : ByteArray := prog_14_method_106_code
def y_Mo_sayValue : MethodName := ⟨R_Mo, "sayValue", "(IJ)V"⟩
abbrev w_Mo_sayValue : List Cond := .code y_Mo_sayValue b_Mo_sayValue 4 none :: wA
set_option maxRecDepth 20000 in
theorem k_Mo_sayValue : Cond.code y_Mo_sayValue b_Mo_sayValue 4 none ∈ wA := kinm (show _ ∈ tables_1 from (List.mem_append_right _ (List.mem_append_right _ (List.mem_append_right _ (List.mem_append_right _ (List.mem_append_right _ (List.mem_append_right _ (List.mem_append_right _ (List.mem_append_right _ (List.mem_append_right _ (List.mem_append_right _ (List.mem_append_right _ (List.mem_append_left _ (List.mem_of_getElem? (l := tables_1_12) (i := 187) rfl)))))))))))))) rfl
theorem d_Mo_sayValue_0 : decode b_Mo_sayValue 0 = .ok (.iload_n 1, 1) := by decide +kernel
theorem d_Mo_sayValue_1 : decode b_Mo_sayValue 1 = .ok (.tableswitch 150 0 6 #[43, 53, 63, 73, 81, 150, 102], 43) := by decide +kernel
theorem d_Mo_sayValue_44 : decode b_Mo_sayValue 44 = .ok (.aload_n 0, 1) := by decide +kernel
theorem d_Mo_sayValue_45 : decode b_Mo_sayValue 45 = .ok (.ldc_w 377, 3) := by decide +kernel
theorem d_Mo_sayValue_48 : decode b_Mo_sayValue 48 = .ok (.invokevirtual 881, 3) := by decide +kernel
theorem d_Mo_sayValue_51 : decode b_Mo_sayValue 51 = .ok (.goto 130, 3) := by decide +kernel
theorem d_Mo_sayValue_54 : decode b_Mo_sayValue 54 = .ok (.aload_n 0, 1) := by decide +kernel
theorem d_Mo_sayValue_55 : decode b_Mo_sayValue 55 = .ok (.ldc_w 884, 3) := by decide +kernel
theorem d_Mo_sayValue_58 : decode b_Mo_sayValue 58 = .ok (.invokevirtual 881, 3) := by decide +kernel
theorem d_Mo_sayValue_61 : decode b_Mo_sayValue 61 = .ok (.goto 120, 3) := by decide +kernel
theorem d_Mo_sayValue_64 : decode b_Mo_sayValue 64 = .ok (.aload_n 0, 1) := by decide +kernel
theorem d_Mo_sayValue_65 : decode b_Mo_sayValue 65 = .ok (.ldc_w 886, 3) := by decide +kernel
theorem d_Mo_sayValue_68 : decode b_Mo_sayValue 68 = .ok (.invokevirtual 881, 3) := by decide +kernel
theorem d_Mo_sayValue_71 : decode b_Mo_sayValue 71 = .ok (.goto 110, 3) := by decide +kernel
theorem d_Mo_sayValue_74 : decode b_Mo_sayValue 74 = .ok (.aload_n 0, 1) := by decide +kernel
theorem d_Mo_sayValue_75 : decode b_Mo_sayValue 75 = .ok (.lload_n 2, 1) := by decide +kernel
theorem d_Mo_sayValue_76 : decode b_Mo_sayValue 76 = .ok (.invokevirtual 888, 3) := by decide +kernel
theorem d_Mo_sayValue_79 : decode b_Mo_sayValue 79 = .ok (.goto 102, 3) := by decide +kernel
theorem d_Mo_sayValue_82 : decode b_Mo_sayValue 82 = .ok (.aload_n 0, 1) := by decide +kernel
theorem d_Mo_sayValue_83 : decode b_Mo_sayValue 83 = .ok (.aload_n 0, 1) := by decide +kernel
theorem d_Mo_sayValue_84 : decode b_Mo_sayValue 84 = .ok (.getfield 168, 3) := by decide +kernel
theorem d_Mo_sayValue_87 : decode b_Mo_sayValue 87 = .ok (.lload_n 2, 1) := by decide +kernel
theorem d_Mo_sayValue_88 : decode b_Mo_sayValue 88 = .ok (.l2i, 1) := by decide +kernel
theorem d_Mo_sayValue_89 : decode b_Mo_sayValue 89 = .ok (.iaload, 1) := by decide +kernel
theorem d_Mo_sayValue_90 : decode b_Mo_sayValue 90 = .ok (.aload_n 0, 1) := by decide +kernel
theorem d_Mo_sayValue_91 : decode b_Mo_sayValue 91 = .ok (.getfield 171, 3) := by decide +kernel
theorem d_Mo_sayValue_94 : decode b_Mo_sayValue 94 = .ok (.lload_n 2, 1) := by decide +kernel
theorem d_Mo_sayValue_95 : decode b_Mo_sayValue 95 = .ok (.l2i, 1) := by decide +kernel
theorem d_Mo_sayValue_96 : decode b_Mo_sayValue 96 = .ok (.iaload, 1) := by decide +kernel
theorem d_Mo_sayValue_97 : decode b_Mo_sayValue 97 = .ok (.invokevirtual 892, 3) := by decide +kernel
theorem d_Mo_sayValue_100 : decode b_Mo_sayValue 100 = .ok (.goto 81, 3) := by decide +kernel
theorem d_Mo_sayValue_103 : decode b_Mo_sayValue 103 = .ok (.aload_n 0, 1) := by decide +kernel
theorem d_Mo_sayValue_104 : decode b_Mo_sayValue 104 = .ok (.lload_n 2, 1) := by decide +kernel
theorem d_Mo_sayValue_105 : decode b_Mo_sayValue 105 = .ok (.lconst 0, 1) := by decide +kernel
theorem d_Mo_sayValue_106 : decode b_Mo_sayValue 106 = .ok (.lcmp, 1) := by decide +kernel
theorem d_Mo_sayValue_107 : decode b_Mo_sayValue 107 = .ok (.ifCond .ge 9, 3) := by decide +kernel
theorem d_Mo_sayValue_110 : decode b_Mo_sayValue 110 = .ok (.ldc_w 894, 3) := by decide +kernel
theorem d_Mo_sayValue_113 : decode b_Mo_sayValue 113 = .ok (.goto 6, 3) := by decide +kernel
theorem d_Mo_sayValue_116 : decode b_Mo_sayValue 116 = .ok (.ldc_w 896, 3) := by decide +kernel
theorem d_Mo_sayValue_119 : decode b_Mo_sayValue 119 = .ok (.invokevirtual 881, 3) := by decide +kernel
theorem d_Mo_sayValue_122 : decode b_Mo_sayValue 122 = .ok (.aload_n 0, 1) := by decide +kernel
theorem d_Mo_sayValue_123 : decode b_Mo_sayValue 123 = .ok (.lload_n 2, 1) := by decide +kernel
theorem d_Mo_sayValue_124 : decode b_Mo_sayValue 124 = .ok (.lconst 0, 1) := by decide +kernel
theorem d_Mo_sayValue_125 : decode b_Mo_sayValue 125 = .ok (.lcmp, 1) := by decide +kernel
theorem d_Mo_sayValue_126 : decode b_Mo_sayValue 126 = .ok (.ifCond .ge 11, 3) := by decide +kernel
theorem d_Mo_sayValue_129 : decode b_Mo_sayValue 129 = .ok (.ldc2_w 722, 3) := by decide +kernel
theorem d_Mo_sayValue_132 : decode b_Mo_sayValue 132 = .ok (.lload_n 2, 1) := by decide +kernel
theorem d_Mo_sayValue_133 : decode b_Mo_sayValue 133 = .ok (.lsub, 1) := by decide +kernel
theorem d_Mo_sayValue_134 : decode b_Mo_sayValue 134 = .ok (.goto 11, 3) := by decide +kernel
theorem d_Mo_sayValue_137 : decode b_Mo_sayValue 137 = .ok (.aload_n 0, 1) := by decide +kernel
theorem d_Mo_sayValue_138 : decode b_Mo_sayValue 138 = .ok (.getfield 165, 3) := by decide +kernel
theorem d_Mo_sayValue_141 : decode b_Mo_sayValue 141 = .ok (.lload_n 2, 1) := by decide +kernel
theorem d_Mo_sayValue_142 : decode b_Mo_sayValue 142 = .ok (.l2i, 1) := by decide +kernel
theorem d_Mo_sayValue_143 : decode b_Mo_sayValue 143 = .ok (.iaload, 1) := by decide +kernel
theorem d_Mo_sayValue_144 : decode b_Mo_sayValue 144 = .ok (.i2l, 1) := by decide +kernel
theorem d_Mo_sayValue_145 : decode b_Mo_sayValue 145 = .ok (.invokevirtual 888, 3) := by decide +kernel
theorem d_Mo_sayValue_148 : decode b_Mo_sayValue 148 = .ok (.goto 33, 3) := by decide +kernel
theorem d_Mo_sayValue_151 : decode b_Mo_sayValue 151 = .ok (.aload_n 0, 1) := by decide +kernel
theorem d_Mo_sayValue_152 : decode b_Mo_sayValue 152 = .ok (.iload_n 1, 1) := by decide +kernel
theorem d_Mo_sayValue_153 : decode b_Mo_sayValue 153 = .ok (.iconst 5, 1) := by decide +kernel
theorem d_Mo_sayValue_154 : decode b_Mo_sayValue 154 = .ok (.if_icmp .ne 9, 3) := by decide +kernel
theorem d_Mo_sayValue_157 : decode b_Mo_sayValue 157 = .ok (.ldc_w 898, 3) := by decide +kernel
theorem d_Mo_sayValue_160 : decode b_Mo_sayValue 160 = .ok (.goto 6, 3) := by decide +kernel
theorem d_Mo_sayValue_163 : decode b_Mo_sayValue 163 = .ok (.ldc_w 900, 3) := by decide +kernel
theorem d_Mo_sayValue_166 : decode b_Mo_sayValue 166 = .ok (.invokevirtual 881, 3) := by decide +kernel
theorem d_Mo_sayValue_169 : decode b_Mo_sayValue 169 = .ok (.aload_n 0, 1) := by decide +kernel
theorem d_Mo_sayValue_170 : decode b_Mo_sayValue 170 = .ok (.aload_n 0, 1) := by decide +kernel
theorem d_Mo_sayValue_171 : decode b_Mo_sayValue 171 = .ok (.getfield 165, 3) := by decide +kernel
theorem d_Mo_sayValue_174 : decode b_Mo_sayValue 174 = .ok (.lload_n 2, 1) := by decide +kernel
theorem d_Mo_sayValue_175 : decode b_Mo_sayValue 175 = .ok (.l2i, 1) := by decide +kernel
theorem d_Mo_sayValue_176 : decode b_Mo_sayValue 176 = .ok (.iaload, 1) := by decide +kernel
theorem d_Mo_sayValue_177 : decode b_Mo_sayValue 177 = .ok (.i2l, 1) := by decide +kernel
theorem d_Mo_sayValue_178 : decode b_Mo_sayValue 178 = .ok (.invokevirtual 888, 3) := by decide +kernel
theorem d_Mo_sayValue_181 : decode b_Mo_sayValue 181 = .ok (.return_, 1) := by decide +kernel
abbrev b_Mo_say_ : ByteArray := prog_14_method_103_code
def y_Mo_say_ : MethodName := ⟨R_Mo, "say", "(Ljava/lang/String;)V"⟩
abbrev w_Mo_say_ : List Cond := .code y_Mo_say_ b_Mo_say_ 3 none :: wA
theorem k_Mo_say_ : Cond.code y_Mo_say_ b_Mo_say_ 3 none ∈ wA := kinm (show _ ∈ tables_1 from (List.mem_append_right _ (List.mem_append_right _ (List.mem_append_right _ (List.mem_append_right _ (List.mem_append_right _ (List.mem_append_right _ (List.mem_append_right _ (List.mem_append_right _ (List.mem_append_right _ (List.mem_append_right _ (List.mem_append_right _ (List.mem_append_left _ (List.mem_of_getElem? (l := tables_1_12) (i := 191) (by decide +kernel))))))))))))))) (by decide +kernel)
theorem d_Mo_say__0 : decode b_Mo_say_ 0 = .ok (.iconst 0, 1) := by decide +kernel
theorem d_Mo_say__1 : decode b_Mo_say_ 1 = .ok (.istore_n 2, 1) := by decide +kernel
theorem d_Mo_say__2 : decode b_Mo_say_ 2 = .ok (.iload_n 2, 1) := by decide +kernel
theorem d_Mo_say__3 : decode b_Mo_say_ 3 = .ok (.aload_n 1, 1) := by decide +kernel
theorem d_Mo_say__4 : decode b_Mo_say_ 4 = .ok (.invokevirtual 647, 3) := by decide +kernel
theorem d_Mo_say__7 : decode b_Mo_say_ 7 = .ok (.if_icmp .ge 18, 3) := by decide +kernel
theorem d_Mo_say__10 : decode b_Mo_say_ 10 = .ok (.aload_n 0, 1) := by decide +kernel
theorem d_Mo_say__11 : decode b_Mo_say_ 11 = .ok (.aload_n 1, 1) := by decide +kernel
theorem d_Mo_say__12 : decode b_Mo_say_ 12 = .ok (.iload_n 2, 1) := by decide +kernel
theorem d_Mo_say__13 : decode b_Mo_say_ 13 = .ok (.invokevirtual 651, 3) := by decide +kernel
theorem d_Mo_say__16 : decode b_Mo_say_ 16 = .ok (.invokevirtual 870, 3) := by decide +kernel
theorem d_Mo_say__19 : decode b_Mo_say_ 19 = .ok (.iinc 2 1, 3) := by decide +kernel
theorem d_Mo_say__22 : decode b_Mo_say_ 22 = .ok (.goto (-20), 3) := by decide +kernel
theorem d_Mo_say__25 : decode b_Mo_say_ 25 = .ok (.return_, 1) := by decide +kernel
abbrev b_Mo_sayNumber : ByteArray := prog_14_method_105_code
def y_Mo_sayNumber : MethodName := ⟨R_Mo, "sayNumber", "(J)V"⟩
abbrev w_Mo_sayNumber : List Cond := .code y_Mo_sayNumber b_Mo_sayNumber 6 none :: wA
theorem k_Mo_sayNumber : Cond.code y_Mo_sayNumber b_Mo_sayNumber 6 none ∈ wA := kinm (show _ ∈ tables_1 from (List.mem_append_right _ (List.mem_append_right _ (List.mem_append_right _ (List.mem_append_right _ (List.mem_append_right _ (List.mem_append_right _ (List.mem_append_right _ (List.mem_append_right _ (List.mem_append_right _ (List.mem_append_right _ (List.mem_append_right _ (List.mem_append_left _ (List.mem_of_getElem? (l := tables_1_12) (i := 197) (by decide +kernel))))))))))))))) (by decide +kernel)
theorem d_Mo_sayNumber_0 : decode b_Mo_sayNumber 0 = .ok (.iconst 0, 1) := by decide +kernel
theorem d_Mo_sayNumber_1 : decode b_Mo_sayNumber 1 = .ok (.istore_n 3, 1) := by decide +kernel
theorem d_Mo_sayNumber_2 : decode b_Mo_sayNumber 2 = .ok (.lload_n 1, 1) := by decide +kernel
theorem d_Mo_sayNumber_3 : decode b_Mo_sayNumber 3 = .ok (.lstore 4, 2) := by decide +kernel
theorem d_Mo_sayNumber_5 : decode b_Mo_sayNumber 5 = .ok (.aload_n 0, 1) := by decide +kernel
theorem d_Mo_sayNumber_6 : decode b_Mo_sayNumber 6 = .ok (.getfield 434, 3) := by decide +kernel
theorem d_Mo_sayNumber_9 : decode b_Mo_sayNumber 9 = .ok (.iload_n 3, 1) := by decide +kernel
theorem d_Mo_sayNumber_10 : decode b_Mo_sayNumber 10 = .ok (.iinc 3 1, 3) := by decide +kernel
theorem d_Mo_sayNumber_13 : decode b_Mo_sayNumber 13 = .ok (.ldc2_w 873, 3) := by decide +kernel
theorem d_Mo_sayNumber_16 : decode b_Mo_sayNumber 16 = .ok (.lload 4, 2) := by decide +kernel
theorem d_Mo_sayNumber_18 : decode b_Mo_sayNumber 18 = .ok (.ldc2_w 875, 3) := by decide +kernel
theorem d_Mo_sayNumber_21 : decode b_Mo_sayNumber 21 = .ok (.lrem, 1) := by decide +kernel
theorem d_Mo_sayNumber_22 : decode b_Mo_sayNumber 22 = .ok (.invokestatic 877, 3) := by decide +kernel
theorem d_Mo_sayNumber_25 : decode b_Mo_sayNumber 25 = .ok (.ladd, 1) := by decide +kernel
theorem d_Mo_sayNumber_26 : decode b_Mo_sayNumber 26 = .ok (.l2i, 1) := by decide +kernel
theorem d_Mo_sayNumber_27 : decode b_Mo_sayNumber 27 = .ok (.i2b, 1) := by decide +kernel
theorem d_Mo_sayNumber_28 : decode b_Mo_sayNumber 28 = .ok (.bastore, 1) := by decide +kernel
theorem d_Mo_sayNumber_29 : decode b_Mo_sayNumber 29 = .ok (.lload 4, 2) := by decide +kernel
theorem d_Mo_sayNumber_31 : decode b_Mo_sayNumber 31 = .ok (.ldc2_w 875, 3) := by decide +kernel
theorem d_Mo_sayNumber_34 : decode b_Mo_sayNumber 34 = .ok (.ldiv, 1) := by decide +kernel
theorem d_Mo_sayNumber_35 : decode b_Mo_sayNumber 35 = .ok (.lstore 4, 2) := by decide +kernel
theorem d_Mo_sayNumber_37 : decode b_Mo_sayNumber 37 = .ok (.lload 4, 2) := by decide +kernel
theorem d_Mo_sayNumber_39 : decode b_Mo_sayNumber 39 = .ok (.lconst 0, 1) := by decide +kernel
theorem d_Mo_sayNumber_40 : decode b_Mo_sayNumber 40 = .ok (.lcmp, 1) := by decide +kernel
theorem d_Mo_sayNumber_41 : decode b_Mo_sayNumber 41 = .ok (.ifCond .ne (-36), 3) := by decide +kernel
theorem d_Mo_sayNumber_44 : decode b_Mo_sayNumber 44 = .ok (.lload_n 1, 1) := by decide +kernel
theorem d_Mo_sayNumber_45 : decode b_Mo_sayNumber 45 = .ok (.lconst 0, 1) := by decide +kernel
theorem d_Mo_sayNumber_46 : decode b_Mo_sayNumber 46 = .ok (.lcmp, 1) := by decide +kernel
theorem d_Mo_sayNumber_47 : decode b_Mo_sayNumber 47 = .ok (.ifCond .ge 9, 3) := by decide +kernel
theorem d_Mo_sayNumber_50 : decode b_Mo_sayNumber 50 = .ok (.aload_n 0, 1) := by decide +kernel
theorem d_Mo_sayNumber_51 : decode b_Mo_sayNumber 51 = .ok (.bipush 45, 2) := by decide +kernel
theorem d_Mo_sayNumber_53 : decode b_Mo_sayNumber 53 = .ok (.invokevirtual 870, 3) := by decide +kernel
theorem d_Mo_sayNumber_56 : decode b_Mo_sayNumber 56 = .ok (.iload_n 3, 1) := by decide +kernel
theorem d_Mo_sayNumber_57 : decode b_Mo_sayNumber 57 = .ok (.ifCond .le 19, 3) := by decide +kernel
theorem d_Mo_sayNumber_60 : decode b_Mo_sayNumber 60 = .ok (.aload_n 0, 1) := by decide +kernel
theorem d_Mo_sayNumber_61 : decode b_Mo_sayNumber 61 = .ok (.aload_n 0, 1) := by decide +kernel
theorem d_Mo_sayNumber_62 : decode b_Mo_sayNumber 62 = .ok (.getfield 434, 3) := by decide +kernel
theorem d_Mo_sayNumber_65 : decode b_Mo_sayNumber 65 = .ok (.iinc 3 (-1), 3) := by decide +kernel
theorem d_Mo_sayNumber_68 : decode b_Mo_sayNumber 68 = .ok (.iload_n 3, 1) := by decide +kernel
theorem d_Mo_sayNumber_69 : decode b_Mo_sayNumber 69 = .ok (.baload, 1) := by decide +kernel
theorem d_Mo_sayNumber_70 : decode b_Mo_sayNumber 70 = .ok (.invokevirtual 870, 3) := by decide +kernel
theorem d_Mo_sayNumber_73 : decode b_Mo_sayNumber 73 = .ok (.goto (-17), 3) := by decide +kernel
theorem d_Mo_sayNumber_76 : decode b_Mo_sayNumber 76 = .ok (.return_, 1) := by decide +kernel
theorem kw_177 : Cond.constantLong R_Mo 873 48 ∈ wA := kinm (show _ ∈ tables_1 from (List.mem_append_right _ (List.mem_append_right _ (List.mem_append_right _ (List.mem_append_right _ (List.mem_append_right _ (List.mem_append_right _ (List.mem_append_right _ (List.mem_append_right _ (List.mem_append_right _ (List.mem_append_right _ (List.mem_append_right _ (List.mem_append_left _ (List.mem_of_getElem? (l := tables_1_12) (i := 198) (by decide +kernel))))))))))))))) (by decide +kernel)
theorem kw_178 : Cond.constantLong R_Mo 875 10 ∈ wA := kinm (show _ ∈ tables_1 from (List.mem_append_right _ (List.mem_append_right _ (List.mem_append_right _ (List.mem_append_right _ (List.mem_append_right _ (List.mem_append_right _ (List.mem_append_right _ (List.mem_append_right _ (List.mem_append_right _ (List.mem_append_right _ (List.mem_append_right _ (List.mem_append_left _ (List.mem_of_getElem? (l := tables_1_12) (i := 199) (by decide +kernel))))))))))))))) (by decide +kernel)
theorem kw_179 : Cond.fieldLink R_Mo 434 "LuaMachineModel" "digits" "[B" ∈ wA := kinm (show _ ∈ tables_1 from (List.mem_append_right _ (List.mem_append_right _ (List.mem_append_right _ (List.mem_append_right _ (List.mem_append_right _ (List.mem_append_right _ (List.mem_append_right _ (List.mem_append_right _ (List.mem_append_right _ (List.mem_append_left _ (List.mem_of_getElem? (l := tables_1_10) (i := 153) (by decide +kernel))))))))))))) (by decide +kernel)
theorem kw_180 : Cond.methodLink R_Mo 877 y_Mth_abs ∈ wA := kinm (show _ ∈ tables_1 from (List.mem_append_right _ (List.mem_append_right _ (List.mem_append_right _ (List.mem_append_right _ (List.mem_append_right _ (List.mem_append_right _ (List.mem_append_right _ (List.mem_append_right _ (List.mem_append_right _ (List.mem_append_right _ (List.mem_append_right _ (List.mem_append_left _ (List.mem_of_getElem? (l := tables_1_12) (i := 200) (by decide +kernel))))))))))))))) (by decide +kernel)
theorem kw_181 : Cond.methodLink R_Mo 870 y_Mo_say ∈ wA := kinm (show _ ∈ tables_1 from (List.mem_append_right _ (List.mem_append_right _ (List.mem_append_right _ (List.mem_append_right _ (List.mem_append_right _ (List.mem_append_right _ (List.mem_append_right _ (List.mem_append_right _ (List.mem_append_right _ (List.mem_append_right _ (List.mem_append_right _ (List.mem_append_left _ (List.mem_of_getElem? (l := tables_1_12) (i := 180) (by decide +kernel))))))))))))))) (by decide +kernel)
theorem kw_182 : Cond.instanceMethod y_Mo_sayNumber ∈ wA := kinm (show _ ∈ tables_1 from (List.mem_append_right _ (List.mem_append_right _ (List.mem_append_right _ (List.mem_append_right _ (List.mem_append_right _ (List.mem_append_right _ (List.mem_append_right _ (List.mem_append_right _ (List.mem_append_right _ (List.mem_append_right _ (List.mem_append_right _ (List.mem_append_left _ (List.mem_of_getElem? (l := tables_1_12) (i := 196) (by decide +kernel))))))))))))))) (by decide +kernel)
theorem kw_183 : Cond.selects R_Mo y_Mo_sayNumber y_Mo_sayNumber ∈ wA := kinp 165 (by decide +kernel) (by decide +kernel)
def M_Mo_sayNumber_L5 : (Int64 × Int32 × Int64) → M ((Int64 × Int32 × Int64) ⊕ ((Int64 × Int32))) := fun x =>
  oB (M_Mth_abs (x.2.2 - x.2.2 / 10 * 10)) fun v22 =>
  oB (oSI 89 24 0 x.2.1 ((((48 + v22).toInt32).toInt8.toInt32).toInt8.toInt32)) fun _ =>
  oL (x.2.2 / 10) fun l4_35 =>
  oC ((lg_cmp l4_35 0) = 0)
    (oR (Sum.inr (x.1, x.2.1 + 1)))
    (oR (Sum.inl (x.1, x.2.1 + 1, l4_35)))

def M_Mo_sayNumber_L56 : (Int32) → M ((Int32) ⊕ ((Unit))) := fun x =>
  oC (x ≤ 0)
    (oR (Sum.inr ()))
    (oB (oAI 89 24 0 (x + (-1))) fun v69 =>
    oB (M_Mo_say v69) fun _ =>
    oR (Sum.inl (x + (-1))))

def M_Mo_sayNumber (l1 : Int64) : M (Unit) :=
  oB (oW M_Mo_sayNumber_L5 (l1, 0, l1)) fun e5 =>
  oC (0 ≤ (lg_cmp e5.1 0))
    (oB (oW M_Mo_sayNumber_L56 e5.2) fun e56 =>
    oR ())
    (oB (M_Mo_say 45) fun _ =>
    oB (oW M_Mo_sayNumber_L56 e5.2) fun e56 =>
    oR ())

theorem cv_Mo_sayNumber : CV y_Mo_sayNumber b_Mo_sayNumber 6 none 1 := ⟨kw_182, kw_183, kw_17, k_Mo_sayNumber, by decide +kernel⟩
theorem lp_Mo_sayNumber_L5 {X : Cx} {q : PL} (g : Gd X y_Mo_sayNumber b_Mo_sayNumber 6 none 1 21 R_Mo) (x : Int64 × Int32 × Int64) (s : S1) (o : ((Int64 × Int32 × Int64) ⊕ ((Int64 × Int32))) × S1) (h : M_Mo_sayNumber_L5 x s = some o) (hR : (Sum.elim (fun y : Int64 × Int32 × Int64 => ∀ ls : Array Slot, lv_has ls 6 [(0, .ref (q.1 0 0)), (1, .long y.1), (3, .int y.2.1), (4, .long y.2.2)] → WW X q o.2 5 ls []) (fun y : Int64 × Int32 => ∀ ls : Array Slot, lv_has ls 6 [(0, .ref (q.1 0 0)), (1, .long y.1), (3, .int y.2)] → WW X q o.2 44 ls []) o.1)) : ∀ ls : Array Slot, lv_has ls 6 [(0, .ref (q.1 0 0)), (1, .long x.1), (3, .int x.2.1), (4, .long x.2.2)] → WW X q s 5 ls [] := by
  intro ls hl
  unfold M_Mo_sayNumber_L5 at h
  refine ww_aload_n (pc := 5) g.1 d_Mo_sayNumber_5 rfl (lv_at hl 0 rfl) ?_
  refine ww_gR (pc := 6) g (k := 97) cl_Mo (pz rfl (by decide)) (by decide) (Or.inl kw_179) (f := 97) (t := 89) rfl rfl rfl d_Mo_sayNumber_6 ?_
  refine ww_iload_n (pc := 9) g.1 d_Mo_sayNumber_9 rfl (lv_at hl 2 rfl) ?_
  refine ww_iinc (pc := 10) g.1 (v := x.2.1 + 1) (lv' := [(3, .int (x.2.1 + 1)), (0, .ref (q.1 0 0)), (1, .long x.1), (4, .long x.2.2)]) d_Mo_sayNumber_10 hl (k := 2) rfl (by rfl) (by decide) rfl fun ls hl => ?_
  refine ww_ldc2 (pc := 13) g (v := 48) kw_177 d_Mo_sayNumber_13 ?_
  refine ww_lload (pc := 16) g.1 d_Mo_sayNumber_16 (lv_at hl 3 rfl) ?_
  refine ww_ldc2 (pc := 18) g (v := 10) kw_178 d_Mo_sayNumber_18 ?_
  refine ww_lrem (pc := 21) g.1 d_Mo_sayNumber_21 (by decide) ?_
  obtain ⟨v22, s, hc22, h⟩ := oB_of h
  refine ww_callS (pc := 22) (rest := [.long 48, .int x.2.1, .ref (q.1 89 0)]) g cs_Mth_abs (Or.inl kw_180) (ct_Mth_abs hc22) ⟨by decide, by decide⟩ rfl hl.1 (Nat.le_of_ble_eq_true rfl) d_Mo_sayNumber_22 rfl ?_
  refine ww_st (st' := [.long v22, .long 48, .int x.2.1, .ref (q.1 89 0)]) rfl ?_
  refine ww_ladd (pc := 25) g.1 d_Mo_sayNumber_25 ?_
  refine ww_l2i (pc := 26) g.1 (v := (48 + v22).toInt32) d_Mo_sayNumber_26 rfl ?_
  refine ww_i2b (pc := 27) g.1 (v := ((48 + v22).toInt32).toInt8.toInt32) d_Mo_sayNumber_27 rfl ?_
  refine ww_sb (pc := 28) g (pz rfl (by decide)) rfl rfl d_Mo_sayNumber_28 h fun s hs h => ?_
  refine ww_lload (pc := 29) g.1 d_Mo_sayNumber_29 (lv_at hl 3 rfl) ?_
  refine ww_ldc2 (pc := 31) g (v := 10) kw_178 d_Mo_sayNumber_31 ?_
  refine ww_ldiv (pc := 34) g.1 d_Mo_sayNumber_34 (by decide) ?_
  refine ww_letl h fun l4_35 h => ?_
  refine ww_lstore (pc := 35) g.1 (lv' := [(4, .long l4_35), (3, .int (x.2.1 + 1)), (0, .ref (q.1 0 0)), (1, .long x.1)]) d_Mo_sayNumber_35 hl (by decide) rfl fun ls hl => ?_
  refine ww_lload (pc := 37) g.1 d_Mo_sayNumber_37 (lv_at hl 0 rfl) ?_
  refine ww_lconst (pc := 39) g.1 (v := 0) d_Mo_sayNumber_39 (by decide) ?_
  refine ww_lcmp (pc := 40) g.1 d_Mo_sayNumber_40 ?_
  refine ww_if_ne (pc := 41) (tgt := 5) g.1 d_Mo_sayNumber_41 (by decide) h (fun c h => ?_) (fun c h => ?_)
  · rw [oR_eq h] at hR
    exact hR ls (lv_sub hl [2, 3, 1, 0] rfl)
  · rw [oR_eq h] at hR
    exact hR ls (lv_sub hl [2, 3, 1] rfl)

theorem lp_Mo_sayNumber_L56 {X : Cx} {q : PL} (g : Gd X y_Mo_sayNumber b_Mo_sayNumber 6 none 1 21 R_Mo) (x : Int32) (s : S1) (o : ((Int32) ⊕ ((Unit))) × S1) (h : M_Mo_sayNumber_L56 x s = some o) (hR : (Sum.elim (fun y : Int32 => ∀ ls : Array Slot, lv_has ls 6 [(0, .ref (q.1 0 0)), (3, .int y)] → WW X q o.2 56 ls []) (fun y : Unit => ∀ ls : Array Slot, lv_has ls 6 [] → WW X q o.2 76 ls []) o.1)) : ∀ ls : Array Slot, lv_has ls 6 [(0, .ref (q.1 0 0)), (3, .int x)] → WW X q s 56 ls [] := by
  intro ls hl
  unfold M_Mo_sayNumber_L56 at h
  refine ww_iload_n (pc := 56) g.1 d_Mo_sayNumber_56 rfl (lv_at hl 1 rfl) ?_
  refine ww_if_le (pc := 57) (tgt := 76) g.1 d_Mo_sayNumber_57 (by decide) h (fun c h => ?_) (fun c h => ?_)
  · rw [oR_eq h] at hR
    exact hR ls (lv_sub hl [] rfl)
  · refine ww_aload_n (pc := 60) g.1 d_Mo_sayNumber_60 rfl (lv_at hl 0 rfl) ?_
    refine ww_aload_n (pc := 61) g.1 d_Mo_sayNumber_61 rfl (lv_at hl 0 rfl) ?_
    refine ww_gR (pc := 62) g (k := 97) cl_Mo (pz rfl (by decide)) (by decide) (Or.inl kw_179) (f := 97) (t := 89) rfl rfl rfl d_Mo_sayNumber_62 ?_
    refine ww_iinc (pc := 65) g.1 (v := x + (-1)) (lv' := [(3, .int (x + (-1))), (0, .ref (q.1 0 0))]) d_Mo_sayNumber_65 hl (k := 1) rfl (by rfl) (by decide) rfl fun ls hl => ?_
    refine ww_iload_n (pc := 68) g.1 d_Mo_sayNumber_68 rfl (lv_at hl 0 rfl) ?_
    refine ww_ab (pc := 69) g (pz rfl (by decide)) rfl rfl d_Mo_sayNumber_69 h fun v69 h => ?_
    obtain ⟨v70, s, hc70, h⟩ := oB_of h
    refine ww_callV (pc := 70) (rest := []) g cv_Mo_say (Or.inl kw_181) cl_Mo (pz rfl (by decide)) (ct_Mo_say hc70) ⟨by decide, by decide⟩ rfl hl.1 (Nat.le_of_ble_eq_true rfl) d_Mo_sayNumber_70 rfl ?_
    refine ww_st (st' := []) rfl ?_
    refine ww_goto (pc := 73) (tgt := 56) g.1 d_Mo_sayNumber_73 (by decide) ?_
    rw [oR_eq h] at hR
    exact hR ls (lv_sub hl [1, 0] rfl)

theorem ct_Mo_sayNumber {l : Launch} {P : PP} {q : PL} {s s' : S1} {l1 : Int64} {r : Unit} (h : M_Mo_sayNumber l1 s = some (r, s')) : Ct l y_Mo_sayNumber b_Mo_sayNumber 6 none 1 21 P q s [.ref (q.1 0 0), .long l1] none q s' := by
  refine ct_of (by decide) (Nat.le_of_ble_eq_true rfl) fun X ls eP el g hR hl => ?_
  have hR : Rt X q ((r, s') : Unit × S1).2 none := hR
  have hl : lv_has ls 6 [(0, .ref (q.1 0 0)), (1, .long l1)] := hl
  generalize (r, s') = o at h hR
  unfold M_Mo_sayNumber at h
  refine ww_iconst (pc := 0) g.1 (v := 0) d_Mo_sayNumber_0 (by decide) ?_
  refine ww_istore_n (pc := 1) g.1 (lv' := [(3, .int 0), (0, .ref (q.1 0 0)), (1, .long l1)]) d_Mo_sayNumber_1 rfl hl (by decide) rfl fun ls hl => ?_
  refine ww_lload_n (pc := 2) g.1 d_Mo_sayNumber_2 rfl (lv_at hl 2 rfl) ?_
  refine ww_lstore (pc := 3) g.1 (lv' := [(4, .long l1), (3, .int 0), (0, .ref (q.1 0 0)), (1, .long l1)]) d_Mo_sayNumber_3 hl (by decide) rfl fun ls hl => ?_
  obtain ⟨e5, s1, hw, h⟩ := oB_of h
  refine oW_rule (Wh := fun (x : Int64 × Int32 × Int64) (s : S1) => ∀ ls : Array Slot, lv_has ls 6 [(0, .ref (q.1 0 0)), (1, .long x.1), (3, .int x.2.1), (4, .long x.2.2)] → WW X q s 5 ls []) (We := fun (e : (Int64 × Int32)) (s : S1) => ∀ ls : Array Slot, lv_has ls 6 [(0, .ref (q.1 0 0)), (1, .long e.1), (3, .int e.2)] → WW X q s 44 ls []) (fun x s o hb hc => lp_Mo_sayNumber_L5 (q := q) g x s o hb hc) hw ?_ ls (lv_sub hl [2, 3, 1, 0] rfl)
  clear hw hl
  clear ls
  intro ls hl
  generalize s1 = s at h ⊢
  refine ww_lload_n (pc := 44) g.1 d_Mo_sayNumber_44 rfl (lv_at hl 1 rfl) ?_
  refine ww_lconst (pc := 45) g.1 (v := 0) d_Mo_sayNumber_45 (by decide) ?_
  refine ww_lcmp (pc := 46) g.1 d_Mo_sayNumber_46 ?_
  refine ww_if_ge (pc := 47) (tgt := 56) g.1 d_Mo_sayNumber_47 (by decide) h (fun c h => ?_) (fun c h => ?_)
  · obtain ⟨e56, s1, hw, h⟩ := oB_of h
    refine oW_rule (Wh := fun (x : Int32) (s : S1) => ∀ ls : Array Slot, lv_has ls 6 [(0, .ref (q.1 0 0)), (3, .int x)] → WW X q s 56 ls []) (We := fun (e : (Unit)) (s : S1) => ∀ ls : Array Slot, lv_has ls 6 [] → WW X q s 76 ls []) (fun x s o hb hc => lp_Mo_sayNumber_L56 (q := q) g x s o hb hc) hw ?_ ls (lv_sub hl [0, 2] rfl)
    clear hw hl
    clear ls
    intro ls hl
    generalize s1 = s at h ⊢
    exact ww_vretH (pc := 76) g h hR d_Mo_sayNumber_76
  · refine ww_aload_n (pc := 50) g.1 d_Mo_sayNumber_50 rfl (lv_at hl 0 rfl) ?_
    refine ww_bipush (pc := 51) g.1 (v := 45) d_Mo_sayNumber_51 (by decide) ?_
    obtain ⟨v53, s, hc53, h⟩ := oB_of h
    refine ww_callV (pc := 53) (rest := []) g cv_Mo_say (Or.inl kw_181) cl_Mo (pz rfl (by decide)) (ct_Mo_say hc53) ⟨by decide, by decide⟩ rfl hl.1 (Nat.le_of_ble_eq_true rfl) d_Mo_sayNumber_53 rfl ?_
    refine ww_st (st' := []) rfl ?_
    obtain ⟨e56, s1, hw, h⟩ := oB_of h
    refine oW_rule (Wh := fun (x : Int32) (s : S1) => ∀ ls : Array Slot, lv_has ls 6 [(0, .ref (q.1 0 0)), (3, .int x)] → WW X q s 56 ls []) (We := fun (e : (Unit)) (s : S1) => ∀ ls : Array Slot, lv_has ls 6 [] → WW X q s 76 ls []) (fun x s o hb hc => lp_Mo_sayNumber_L56 (q := q) g x s o hb hc) hw ?_ ls (lv_sub hl [0, 2] rfl)
    clear hw hl
    clear ls
    intro ls hl
    generalize s1 = s at h ⊢
    exact ww_vretH (pc := 76) g h hR d_Mo_sayNumber_76

abbrev b_Mo_say__ : ByteArray := prog_14_method_104_code
def y_Mo_say__ : MethodName := ⟨R_Mo, "say", "(II)V"⟩
abbrev w_Mo_say__ : List Cond := .code y_Mo_say__ b_Mo_say__ 3 none :: wA
theorem k_Mo_say__ : Cond.code y_Mo_say__ b_Mo_say__ 3 none ∈ wA := kinm (show _ ∈ tables_1 from (List.mem_append_right _ (List.mem_append_right _ (List.mem_append_right _ (List.mem_append_right _ (List.mem_append_right _ (List.mem_append_right _ (List.mem_append_right _ (List.mem_append_right _ (List.mem_append_right _ (List.mem_append_right _ (List.mem_append_right _ (List.mem_append_left _ (List.mem_of_getElem? (l := tables_1_12) (i := 204) (by decide +kernel))))))))))))))) (by decide +kernel)
theorem d_Mo_say___0 : decode b_Mo_say__ 0 = .ok (.aload_n 0, 1) := by decide +kernel
theorem d_Mo_say___1 : decode b_Mo_say__ 1 = .ok (.getfield 187, 3) := by decide +kernel
theorem d_Mo_say___4 : decode b_Mo_say__ 4 = .ok (.iload_n 1, 1) := by decide +kernel
theorem d_Mo_say___5 : decode b_Mo_say__ 5 = .ok (.aload_n 0, 1) := by decide +kernel
theorem d_Mo_say___6 : decode b_Mo_say__ 6 = .ok (.getfield 422, 3) := by decide +kernel
theorem d_Mo_say___9 : decode b_Mo_say__ 9 = .ok (.aload_n 0, 1) := by decide +kernel
theorem d_Mo_say___10 : decode b_Mo_say__ 10 = .ok (.getfield 431, 3) := by decide +kernel
theorem d_Mo_say___13 : decode b_Mo_say__ 13 = .ok (.iload_n 2, 1) := by decide +kernel
theorem d_Mo_say___14 : decode b_Mo_say__ 14 = .ok (.invokestatic 534, 3) := by decide +kernel
theorem d_Mo_say___17 : decode b_Mo_say__ 17 = .ok (.aload_n 0, 1) := by decide +kernel
theorem d_Mo_say___18 : decode b_Mo_say__ 18 = .ok (.dup, 1) := by decide +kernel
theorem d_Mo_say___19 : decode b_Mo_say__ 19 = .ok (.getfield 431, 3) := by decide +kernel
theorem d_Mo_say___22 : decode b_Mo_say__ 22 = .ok (.iload_n 2, 1) := by decide +kernel
theorem d_Mo_say___23 : decode b_Mo_say__ 23 = .ok (.iadd, 1) := by decide +kernel
theorem d_Mo_say___24 : decode b_Mo_say__ 24 = .ok (.putfield 431, 3) := by decide +kernel
theorem d_Mo_say___27 : decode b_Mo_say__ 27 = .ok (.return_, 1) := by decide +kernel
abbrev b_Mo_giveNone : ByteArray := prog_14_method_72_code
def y_Mo_giveNone : MethodName := ⟨R_Mo, "giveNone", "()V"⟩
abbrev w_Mo_giveNone : List Cond := .code y_Mo_giveNone b_Mo_giveNone 1 none :: wA
theorem k_Mo_giveNone : Cond.code y_Mo_giveNone b_Mo_giveNone 1 none ∈ wA := kinm (show _ ∈ tables_1 from (List.mem_append_right _ (List.mem_append_right _ (List.mem_append_right _ (List.mem_append_right _ (List.mem_append_right _ (List.mem_append_right _ (List.mem_append_right _ (List.mem_append_right _ (List.mem_append_right _ (List.mem_append_right _ (List.mem_append_right _ (List.mem_append_left _ (List.mem_of_getElem? (l := tables_1_12) (i := 212) (by decide +kernel))))))))))))))) (by decide +kernel)
theorem d_Mo_giveNone_0 : decode b_Mo_giveNone 0 = .ok (.aload_n 0, 1) := by decide +kernel
theorem d_Mo_giveNone_1 : decode b_Mo_giveNone 1 = .ok (.getfield 262, 3) := by decide +kernel
theorem d_Mo_giveNone_4 : decode b_Mo_giveNone 4 = .ok (.iconst 0, 1) := by decide +kernel
theorem d_Mo_giveNone_5 : decode b_Mo_giveNone 5 = .ok (.putfield 569, 3) := by decide +kernel
theorem d_Mo_giveNone_8 : decode b_Mo_giveNone 8 = .ok (.aload_n 0, 1) := by decide +kernel
theorem d_Mo_giveNone_9 : decode b_Mo_giveNone 9 = .ok (.iconst 2, 1) := by decide +kernel
theorem d_Mo_giveNone_10 : decode b_Mo_giveNone 10 = .ok (.putfield 247, 3) := by decide +kernel
theorem d_Mo_giveNone_13 : decode b_Mo_giveNone 13 = .ok (.return_, 1) := by decide +kernel
theorem kw_184 : Cond.fieldLink R_Mo 262 "LuaMachineModel" "results" "LLuaMachineModel$Values;" ∈ wA := kinm (show _ ∈ tables_1 from (List.mem_append_right _ (List.mem_append_right _ (List.mem_append_right _ (List.mem_append_right _ (List.mem_append_right _ (List.mem_append_right _ (List.mem_append_right _ (List.mem_append_right _ (List.mem_append_right _ (List.mem_append_left _ (List.mem_of_getElem? (l := tables_1_10) (i := 134) (by decide +kernel))))))))))))) (by decide +kernel)
theorem kw_185 : Cond.fieldLink R_Mo 569 "LuaMachineModel$Values" "n" "I" ∈ wA := kinm (show _ ∈ tables_1 from (List.mem_append_right _ (List.mem_append_right _ (List.mem_append_right _ (List.mem_append_right _ (List.mem_append_right _ (List.mem_append_right _ (List.mem_append_right _ (List.mem_append_right _ (List.mem_append_left _ (List.mem_of_getElem? (l := tables_1_9) (i := 128) (by decide +kernel)))))))))))) (by decide +kernel)
theorem kw_186 : Cond.instanceMethod y_Mo_giveNone ∈ wA := kinm (show _ ∈ tables_1 from (List.mem_append_right _ (List.mem_append_right _ (List.mem_append_right _ (List.mem_append_right _ (List.mem_append_right _ (List.mem_append_right _ (List.mem_append_right _ (List.mem_append_right _ (List.mem_append_right _ (List.mem_append_right _ (List.mem_append_right _ (List.mem_append_left _ (List.mem_of_getElem? (l := tables_1_12) (i := 211) (by decide +kernel))))))))))))))) (by decide +kernel)
theorem kw_187 : Cond.selects R_Mo y_Mo_giveNone y_Mo_giveNone ∈ wA := kinp 167 (by decide +kernel) (by decide +kernel)
def M_Mo_giveNone  : M (Unit) :=
  oB (oPI 1282 0 0) fun _ =>
  oB (oPI 73 0 2) fun _ =>
  oR ()

theorem cv_Mo_giveNone : CV y_Mo_giveNone b_Mo_giveNone 1 none 0 := ⟨kw_186, kw_187, kw_17, k_Mo_giveNone, by decide +kernel⟩
theorem ct_Mo_giveNone {l : Launch} {P : PP} {q : PL} {s s' : S1}  {r : Unit} (h : M_Mo_giveNone s = some (r, s')) : Ct l y_Mo_giveNone b_Mo_giveNone 1 none 0 0 P q s [.ref (q.1 0 0)] none q s' := by
  refine ct_of (by decide) (Nat.le_of_ble_eq_true rfl) fun X ls eP el g hR hl => ?_
  have hR : Rt X q ((r, s') : Unit × S1).2 none := hR
  have hl : lv_has ls 1 [(0, .ref (q.1 0 0))] := hl
  generalize (r, s') = o at h hR
  unfold M_Mo_giveNone at h
  refine ww_aload_n (pc := 0) g.1 d_Mo_giveNone_0 rfl (lv_at hl 0 rfl) ?_
  refine ww_gR (pc := 1) g (k := 78) cl_Mo (pz rfl (by decide)) (by decide) (Or.inl kw_184) (f := 78) (t := 10) rfl rfl rfl d_Mo_giveNone_1 ?_
  refine ww_iconst (pc := 4) g.1 (v := 0) d_Mo_giveNone_4 (by decide) ?_
  refine ww_pI (pc := 5) g (k := 2) (cl_Va (Or.inl ⟨by decide, rfl⟩)) (pz rfl (by decide)) (by decide) (Or.inl kw_185) rfl (f := 1282) rfl rfl rfl rfl d_Mo_giveNone_5 h fun s hs h => ?_
  refine ww_aload_n (pc := 8) g.1 d_Mo_giveNone_8 rfl (lv_at hl 0 rfl) ?_
  refine ww_iconst (pc := 9) g.1 (v := 2) d_Mo_giveNone_9 (by decide) ?_
  refine ww_pI (pc := 10) g (k := 73) cl_Mo (pz rfl (by decide)) (by decide) (Or.inl kw_77) rfl (f := 73) rfl rfl rfl rfl d_Mo_giveNone_10 h fun s hs h => ?_
  exact ww_vretH (pc := 13) g h hR d_Mo_giveNone_13

abbrev b_Mo_tostring : ByteArray := prog_14_method_108_code
def y_Mo_tostring : MethodName := ⟨R_Mo, "tostring", "()V"⟩
abbrev w_Mo_tostring : List Cond := .code y_Mo_tostring b_Mo_tostring 7 none :: wA
theorem k_Mo_tostring : Cond.code y_Mo_tostring b_Mo_tostring 7 none ∈ wA := kinm (show _ ∈ tables_1 from (List.mem_append_right _ (List.mem_append_right _ (List.mem_append_right _ (List.mem_append_right _ (List.mem_append_right _ (List.mem_append_right _ (List.mem_append_right _ (List.mem_append_right _ (List.mem_append_right _ (List.mem_append_right _ (List.mem_append_right _ (List.mem_append_left _ (List.mem_of_getElem? (l := tables_1_12) (i := 216) (by decide +kernel))))))))))))))) (by decide +kernel)
theorem d_Mo_tostring_0 : decode b_Mo_tostring 0 = .ok (.aload_n 0, 1) := by decide +kernel
theorem d_Mo_tostring_1 : decode b_Mo_tostring 1 = .ok (.iconst 0, 1) := by decide +kernel
theorem d_Mo_tostring_2 : decode b_Mo_tostring 2 = .ok (.invokevirtual 797, 3) := by decide +kernel
theorem d_Mo_tostring_5 : decode b_Mo_tostring 5 = .ok (.istore_n 1, 1) := by decide +kernel
theorem d_Mo_tostring_6 : decode b_Mo_tostring 6 = .ok (.aload_n 0, 1) := by decide +kernel
theorem d_Mo_tostring_7 : decode b_Mo_tostring 7 = .ok (.iconst 0, 1) := by decide +kernel
theorem d_Mo_tostring_8 : decode b_Mo_tostring 8 = .ok (.invokevirtual 807, 3) := by decide +kernel
theorem d_Mo_tostring_11 : decode b_Mo_tostring 11 = .ok (.lstore_n 2, 1) := by decide +kernel
theorem d_Mo_tostring_12 : decode b_Mo_tostring 12 = .ok (.aload_n 0, 1) := by decide +kernel
theorem d_Mo_tostring_13 : decode b_Mo_tostring 13 = .ok (.iload_n 1, 1) := by decide +kernel
theorem d_Mo_tostring_14 : decode b_Mo_tostring 14 = .ok (.lload_n 2, 1) := by decide +kernel
theorem d_Mo_tostring_15 : decode b_Mo_tostring 15 = .ok (.bipush 20, 2) := by decide +kernel
theorem d_Mo_tostring_17 : decode b_Mo_tostring 17 = .ok (.invokevirtual 715, 3) := by decide +kernel
theorem d_Mo_tostring_20 : decode b_Mo_tostring 20 = .ok (.ifCond .eq 68, 3) := by decide +kernel
theorem d_Mo_tostring_23 : decode b_Mo_tostring 23 = .ok (.aload_n 0, 1) := by decide +kernel
theorem d_Mo_tostring_24 : decode b_Mo_tostring 24 = .ok (.getfield 222, 3) := by decide +kernel
theorem d_Mo_tostring_27 : decode b_Mo_tostring 27 = .ok (.istore 4, 2) := by decide +kernel
theorem d_Mo_tostring_29 : decode b_Mo_tostring 29 = .ok (.aload_n 0, 1) := by decide +kernel
theorem d_Mo_tostring_30 : decode b_Mo_tostring 30 = .ok (.getfield 225, 3) := by decide +kernel
theorem d_Mo_tostring_33 : decode b_Mo_tostring 33 = .ok (.lstore 5, 2) := by decide +kernel
theorem d_Mo_tostring_35 : decode b_Mo_tostring 35 = .ok (.aload_n 0, 1) := by decide +kernel
theorem d_Mo_tostring_36 : decode b_Mo_tostring 36 = .ok (.getfield 259, 3) := by decide +kernel
theorem d_Mo_tostring_39 : decode b_Mo_tostring 39 = .ok (.iconst 0, 1) := by decide +kernel
theorem d_Mo_tostring_40 : decode b_Mo_tostring 40 = .ok (.putfield 569, 3) := by decide +kernel
theorem d_Mo_tostring_43 : decode b_Mo_tostring 43 = .ok (.aload_n 0, 1) := by decide +kernel
theorem d_Mo_tostring_44 : decode b_Mo_tostring 44 = .ok (.getfield 259, 3) := by decide +kernel
theorem d_Mo_tostring_47 : decode b_Mo_tostring 47 = .ok (.iload_n 1, 1) := by decide +kernel
theorem d_Mo_tostring_48 : decode b_Mo_tostring 48 = .ok (.lload_n 2, 1) := by decide +kernel
theorem d_Mo_tostring_49 : decode b_Mo_tostring 49 = .ok (.invokevirtual 572, 3) := by decide +kernel
theorem d_Mo_tostring_52 : decode b_Mo_tostring 52 = .ok (.aload_n 0, 1) := by decide +kernel
theorem d_Mo_tostring_53 : decode b_Mo_tostring 53 = .ok (.iconst 4, 1) := by decide +kernel
theorem d_Mo_tostring_54 : decode b_Mo_tostring 54 = .ok (.iconst (-1), 1) := by decide +kernel
theorem d_Mo_tostring_55 : decode b_Mo_tostring 55 = .ok (.invokevirtual 755, 3) := by decide +kernel
theorem d_Mo_tostring_58 : decode b_Mo_tostring 58 = .ok (.ifCond .ne 12, 3) := by decide +kernel
theorem d_Mo_tostring_61 : decode b_Mo_tostring 61 = .ok (.aload_n 0, 1) := by decide +kernel
theorem d_Mo_tostring_62 : decode b_Mo_tostring 62 = .ok (.getfield 259, 3) := by decide +kernel
theorem d_Mo_tostring_65 : decode b_Mo_tostring 65 = .ok (.iconst 0, 1) := by decide +kernel
theorem d_Mo_tostring_66 : decode b_Mo_tostring 66 = .ok (.putfield 569, 3) := by decide +kernel
theorem d_Mo_tostring_69 : decode b_Mo_tostring 69 = .ok (.return_, 1) := by decide +kernel
theorem d_Mo_tostring_70 : decode b_Mo_tostring 70 = .ok (.aload_n 0, 1) := by decide +kernel
theorem d_Mo_tostring_71 : decode b_Mo_tostring 71 = .ok (.iload 4, 2) := by decide +kernel
theorem d_Mo_tostring_73 : decode b_Mo_tostring 73 = .ok (.putfield 253, 3) := by decide +kernel
theorem d_Mo_tostring_76 : decode b_Mo_tostring 76 = .ok (.aload_n 0, 1) := by decide +kernel
theorem d_Mo_tostring_77 : decode b_Mo_tostring 77 = .ok (.lload 5, 2) := by decide +kernel
theorem d_Mo_tostring_79 : decode b_Mo_tostring 79 = .ok (.putfield 256, 3) := by decide +kernel
theorem d_Mo_tostring_82 : decode b_Mo_tostring 82 = .ok (.aload_n 0, 1) := by decide +kernel
theorem d_Mo_tostring_83 : decode b_Mo_tostring 83 = .ok (.iconst 1, 1) := by decide +kernel
theorem d_Mo_tostring_84 : decode b_Mo_tostring 84 = .ok (.putfield 247, 3) := by decide +kernel
theorem d_Mo_tostring_87 : decode b_Mo_tostring 87 = .ok (.return_, 1) := by decide +kernel
theorem d_Mo_tostring_88 : decode b_Mo_tostring 88 = .ok (.iload_n 1, 1) := by decide +kernel
theorem d_Mo_tostring_89 : decode b_Mo_tostring 89 = .ok (.iconst 4, 1) := by decide +kernel
theorem d_Mo_tostring_90 : decode b_Mo_tostring 90 = .ok (.if_icmp .ne 12, 3) := by decide +kernel
theorem d_Mo_tostring_93 : decode b_Mo_tostring 93 = .ok (.aload_n 0, 1) := by decide +kernel
theorem d_Mo_tostring_94 : decode b_Mo_tostring 94 = .ok (.iconst 4, 1) := by decide +kernel
theorem d_Mo_tostring_95 : decode b_Mo_tostring 95 = .ok (.lload_n 2, 1) := by decide +kernel
theorem d_Mo_tostring_96 : decode b_Mo_tostring 96 = .ok (.invokevirtual 804, 3) := by decide +kernel
theorem d_Mo_tostring_99 : decode b_Mo_tostring 99 = .ok (.goto 42, 3) := by decide +kernel
theorem d_Mo_tostring_102 : decode b_Mo_tostring 102 = .ok (.aload_n 0, 1) := by decide +kernel
theorem d_Mo_tostring_103 : decode b_Mo_tostring 103 = .ok (.iconst 0, 1) := by decide +kernel
theorem d_Mo_tostring_104 : decode b_Mo_tostring 104 = .ok (.putfield 431, 3) := by decide +kernel
theorem d_Mo_tostring_107 : decode b_Mo_tostring 107 = .ok (.aload_n 0, 1) := by decide +kernel
theorem d_Mo_tostring_108 : decode b_Mo_tostring 108 = .ok (.iload_n 1, 1) := by decide +kernel
theorem d_Mo_tostring_109 : decode b_Mo_tostring 109 = .ok (.lload_n 2, 1) := by decide +kernel
theorem d_Mo_tostring_110 : decode b_Mo_tostring 110 = .ok (.invokevirtual 902, 3) := by decide +kernel
theorem d_Mo_tostring_113 : decode b_Mo_tostring 113 = .ok (.aload_n 0, 1) := by decide +kernel
theorem d_Mo_tostring_114 : decode b_Mo_tostring 114 = .ok (.aload_n 0, 1) := by decide +kernel
theorem d_Mo_tostring_115 : decode b_Mo_tostring 115 = .ok (.getfield 422, 3) := by decide +kernel
theorem d_Mo_tostring_118 : decode b_Mo_tostring 118 = .ok (.iconst 0, 1) := by decide +kernel
theorem d_Mo_tostring_119 : decode b_Mo_tostring 119 = .ok (.aload_n 0, 1) := by decide +kernel
theorem d_Mo_tostring_120 : decode b_Mo_tostring 120 = .ok (.getfield 431, 3) := by decide +kernel
theorem d_Mo_tostring_123 : decode b_Mo_tostring 123 = .ok (.invokevirtual 655, 3) := by decide +kernel
theorem d_Mo_tostring_126 : decode b_Mo_tostring 126 = .ok (.istore 4, 2) := by decide +kernel
theorem d_Mo_tostring_128 : decode b_Mo_tostring 128 = .ok (.iload 4, 2) := by decide +kernel
theorem d_Mo_tostring_130 : decode b_Mo_tostring 130 = .ok (.ifCond .lt 11, 3) := by decide +kernel
theorem d_Mo_tostring_133 : decode b_Mo_tostring 133 = .ok (.aload_n 0, 1) := by decide +kernel
theorem d_Mo_tostring_134 : decode b_Mo_tostring 134 = .ok (.iconst 4, 1) := by decide +kernel
theorem d_Mo_tostring_135 : decode b_Mo_tostring 135 = .ok (.iload 4, 2) := by decide +kernel
theorem d_Mo_tostring_137 : decode b_Mo_tostring 137 = .ok (.i2l, 1) := by decide +kernel
theorem d_Mo_tostring_138 : decode b_Mo_tostring 138 = .ok (.invokevirtual 804, 3) := by decide +kernel
theorem d_Mo_tostring_141 : decode b_Mo_tostring 141 = .ok (.aload_n 0, 1) := by decide +kernel
theorem d_Mo_tostring_142 : decode b_Mo_tostring 142 = .ok (.getfield 259, 3) := by decide +kernel
theorem d_Mo_tostring_145 : decode b_Mo_tostring 145 = .ok (.iconst 0, 1) := by decide +kernel
theorem d_Mo_tostring_146 : decode b_Mo_tostring 146 = .ok (.putfield 569, 3) := by decide +kernel
theorem d_Mo_tostring_149 : decode b_Mo_tostring 149 = .ok (.return_, 1) := by decide +kernel
abbrev b_Mo_ak : ByteArray := prog_14_method_82_code
def y_Mo_ak : MethodName := ⟨R_Mo, "ak", "(I)I"⟩
abbrev w_Mo_ak : List Cond := .code y_Mo_ak b_Mo_ak 2 (some .int) :: wA
theorem k_Mo_ak : Cond.code y_Mo_ak b_Mo_ak 2 (some .int) ∈ wA := kinm (show _ ∈ tables_1 from (List.mem_append_right _ (List.mem_append_right _ (List.mem_append_right _ (List.mem_append_right _ (List.mem_append_right _ (List.mem_append_right _ (List.mem_append_right _ (List.mem_append_right _ (List.mem_append_right _ (List.mem_append_right _ (List.mem_append_right _ (List.mem_append_left _ (List.mem_of_getElem? (l := tables_1_12) (i := 220) (by decide +kernel))))))))))))))) (by decide +kernel)
theorem d_Mo_ak_0 : decode b_Mo_ak 0 = .ok (.iload_n 1, 1) := by decide +kernel
theorem d_Mo_ak_1 : decode b_Mo_ak 1 = .ok (.aload_n 0, 1) := by decide +kernel
theorem d_Mo_ak_2 : decode b_Mo_ak 2 = .ok (.getfield 259, 3) := by decide +kernel
theorem d_Mo_ak_5 : decode b_Mo_ak 5 = .ok (.getfield 569, 3) := by decide +kernel
theorem d_Mo_ak_8 : decode b_Mo_ak 8 = .ok (.if_icmp .ge 15, 3) := by decide +kernel
theorem d_Mo_ak_11 : decode b_Mo_ak 11 = .ok (.aload_n 0, 1) := by decide +kernel
theorem d_Mo_ak_12 : decode b_Mo_ak 12 = .ok (.getfield 259, 3) := by decide +kernel
theorem d_Mo_ak_15 : decode b_Mo_ak 15 = .ok (.getfield 585, 3) := by decide +kernel
theorem d_Mo_ak_18 : decode b_Mo_ak 18 = .ok (.iload_n 1, 1) := by decide +kernel
theorem d_Mo_ak_19 : decode b_Mo_ak 19 = .ok (.baload, 1) := by decide +kernel
theorem d_Mo_ak_20 : decode b_Mo_ak 20 = .ok (.goto 4, 3) := by decide +kernel
theorem d_Mo_ak_23 : decode b_Mo_ak 23 = .ok (.iconst 0, 1) := by decide +kernel
theorem d_Mo_ak_24 : decode b_Mo_ak 24 = .ok (.ireturn, 1) := by decide +kernel
theorem kw_188 : Cond.fieldLink R_Mo 259 "LuaMachineModel" "args" "LLuaMachineModel$Values;" ∈ wA := kinm (show _ ∈ tables_1 from (List.mem_append_right _ (List.mem_append_right _ (List.mem_append_right _ (List.mem_append_right _ (List.mem_append_right _ (List.mem_append_right _ (List.mem_append_right _ (List.mem_append_right _ (List.mem_append_right _ (List.mem_append_left _ (List.mem_of_getElem? (l := tables_1_10) (i := 133) (by decide +kernel))))))))))))) (by decide +kernel)
theorem kw_189 : Cond.instanceMethod y_Mo_ak ∈ wA := kinm (show _ ∈ tables_1 from (List.mem_append_right _ (List.mem_append_right _ (List.mem_append_right _ (List.mem_append_right _ (List.mem_append_right _ (List.mem_append_right _ (List.mem_append_right _ (List.mem_append_right _ (List.mem_append_right _ (List.mem_append_right _ (List.mem_append_right _ (List.mem_append_left _ (List.mem_of_getElem? (l := tables_1_12) (i := 219) (by decide +kernel))))))))))))))) (by decide +kernel)
theorem kw_190 : Cond.selects R_Mo y_Mo_ak y_Mo_ak ∈ wA := kinp 169 (by decide +kernel) (by decide +kernel)
def M_Mo_ak (l1 : Int32) : M (Int32) :=
  oB (oGI 898 0) fun v5 =>
  oC (v5 ≤ l1)
    (oR 0)
    (oB (oAI 8 400 0 l1) fun v19 =>
    oR v19)

theorem cv_Mo_ak : CV y_Mo_ak b_Mo_ak 2 (some .int) 1 := ⟨kw_189, kw_190, kw_17, k_Mo_ak, by decide +kernel⟩
theorem ct_Mo_ak {l : Launch} {P : PP} {q : PL} {s s' : S1} {l1 : Int32} {r : Int32} (h : M_Mo_ak l1 s = some (r, s')) : Ct l y_Mo_ak b_Mo_ak 2 (some .int) 0 0 P q s [.ref (q.1 0 0), .int l1] (some (.int r)) q s' := by
  refine ct_of (by decide) (Nat.le_of_ble_eq_true rfl) fun X ls eP el g hR hl => ?_
  have hR : Rt X q ((r, s') : Int32 × S1).2 (some (.int ((r, s') : Int32 × S1).1)) := hR
  have hl : lv_has ls 2 [(0, .ref (q.1 0 0)), (1, .int l1)] := hl
  generalize (r, s') = o at h hR
  unfold M_Mo_ak at h
  refine ww_iload_n (pc := 0) g.1 d_Mo_ak_0 rfl (lv_at hl 1 rfl) ?_
  refine ww_aload_n (pc := 1) g.1 d_Mo_ak_1 rfl (lv_at hl 0 rfl) ?_
  refine ww_gR (pc := 2) g (k := 77) cl_Mo (pz rfl (by decide)) (by decide) (Or.inl kw_188) (f := 77) (t := 7) rfl rfl rfl d_Mo_ak_2 ?_
  refine ww_gI (pc := 5) g (k := 2) (cl_Va (Or.inl ⟨by decide, rfl⟩)) (pz rfl (by decide)) (by decide) (Or.inl kw_185) (f := 898) rfl rfl d_Mo_ak_5 h fun v5 h => ?_
  refine ww_icmp_ge (pc := 8) (tgt := 23) g.1 d_Mo_ak_8 (by decide) h (fun c h => ?_) (fun c h => ?_)
  · refine ww_iconst (pc := 23) g.1 (v := 0) d_Mo_ak_23 (by decide) ?_
    exact ww_iretH (pc := 24) g h hR d_Mo_ak_24
  · refine ww_aload_n (pc := 11) g.1 d_Mo_ak_11 rfl (lv_at hl 0 rfl) ?_
    refine ww_gR (pc := 12) g (k := 77) cl_Mo (pz rfl (by decide)) (by decide) (Or.inl kw_188) (f := 77) (t := 7) rfl rfl rfl d_Mo_ak_12 ?_
    refine ww_gR (pc := 15) g (k := 0) (cl_Va (Or.inl ⟨by decide, rfl⟩)) (pz rfl (by decide)) (by decide) (Or.inl kw_92) (f := 896) (t := 8) rfl rfl rfl d_Mo_ak_15 ?_
    refine ww_iload_n (pc := 18) g.1 d_Mo_ak_18 rfl (lv_at hl 1 rfl) ?_
    refine ww_ab (pc := 19) g (pz rfl (by decide)) rfl rfl d_Mo_ak_19 h fun v19 h => ?_
    refine ww_goto (pc := 20) (tgt := 24) g.1 d_Mo_ak_20 (by decide) ?_
    exact ww_iretH (pc := 24) g h hR d_Mo_ak_24

abbrev b_Mo_av : ByteArray := prog_14_method_83_code
def y_Mo_av : MethodName := ⟨R_Mo, "av", "(I)J"⟩
abbrev w_Mo_av : List Cond := .code y_Mo_av b_Mo_av 2 (some .long) :: wA
theorem k_Mo_av : Cond.code y_Mo_av b_Mo_av 2 (some .long) ∈ wA := kinm (show _ ∈ tables_1 from (List.mem_append_right _ (List.mem_append_right _ (List.mem_append_right _ (List.mem_append_right _ (List.mem_append_right _ (List.mem_append_right _ (List.mem_append_right _ (List.mem_append_right _ (List.mem_append_right _ (List.mem_append_right _ (List.mem_append_right _ (List.mem_append_left _ (List.mem_of_getElem? (l := tables_1_12) (i := 224) (by decide +kernel))))))))))))))) (by decide +kernel)
theorem d_Mo_av_0 : decode b_Mo_av 0 = .ok (.iload_n 1, 1) := by decide +kernel
theorem d_Mo_av_1 : decode b_Mo_av 1 = .ok (.aload_n 0, 1) := by decide +kernel
theorem d_Mo_av_2 : decode b_Mo_av 2 = .ok (.getfield 259, 3) := by decide +kernel
theorem d_Mo_av_5 : decode b_Mo_av 5 = .ok (.getfield 569, 3) := by decide +kernel
theorem d_Mo_av_8 : decode b_Mo_av 8 = .ok (.if_icmp .ge 15, 3) := by decide +kernel
theorem d_Mo_av_11 : decode b_Mo_av 11 = .ok (.aload_n 0, 1) := by decide +kernel
theorem d_Mo_av_12 : decode b_Mo_av 12 = .ok (.getfield 259, 3) := by decide +kernel
theorem d_Mo_av_15 : decode b_Mo_av 15 = .ok (.getfield 588, 3) := by decide +kernel
theorem d_Mo_av_18 : decode b_Mo_av 18 = .ok (.iload_n 1, 1) := by decide +kernel
theorem d_Mo_av_19 : decode b_Mo_av 19 = .ok (.laload, 1) := by decide +kernel
theorem d_Mo_av_20 : decode b_Mo_av 20 = .ok (.goto 4, 3) := by decide +kernel
theorem d_Mo_av_23 : decode b_Mo_av 23 = .ok (.lconst 0, 1) := by decide +kernel
theorem d_Mo_av_24 : decode b_Mo_av 24 = .ok (.lreturn, 1) := by decide +kernel
theorem kw_191 : Cond.instanceMethod y_Mo_av ∈ wA := kinm (show _ ∈ tables_1 from (List.mem_append_right _ (List.mem_append_right _ (List.mem_append_right _ (List.mem_append_right _ (List.mem_append_right _ (List.mem_append_right _ (List.mem_append_right _ (List.mem_append_right _ (List.mem_append_right _ (List.mem_append_right _ (List.mem_append_right _ (List.mem_append_left _ (List.mem_of_getElem? (l := tables_1_12) (i := 223) (by decide +kernel))))))))))))))) (by decide +kernel)
theorem kw_192 : Cond.selects R_Mo y_Mo_av y_Mo_av ∈ wA := kinp 170 (by decide +kernel) (by decide +kernel)
def M_Mo_av (l1 : Int32) : M (Int64) :=
  oB (oGI 898 0) fun v5 =>
  oC (v5 ≤ l1)
    (oR 0)
    (oB (oAL 9 400 0 l1) fun v19 =>
    oR v19)

theorem cv_Mo_av : CV y_Mo_av b_Mo_av 2 (some .long) 1 := ⟨kw_191, kw_192, kw_17, k_Mo_av, by decide +kernel⟩
theorem ct_Mo_av {l : Launch} {P : PP} {q : PL} {s s' : S1} {l1 : Int32} {r : Int64} (h : M_Mo_av l1 s = some (r, s')) : Ct l y_Mo_av b_Mo_av 2 (some .long) 0 0 P q s [.ref (q.1 0 0), .int l1] (some (.long r)) q s' := by
  refine ct_of (by decide) (Nat.le_of_ble_eq_true rfl) fun X ls eP el g hR hl => ?_
  have hR : Rt X q ((r, s') : Int64 × S1).2 (some (.long ((r, s') : Int64 × S1).1)) := hR
  have hl : lv_has ls 2 [(0, .ref (q.1 0 0)), (1, .int l1)] := hl
  generalize (r, s') = o at h hR
  unfold M_Mo_av at h
  refine ww_iload_n (pc := 0) g.1 d_Mo_av_0 rfl (lv_at hl 1 rfl) ?_
  refine ww_aload_n (pc := 1) g.1 d_Mo_av_1 rfl (lv_at hl 0 rfl) ?_
  refine ww_gR (pc := 2) g (k := 77) cl_Mo (pz rfl (by decide)) (by decide) (Or.inl kw_188) (f := 77) (t := 7) rfl rfl rfl d_Mo_av_2 ?_
  refine ww_gI (pc := 5) g (k := 2) (cl_Va (Or.inl ⟨by decide, rfl⟩)) (pz rfl (by decide)) (by decide) (Or.inl kw_185) (f := 898) rfl rfl d_Mo_av_5 h fun v5 h => ?_
  refine ww_icmp_ge (pc := 8) (tgt := 23) g.1 d_Mo_av_8 (by decide) h (fun c h => ?_) (fun c h => ?_)
  · refine ww_lconst (pc := 23) g.1 (v := 0) d_Mo_av_23 (by decide) ?_
    exact ww_lretH (pc := 24) g h hR d_Mo_av_24
  · refine ww_aload_n (pc := 11) g.1 d_Mo_av_11 rfl (lv_at hl 0 rfl) ?_
    refine ww_gR (pc := 12) g (k := 77) cl_Mo (pz rfl (by decide)) (by decide) (Or.inl kw_188) (f := 77) (t := 7) rfl rfl rfl d_Mo_av_12 ?_
    refine ww_gR (pc := 15) g (k := 1) (cl_Va (Or.inl ⟨by decide, rfl⟩)) (pz rfl (by decide)) (by decide) (Or.inl kw_95) (f := 897) (t := 9) rfl rfl rfl d_Mo_av_15 ?_
    refine ww_iload_n (pc := 18) g.1 d_Mo_av_18 rfl (lv_at hl 1 rfl) ?_
    refine ww_al (pc := 19) g (pz rfl (by decide)) rfl rfl d_Mo_av_19 h fun v19 h => ?_
    refine ww_goto (pc := 20) (tgt := 24) g.1 d_Mo_av_20 (by decide) ?_
    exact ww_lretH (pc := 24) g h hR d_Mo_av_24

abbrev b_Mo_give : ByteArray := prog_14_method_71_code
def y_Mo_give : MethodName := ⟨R_Mo, "give", "(IJ)V"⟩
abbrev w_Mo_give : List Cond := .code y_Mo_give b_Mo_give 4 none :: wA
theorem k_Mo_give : Cond.code y_Mo_give b_Mo_give 4 none ∈ wA := kinm (show _ ∈ tables_1 from (List.mem_append_right _ (List.mem_append_right _ (List.mem_append_right _ (List.mem_append_right _ (List.mem_append_right _ (List.mem_append_right _ (List.mem_append_right _ (List.mem_append_right _ (List.mem_append_right _ (List.mem_append_right _ (List.mem_append_right _ (List.mem_append_left _ (List.mem_of_getElem? (l := tables_1_12) (i := 228) (by decide +kernel))))))))))))))) (by decide +kernel)
theorem d_Mo_give_0 : decode b_Mo_give 0 = .ok (.aload_n 0, 1) := by decide +kernel
theorem d_Mo_give_1 : decode b_Mo_give 1 = .ok (.getfield 262, 3) := by decide +kernel
theorem d_Mo_give_4 : decode b_Mo_give 4 = .ok (.iconst 0, 1) := by decide +kernel
theorem d_Mo_give_5 : decode b_Mo_give 5 = .ok (.putfield 569, 3) := by decide +kernel
theorem d_Mo_give_8 : decode b_Mo_give 8 = .ok (.aload_n 0, 1) := by decide +kernel
theorem d_Mo_give_9 : decode b_Mo_give 9 = .ok (.getfield 262, 3) := by decide +kernel
theorem d_Mo_give_12 : decode b_Mo_give 12 = .ok (.iload_n 1, 1) := by decide +kernel
theorem d_Mo_give_13 : decode b_Mo_give 13 = .ok (.lload_n 2, 1) := by decide +kernel
theorem d_Mo_give_14 : decode b_Mo_give 14 = .ok (.invokevirtual 572, 3) := by decide +kernel
theorem d_Mo_give_17 : decode b_Mo_give 17 = .ok (.aload_n 0, 1) := by decide +kernel
theorem d_Mo_give_18 : decode b_Mo_give 18 = .ok (.iconst 2, 1) := by decide +kernel
theorem d_Mo_give_19 : decode b_Mo_give 19 = .ok (.putfield 247, 3) := by decide +kernel
theorem d_Mo_give_22 : decode b_Mo_give 22 = .ok (.return_, 1) := by decide +kernel
theorem kw_193 : Cond.methodLink R_Mo 572 y_Va_add ∈ wA := kinm (show _ ∈ tables_1 from (List.mem_append_right _ (List.mem_append_right _ (List.mem_append_right _ (List.mem_append_right _ (List.mem_append_right _ (List.mem_append_right _ (List.mem_append_right _ (List.mem_append_right _ (List.mem_append_right _ (List.mem_append_right _ (List.mem_append_right _ (List.mem_append_left _ (List.mem_of_getElem? (l := tables_1_12) (i := 104) (by decide +kernel))))))))))))))) (by decide +kernel)
theorem kw_194 : Cond.instanceMethod y_Mo_give ∈ wA := kinm (show _ ∈ tables_1 from (List.mem_append_right _ (List.mem_append_right _ (List.mem_append_right _ (List.mem_append_right _ (List.mem_append_right _ (List.mem_append_right _ (List.mem_append_right _ (List.mem_append_right _ (List.mem_append_right _ (List.mem_append_right _ (List.mem_append_right _ (List.mem_append_left _ (List.mem_of_getElem? (l := tables_1_12) (i := 227) (by decide +kernel))))))))))))))) (by decide +kernel)
theorem kw_195 : Cond.selects R_Mo y_Mo_give y_Mo_give ∈ wA := kinp 171 (by decide +kernel) (by decide +kernel)
def M_Mo_give (l1 : Int32) (l2 : Int64) : M (Unit) :=
  oB (oPI 1282 0 0) fun _ =>
  oB (M_Va_add 10 0 l1 l2) fun _ =>
  oB (oPI 73 0 2) fun _ =>
  oR ()

theorem cv_Mo_give : CV y_Mo_give b_Mo_give 4 none 2 := ⟨kw_194, kw_195, kw_17, k_Mo_give, by decide +kernel⟩
theorem ct_Mo_give {l : Launch} {P : PP} {q : PL} {s s' : S1} {l1 : Int32} {l2 : Int64} {r : Unit} (h : M_Mo_give l1 l2 s = some (r, s')) : Ct l y_Mo_give b_Mo_give 4 none 1 23 P q s [.ref (q.1 0 0), .int l1, .long l2] none q s' := by
  refine ct_of (by decide) (Nat.le_of_ble_eq_true rfl) fun X ls eP el g hR hl => ?_
  have hR : Rt X q ((r, s') : Unit × S1).2 none := hR
  have hl : lv_has ls 4 [(0, .ref (q.1 0 0)), (1, .int l1), (2, .long l2)] := hl
  generalize (r, s') = o at h hR
  unfold M_Mo_give at h
  refine ww_aload_n (pc := 0) g.1 d_Mo_give_0 rfl (lv_at hl 0 rfl) ?_
  refine ww_gR (pc := 1) g (k := 78) cl_Mo (pz rfl (by decide)) (by decide) (Or.inl kw_184) (f := 78) (t := 10) rfl rfl rfl d_Mo_give_1 ?_
  refine ww_iconst (pc := 4) g.1 (v := 0) d_Mo_give_4 (by decide) ?_
  refine ww_pI (pc := 5) g (k := 2) (cl_Va (Or.inl ⟨by decide, rfl⟩)) (pz rfl (by decide)) (by decide) (Or.inl kw_185) rfl (f := 1282) rfl rfl rfl rfl d_Mo_give_5 h fun s hs h => ?_
  refine ww_aload_n (pc := 8) g.1 d_Mo_give_8 rfl (lv_at hl 0 rfl) ?_
  refine ww_gR (pc := 9) g (k := 78) cl_Mo (pz rfl (by decide)) (by decide) (Or.inl kw_184) (f := 78) (t := 10) rfl rfl rfl d_Mo_give_9 ?_
  refine ww_iload_n (pc := 12) g.1 d_Mo_give_12 rfl (lv_at hl 1 rfl) ?_
  refine ww_lload_n (pc := 13) g.1 d_Mo_give_13 rfl (lv_at hl 2 rfl) ?_
  obtain ⟨v14, s, hc14, h⟩ := oB_of h
  refine ww_callV (pc := 14) (rest := []) g cv_Va_add (Or.inl kw_193) (cl_Va (Or.inl ⟨by decide, rfl⟩)) (pz rfl (by decide)) (ct_Va_add (Or.inl ⟨by decide, rfl⟩) hc14) ⟨by decide, by decide⟩ rfl hl.1 (Nat.le_of_ble_eq_true rfl) d_Mo_give_14 rfl ?_
  refine ww_st (st' := []) rfl ?_
  refine ww_aload_n (pc := 17) g.1 d_Mo_give_17 rfl (lv_at hl 0 rfl) ?_
  refine ww_iconst (pc := 18) g.1 (v := 2) d_Mo_give_18 (by decide) ?_
  refine ww_pI (pc := 19) g (k := 73) cl_Mo (pz rfl (by decide)) (by decide) (Or.inl kw_77) rfl (f := 73) rfl rfl rfl rfl d_Mo_give_19 h fun s hs h => ?_
  exact ww_vretH (pc := 22) g h hR d_Mo_give_22

abbrev b_Mo_pcall : ByteArray := prog_14_method_86_code
def y_Mo_pcall : MethodName := ⟨R_Mo, "pcall", "()V"⟩
abbrev w_Mo_pcall : List Cond := .code y_Mo_pcall b_Mo_pcall 2 none :: wA
theorem k_Mo_pcall : Cond.code y_Mo_pcall b_Mo_pcall 2 none ∈ wA := kinm (show _ ∈ tables_1 from (List.mem_append_right _ (List.mem_append_right _ (List.mem_append_right _ (List.mem_append_right _ (List.mem_append_right _ (List.mem_append_right _ (List.mem_append_right _ (List.mem_append_right _ (List.mem_append_right _ (List.mem_append_right _ (List.mem_append_right _ (List.mem_append_left _ (List.mem_of_getElem? (l := tables_1_12) (i := 232) (by decide +kernel))))))))))))))) (by decide +kernel)
theorem d_Mo_pcall_0 : decode b_Mo_pcall 0 = .ok (.aload_n 0, 1) := by decide +kernel
theorem d_Mo_pcall_1 : decode b_Mo_pcall 1 = .ok (.iconst 1, 1) := by decide +kernel
theorem d_Mo_pcall_2 : decode b_Mo_pcall 2 = .ok (.iconst (-1), 1) := by decide +kernel
theorem d_Mo_pcall_3 : decode b_Mo_pcall 3 = .ok (.invokevirtual 755, 3) := by decide +kernel
theorem d_Mo_pcall_6 : decode b_Mo_pcall 6 = .ok (.ifCond .ne 12, 3) := by decide +kernel
theorem d_Mo_pcall_9 : decode b_Mo_pcall 9 = .ok (.aload_n 0, 1) := by decide +kernel
theorem d_Mo_pcall_10 : decode b_Mo_pcall 10 = .ok (.getfield 259, 3) := by decide +kernel
theorem d_Mo_pcall_13 : decode b_Mo_pcall 13 = .ok (.iconst 0, 1) := by decide +kernel
theorem d_Mo_pcall_14 : decode b_Mo_pcall 14 = .ok (.putfield 569, 3) := by decide +kernel
theorem d_Mo_pcall_17 : decode b_Mo_pcall 17 = .ok (.return_, 1) := by decide +kernel
theorem d_Mo_pcall_18 : decode b_Mo_pcall 18 = .ok (.aload_n 0, 1) := by decide +kernel
theorem d_Mo_pcall_19 : decode b_Mo_pcall 19 = .ok (.aload_n 0, 1) := by decide +kernel
theorem d_Mo_pcall_20 : decode b_Mo_pcall 20 = .ok (.iconst 0, 1) := by decide +kernel
theorem d_Mo_pcall_21 : decode b_Mo_pcall 21 = .ok (.invokevirtual 797, 3) := by decide +kernel
theorem d_Mo_pcall_24 : decode b_Mo_pcall 24 = .ok (.putfield 253, 3) := by decide +kernel
theorem d_Mo_pcall_27 : decode b_Mo_pcall 27 = .ok (.aload_n 0, 1) := by decide +kernel
theorem d_Mo_pcall_28 : decode b_Mo_pcall 28 = .ok (.aload_n 0, 1) := by decide +kernel
theorem d_Mo_pcall_29 : decode b_Mo_pcall 29 = .ok (.iconst 0, 1) := by decide +kernel
theorem d_Mo_pcall_30 : decode b_Mo_pcall 30 = .ok (.invokevirtual 807, 3) := by decide +kernel
theorem d_Mo_pcall_33 : decode b_Mo_pcall 33 = .ok (.putfield 256, 3) := by decide +kernel
theorem d_Mo_pcall_36 : decode b_Mo_pcall 36 = .ok (.iconst 1, 1) := by decide +kernel
theorem d_Mo_pcall_37 : decode b_Mo_pcall 37 = .ok (.istore_n 1, 1) := by decide +kernel
theorem d_Mo_pcall_38 : decode b_Mo_pcall 38 = .ok (.iload_n 1, 1) := by decide +kernel
theorem d_Mo_pcall_39 : decode b_Mo_pcall 39 = .ok (.aload_n 0, 1) := by decide +kernel
theorem d_Mo_pcall_40 : decode b_Mo_pcall 40 = .ok (.getfield 259, 3) := by decide +kernel
theorem d_Mo_pcall_43 : decode b_Mo_pcall 43 = .ok (.getfield 569, 3) := by decide +kernel
theorem d_Mo_pcall_46 : decode b_Mo_pcall 46 = .ok (.if_icmp .ge 24, 3) := by decide +kernel
theorem d_Mo_pcall_49 : decode b_Mo_pcall 49 = .ok (.aload_n 0, 1) := by decide +kernel
theorem d_Mo_pcall_50 : decode b_Mo_pcall 50 = .ok (.getfield 259, 3) := by decide +kernel
theorem d_Mo_pcall_53 : decode b_Mo_pcall 53 = .ok (.iload_n 1, 1) := by decide +kernel
theorem d_Mo_pcall_54 : decode b_Mo_pcall 54 = .ok (.iconst 1, 1) := by decide +kernel
theorem d_Mo_pcall_55 : decode b_Mo_pcall 55 = .ok (.isub, 1) := by decide +kernel
theorem d_Mo_pcall_56 : decode b_Mo_pcall 56 = .ok (.aload_n 0, 1) := by decide +kernel
theorem d_Mo_pcall_57 : decode b_Mo_pcall 57 = .ok (.getfield 259, 3) := by decide +kernel
theorem d_Mo_pcall_60 : decode b_Mo_pcall 60 = .ok (.iload_n 1, 1) := by decide +kernel
theorem d_Mo_pcall_61 : decode b_Mo_pcall 61 = .ok (.invokevirtual 719, 3) := by decide +kernel
theorem d_Mo_pcall_64 : decode b_Mo_pcall 64 = .ok (.iinc 1 1, 3) := by decide +kernel
theorem d_Mo_pcall_67 : decode b_Mo_pcall 67 = .ok (.goto (-29), 3) := by decide +kernel
theorem d_Mo_pcall_70 : decode b_Mo_pcall 70 = .ok (.aload_n 0, 1) := by decide +kernel
theorem d_Mo_pcall_71 : decode b_Mo_pcall 71 = .ok (.getfield 259, 3) := by decide +kernel
theorem d_Mo_pcall_74 : decode b_Mo_pcall 74 = .ok (.getfield 569, 3) := by decide +kernel
theorem d_Mo_pcall_77 : decode b_Mo_pcall 77 = .ok (.ifCond .le 16, 3) := by decide +kernel
theorem d_Mo_pcall_80 : decode b_Mo_pcall 80 = .ok (.aload_n 0, 1) := by decide +kernel
theorem d_Mo_pcall_81 : decode b_Mo_pcall 81 = .ok (.getfield 259, 3) := by decide +kernel
theorem d_Mo_pcall_84 : decode b_Mo_pcall 84 = .ok (.dup, 1) := by decide +kernel
theorem d_Mo_pcall_85 : decode b_Mo_pcall 85 = .ok (.getfield 569, 3) := by decide +kernel
theorem d_Mo_pcall_88 : decode b_Mo_pcall 88 = .ok (.iconst 1, 1) := by decide +kernel
theorem d_Mo_pcall_89 : decode b_Mo_pcall 89 = .ok (.isub, 1) := by decide +kernel
theorem d_Mo_pcall_90 : decode b_Mo_pcall 90 = .ok (.putfield 569, 3) := by decide +kernel
theorem d_Mo_pcall_93 : decode b_Mo_pcall 93 = .ok (.aload_n 0, 1) := by decide +kernel
theorem d_Mo_pcall_94 : decode b_Mo_pcall 94 = .ok (.iconst 1, 1) := by decide +kernel
theorem d_Mo_pcall_95 : decode b_Mo_pcall 95 = .ok (.putfield 247, 3) := by decide +kernel
theorem d_Mo_pcall_98 : decode b_Mo_pcall 98 = .ok (.return_, 1) := by decide +kernel
theorem kw_196 : Cond.methodLink R_Mo 755 y_Mo_push ∈ wA := kinm (show _ ∈ tables_1 from (List.mem_append_right _ (List.mem_append_right _ (List.mem_append_right _ (List.mem_append_right _ (List.mem_append_right _ (List.mem_append_right _ (List.mem_append_right _ (List.mem_append_right _ (List.mem_append_right _ (List.mem_append_right _ (List.mem_append_right _ (List.mem_append_left _ (List.mem_of_getElem? (l := tables_1_12) (i := 138) (by decide +kernel))))))))))))))) (by decide +kernel)
theorem kw_197 : Cond.methodLink R_Mo 797 y_Mo_ak ∈ wA := kinm (show _ ∈ tables_1 from (List.mem_append_right _ (List.mem_append_right _ (List.mem_append_right _ (List.mem_append_right _ (List.mem_append_right _ (List.mem_append_right _ (List.mem_append_right _ (List.mem_append_right _ (List.mem_append_right _ (List.mem_append_right _ (List.mem_append_right _ (List.mem_append_left _ (List.mem_of_getElem? (l := tables_1_12) (i := 217) (by decide +kernel))))))))))))))) (by decide +kernel)
theorem kw_198 : Cond.fieldLink R_Mo 253 "LuaMachineModel" "calledKind" "I" ∈ wA := kinm (show _ ∈ tables_1 from (List.mem_append_right _ (List.mem_append_right _ (List.mem_append_right _ (List.mem_append_right _ (List.mem_append_right _ (List.mem_append_right _ (List.mem_append_right _ (List.mem_append_right _ (List.mem_append_right _ (List.mem_append_left _ (List.mem_of_getElem? (l := tables_1_10) (i := 131) (by decide +kernel))))))))))))) (by decide +kernel)
theorem kw_199 : Cond.methodLink R_Mo 807 y_Mo_av ∈ wA := kinm (show _ ∈ tables_1 from (List.mem_append_right _ (List.mem_append_right _ (List.mem_append_right _ (List.mem_append_right _ (List.mem_append_right _ (List.mem_append_right _ (List.mem_append_right _ (List.mem_append_right _ (List.mem_append_right _ (List.mem_append_right _ (List.mem_append_right _ (List.mem_append_left _ (List.mem_of_getElem? (l := tables_1_12) (i := 221) (by decide +kernel))))))))))))))) (by decide +kernel)
theorem kw_200 : Cond.fieldLink R_Mo 256 "LuaMachineModel" "called" "J" ∈ wA := kinm (show _ ∈ tables_1 from (List.mem_append_right _ (List.mem_append_right _ (List.mem_append_right _ (List.mem_append_right _ (List.mem_append_right _ (List.mem_append_right _ (List.mem_append_right _ (List.mem_append_right _ (List.mem_append_right _ (List.mem_append_left _ (List.mem_of_getElem? (l := tables_1_10) (i := 132) (by decide +kernel))))))))))))) (by decide +kernel)
theorem kw_201 : Cond.methodLink R_Mo 719 y_Va_set_ ∈ wA := kinm (show _ ∈ tables_1 from (List.mem_append_right _ (List.mem_append_right _ (List.mem_append_right _ (List.mem_append_right _ (List.mem_append_right _ (List.mem_append_right _ (List.mem_append_right _ (List.mem_append_right _ (List.mem_append_right _ (List.mem_append_right _ (List.mem_append_right _ (List.mem_append_left _ (List.mem_of_getElem? (l := tables_1_12) (i := 142) (by decide +kernel))))))))))))))) (by decide +kernel)
theorem kw_202 : Cond.instanceMethod y_Mo_pcall ∈ wA := kinm (show _ ∈ tables_1 from (List.mem_append_right _ (List.mem_append_right _ (List.mem_append_right _ (List.mem_append_right _ (List.mem_append_right _ (List.mem_append_right _ (List.mem_append_right _ (List.mem_append_right _ (List.mem_append_right _ (List.mem_append_right _ (List.mem_append_right _ (List.mem_append_left _ (List.mem_of_getElem? (l := tables_1_12) (i := 231) (by decide +kernel))))))))))))))) (by decide +kernel)
theorem kw_203 : Cond.selects R_Mo y_Mo_pcall y_Mo_pcall ∈ wA := kinp 172 (by decide +kernel) (by decide +kernel)
def M_Mo_pcall_L38 : (Int32) → M ((Int32) ⊕ ((Unit))) := fun x =>
  oB (oGI 898 0) fun v43 =>
  oC (v43 ≤ x)
    (oR (Sum.inr ()))
    (oB (M_Va_set_ 7 0 (x - 1) 7 0 x) fun _ =>
    oR (Sum.inl (x + 1)))

def M_Mo_pcall_j93  : M (Unit) :=
  oB (oPI 73 0 1) fun _ =>
  oR ()

def M_Mo_pcall  : M (Unit) :=
  oB (M_Mo_push 1 (-1)) fun v3 =>
  oC (v3 = 0)
    (oB (oPI 898 0 0) fun _ =>
    oR ())
    (oB (M_Mo_ak 0) fun v21 =>
    oB (oPI 75 0 v21) fun _ =>
    oB (M_Mo_av 0) fun v30 =>
    oB (oPL 76 0 v30) fun _ =>
    oB (oW M_Mo_pcall_L38 1) fun e38 =>
    oB (oGI 898 0) fun v74 =>
    oC (v74 ≤ 0)
      (M_Mo_pcall_j93)
      (oB (oGI 898 0) fun v85 =>
      oB (oPI 898 0 (v85 - 1)) fun _ =>
      M_Mo_pcall_j93))

theorem cv_Mo_pcall : CV y_Mo_pcall b_Mo_pcall 2 none 0 := ⟨kw_202, kw_203, kw_17, k_Mo_pcall, by decide +kernel⟩
theorem lp_Mo_pcall_L38 {X : Cx} {q : PL} (g : Gd X y_Mo_pcall b_Mo_pcall 2 none 2 45 R_Mo) (x : Int32) (s : S1) (o : ((Int32) ⊕ ((Unit))) × S1) (h : M_Mo_pcall_L38 x s = some o) (hR : (Sum.elim (fun y : Int32 => ∀ ls : Array Slot, lv_has ls 2 [(0, .ref (q.1 0 0)), (1, .int y)] → WW X q o.2 38 ls []) (fun y : Unit => ∀ ls : Array Slot, lv_has ls 2 [(0, .ref (q.1 0 0))] → WW X q o.2 70 ls []) o.1)) : ∀ ls : Array Slot, lv_has ls 2 [(0, .ref (q.1 0 0)), (1, .int x)] → WW X q s 38 ls [] := by
  intro ls hl
  unfold M_Mo_pcall_L38 at h
  refine ww_iload_n (pc := 38) g.1 d_Mo_pcall_38 rfl (lv_at hl 1 rfl) ?_
  refine ww_aload_n (pc := 39) g.1 d_Mo_pcall_39 rfl (lv_at hl 0 rfl) ?_
  refine ww_gR (pc := 40) g (k := 77) cl_Mo (pz rfl (by decide)) (by decide) (Or.inl kw_188) (f := 77) (t := 7) rfl rfl rfl d_Mo_pcall_40 ?_
  refine ww_gI (pc := 43) g (k := 2) (cl_Va (Or.inl ⟨by decide, rfl⟩)) (pz rfl (by decide)) (by decide) (Or.inl kw_185) (f := 898) rfl rfl d_Mo_pcall_43 h fun v43 h => ?_
  refine ww_icmp_ge (pc := 46) (tgt := 70) g.1 d_Mo_pcall_46 (by decide) h (fun c h => ?_) (fun c h => ?_)
  · rw [oR_eq h] at hR
    exact hR ls (lv_sub hl [0] rfl)
  · refine ww_aload_n (pc := 49) g.1 d_Mo_pcall_49 rfl (lv_at hl 0 rfl) ?_
    refine ww_gR (pc := 50) g (k := 77) cl_Mo (pz rfl (by decide)) (by decide) (Or.inl kw_188) (f := 77) (t := 7) rfl rfl rfl d_Mo_pcall_50 ?_
    refine ww_iload_n (pc := 53) g.1 d_Mo_pcall_53 rfl (lv_at hl 1 rfl) ?_
    refine ww_iconst (pc := 54) g.1 (v := 1) d_Mo_pcall_54 (by decide) ?_
    refine ww_isub (pc := 55) g.1 d_Mo_pcall_55 ?_
    refine ww_aload_n (pc := 56) g.1 d_Mo_pcall_56 rfl (lv_at hl 0 rfl) ?_
    refine ww_gR (pc := 57) g (k := 77) cl_Mo (pz rfl (by decide)) (by decide) (Or.inl kw_188) (f := 77) (t := 7) rfl rfl rfl d_Mo_pcall_57 ?_
    refine ww_iload_n (pc := 60) g.1 d_Mo_pcall_60 rfl (lv_at hl 1 rfl) ?_
    obtain ⟨v61, s, hc61, h⟩ := oB_of h
    refine ww_callV (pc := 61) (rest := []) g cv_Va_set_ (Or.inl kw_201) (cl_Va (Or.inl ⟨by decide, rfl⟩)) (pz rfl (by decide)) (ct_Va_set_ (Or.inl ⟨by decide, rfl⟩) (Or.inl ⟨by decide, rfl⟩) hc61) ⟨by decide, by decide⟩ rfl hl.1 (Nat.le_of_ble_eq_true rfl) d_Mo_pcall_61 rfl ?_
    refine ww_st (st' := []) rfl ?_
    refine ww_iinc (pc := 64) g.1 (v := x + 1) (lv' := [(1, .int (x + 1)), (0, .ref (q.1 0 0))]) d_Mo_pcall_64 hl (k := 1) rfl (by rfl) (by decide) rfl fun ls hl => ?_
    refine ww_goto (pc := 67) (tgt := 38) g.1 d_Mo_pcall_67 (by decide) ?_
    rw [oR_eq h] at hR
    exact hR ls (lv_sub hl [1, 0] rfl)

theorem j_Mo_pcall_j93 {X : Cx} {q : PL} (g : Gd X y_Mo_pcall b_Mo_pcall 2 none 2 45 R_Mo) {o : (Unit) × S1} (hR : Rt X q o.2 none)  (s : S1) (ls : Array Slot) (hl : lv_has ls 2 [(0, .ref (q.1 0 0))]) (h : M_Mo_pcall_j93 s = some o) : WW X q s 93 ls [] := by
  unfold M_Mo_pcall_j93 at h
  refine ww_aload_n (pc := 93) g.1 d_Mo_pcall_93 rfl (lv_at hl 0 rfl) ?_
  refine ww_iconst (pc := 94) g.1 (v := 1) d_Mo_pcall_94 (by decide) ?_
  refine ww_pI (pc := 95) g (k := 73) cl_Mo (pz rfl (by decide)) (by decide) (Or.inl kw_77) rfl (f := 73) rfl rfl rfl rfl d_Mo_pcall_95 h fun s hs h => ?_
  exact ww_vretH (pc := 98) g h hR d_Mo_pcall_98

theorem ct_Mo_pcall {l : Launch} {P : PP} {q : PL} {s s' : S1}  {r : Unit} (h : M_Mo_pcall s = some (r, s')) : Ct l y_Mo_pcall b_Mo_pcall 2 none 2 45 P q s [.ref (q.1 0 0)] none q s' := by
  refine ct_of (by decide) (Nat.le_of_ble_eq_true rfl) fun X ls eP el g hR hl => ?_
  have hR : Rt X q ((r, s') : Unit × S1).2 none := hR
  have hl : lv_has ls 2 [(0, .ref (q.1 0 0))] := hl
  generalize (r, s') = o at h hR
  unfold M_Mo_pcall at h
  refine ww_aload_n (pc := 0) g.1 d_Mo_pcall_0 rfl (lv_at hl 0 rfl) ?_
  refine ww_iconst (pc := 1) g.1 (v := 1) d_Mo_pcall_1 (by decide) ?_
  refine ww_iconst (pc := 2) g.1 (v := (-1)) d_Mo_pcall_2 (by decide) ?_
  obtain ⟨v3, s, hc3, h⟩ := oB_of h
  refine ww_callV (pc := 3) (rest := []) g cv_Mo_push (Or.inl kw_196) cl_Mo (pz rfl (by decide)) (ct_Mo_push hc3) ⟨by decide, by decide⟩ rfl hl.1 (Nat.le_of_ble_eq_true rfl) d_Mo_pcall_3 rfl ?_
  refine ww_st (st' := [.int v3]) rfl ?_
  refine ww_if_ne (pc := 6) (tgt := 18) g.1 d_Mo_pcall_6 (by decide) h (fun c h => ?_) (fun c h => ?_)
  · refine ww_aload_n (pc := 18) g.1 d_Mo_pcall_18 rfl (lv_at hl 0 rfl) ?_
    refine ww_aload_n (pc := 19) g.1 d_Mo_pcall_19 rfl (lv_at hl 0 rfl) ?_
    refine ww_iconst (pc := 20) g.1 (v := 0) d_Mo_pcall_20 (by decide) ?_
    obtain ⟨v21, s, hc21, h⟩ := oB_of h
    refine ww_callV (pc := 21) (rest := [.ref (q.1 0 0)]) g cv_Mo_ak (Or.inl kw_197) cl_Mo (pz rfl (by decide)) (ct_Mo_ak hc21) ⟨by decide, by decide⟩ rfl hl.1 (Nat.le_of_ble_eq_true rfl) d_Mo_pcall_21 rfl ?_
    refine ww_st (st' := [.int v21, .ref (q.1 0 0)]) rfl ?_
    refine ww_pI (pc := 24) g (k := 75) cl_Mo (pz rfl (by decide)) (by decide) (Or.inl kw_198) rfl (f := 75) rfl rfl rfl rfl d_Mo_pcall_24 h fun s hs h => ?_
    refine ww_aload_n (pc := 27) g.1 d_Mo_pcall_27 rfl (lv_at hl 0 rfl) ?_
    refine ww_aload_n (pc := 28) g.1 d_Mo_pcall_28 rfl (lv_at hl 0 rfl) ?_
    refine ww_iconst (pc := 29) g.1 (v := 0) d_Mo_pcall_29 (by decide) ?_
    obtain ⟨v30, s, hc30, h⟩ := oB_of h
    refine ww_callV (pc := 30) (rest := [.ref (q.1 0 0)]) g cv_Mo_av (Or.inl kw_199) cl_Mo (pz rfl (by decide)) (ct_Mo_av hc30) ⟨by decide, by decide⟩ rfl hl.1 (Nat.le_of_ble_eq_true rfl) d_Mo_pcall_30 rfl ?_
    refine ww_st (st' := [.long v30, .ref (q.1 0 0)]) rfl ?_
    refine ww_pL (pc := 33) g (k := 76) cl_Mo (pz rfl (by decide)) (by decide) (Or.inl kw_200) rfl (f := 76) rfl rfl rfl rfl d_Mo_pcall_33 h fun s hs h => ?_
    refine ww_iconst (pc := 36) g.1 (v := 1) d_Mo_pcall_36 (by decide) ?_
    refine ww_istore_n (pc := 37) g.1 (lv' := [(1, .int 1), (0, .ref (q.1 0 0))]) d_Mo_pcall_37 rfl hl (by decide) rfl fun ls hl => ?_
    obtain ⟨e38, s1, hw, h⟩ := oB_of h
    refine oW_rule (Wh := fun (x : Int32) (s : S1) => ∀ ls : Array Slot, lv_has ls 2 [(0, .ref (q.1 0 0)), (1, .int x)] → WW X q s 38 ls []) (We := fun (e : (Unit)) (s : S1) => ∀ ls : Array Slot, lv_has ls 2 [(0, .ref (q.1 0 0))] → WW X q s 70 ls []) (fun x s o hb hc => lp_Mo_pcall_L38 (q := q) g x s o hb hc) hw ?_ ls (lv_sub hl [1, 0] rfl)
    clear hw hl
    clear ls
    intro ls hl
    generalize s1 = s at h ⊢
    refine ww_aload_n (pc := 70) g.1 d_Mo_pcall_70 rfl (lv_at hl 0 rfl) ?_
    refine ww_gR (pc := 71) g (k := 77) cl_Mo (pz rfl (by decide)) (by decide) (Or.inl kw_188) (f := 77) (t := 7) rfl rfl rfl d_Mo_pcall_71 ?_
    refine ww_gI (pc := 74) g (k := 2) (cl_Va (Or.inl ⟨by decide, rfl⟩)) (pz rfl (by decide)) (by decide) (Or.inl kw_185) (f := 898) rfl rfl d_Mo_pcall_74 h fun v74 h => ?_
    refine ww_if_le (pc := 77) (tgt := 93) g.1 d_Mo_pcall_77 (by decide) h (fun c h => ?_) (fun c h => ?_)
    · exact j_Mo_pcall_j93 g hR s ls (lv_sub hl [0] rfl) h
    · refine ww_aload_n (pc := 80) g.1 d_Mo_pcall_80 rfl (lv_at hl 0 rfl) ?_
      refine ww_gR (pc := 81) g (k := 77) cl_Mo (pz rfl (by decide)) (by decide) (Or.inl kw_188) (f := 77) (t := 7) rfl rfl rfl d_Mo_pcall_81 ?_
      refine ww_dup (pc := 84) g.1 d_Mo_pcall_84 rfl ?_
      refine ww_gI (pc := 85) g (k := 2) (cl_Va (Or.inl ⟨by decide, rfl⟩)) (pz rfl (by decide)) (by decide) (Or.inl kw_185) (f := 898) rfl rfl d_Mo_pcall_85 h fun v85 h => ?_
      refine ww_iconst (pc := 88) g.1 (v := 1) d_Mo_pcall_88 (by decide) ?_
      refine ww_isub (pc := 89) g.1 d_Mo_pcall_89 ?_
      refine ww_pI (pc := 90) g (k := 2) (cl_Va (Or.inl ⟨by decide, rfl⟩)) (pz rfl (by decide)) (by decide) (Or.inl kw_185) rfl (f := 898) rfl rfl rfl rfl d_Mo_pcall_90 h fun s hs h => ?_
      exact j_Mo_pcall_j93 g hR s ls (lv_sub hl [0] rfl) h
  · refine ww_aload_n (pc := 9) g.1 d_Mo_pcall_9 rfl (lv_at hl 0 rfl) ?_
    refine ww_gR (pc := 10) g (k := 77) cl_Mo (pz rfl (by decide)) (by decide) (Or.inl kw_188) (f := 77) (t := 7) rfl rfl rfl d_Mo_pcall_10 ?_
    refine ww_iconst (pc := 13) g.1 (v := 0) d_Mo_pcall_13 (by decide) ?_
    refine ww_pI (pc := 14) g (k := 2) (cl_Va (Or.inl ⟨by decide, rfl⟩)) (pz rfl (by decide)) (by decide) (Or.inl kw_185) rfl (f := 898) rfl rfl rfl rfl d_Mo_pcall_14 h fun s hs h => ?_
    exact ww_vretH (pc := 17) g h hR d_Mo_pcall_17

