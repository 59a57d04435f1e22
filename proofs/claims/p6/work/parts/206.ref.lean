abbrev b_Mo_move : ByteArray := prog_14_method_36_code
def y_Mo_move : MethodName := ⟨R_Mo, "move", "(III)V"⟩
abbrev w_Mo_move : List Cond := .code y_Mo_move b_Mo_move 7 none :: wA
theorem k_Mo_move : Cond.code y_Mo_move b_Mo_move 7 none ∈ wA := kinm (show _ ∈ tables_1 from (List.mem_append_right _ (List.mem_append_right _ (List.mem_append_right _ (List.mem_append_right _ (List.mem_append_right _ (List.mem_append_right _ (List.mem_append_right _ (List.mem_append_right _ (List.mem_append_right _ (List.mem_append_right _ (List.mem_append_right _ (List.mem_append_left _ (List.mem_of_getElem? (l := tables_1_12) (i := 98) (by decide +kernel))))))))))))))) (by decide +kernel)
theorem d_Mo_move_0 : decode b_Mo_move 0 = .ok (.aload_n 0, 1) := by decide +kernel
theorem d_Mo_move_1 : decode b_Mo_move 1 = .ok (.getfield 168, 3) := by decide +kernel
theorem d_Mo_move_4 : decode b_Mo_move 4 = .ok (.iload_n 1, 1) := by decide +kernel
theorem d_Mo_move_5 : decode b_Mo_move 5 = .ok (.iaload, 1) := by decide +kernel
theorem d_Mo_move_6 : decode b_Mo_move 6 = .ok (.istore 4, 2) := by decide +kernel
theorem d_Mo_move_8 : decode b_Mo_move 8 = .ok (.aload_n 0, 1) := by decide +kernel
theorem d_Mo_move_9 : decode b_Mo_move 9 = .ok (.getfield 174, 3) := by decide +kernel
theorem d_Mo_move_12 : decode b_Mo_move 12 = .ok (.iload_n 1, 1) := by decide +kernel
theorem d_Mo_move_13 : decode b_Mo_move 13 = .ok (.iaload, 1) := by decide +kernel
theorem d_Mo_move_14 : decode b_Mo_move 14 = .ok (.istore 5, 2) := by decide +kernel
theorem d_Mo_move_16 : decode b_Mo_move 16 = .ok (.aload_n 0, 1) := by decide +kernel
theorem d_Mo_move_17 : decode b_Mo_move 17 = .ok (.getfield 168, 3) := by decide +kernel
theorem d_Mo_move_20 : decode b_Mo_move 20 = .ok (.iload_n 1, 1) := by decide +kernel
theorem d_Mo_move_21 : decode b_Mo_move 21 = .ok (.iload_n 2, 1) := by decide +kernel
theorem d_Mo_move_22 : decode b_Mo_move 22 = .ok (.iastore, 1) := by decide +kernel
theorem d_Mo_move_23 : decode b_Mo_move 23 = .ok (.aload_n 0, 1) := by decide +kernel
theorem d_Mo_move_24 : decode b_Mo_move 24 = .ok (.getfield 171, 3) := by decide +kernel
theorem d_Mo_move_27 : decode b_Mo_move 27 = .ok (.iload_n 1, 1) := by decide +kernel
theorem d_Mo_move_28 : decode b_Mo_move 28 = .ok (.iload_n 3, 1) := by decide +kernel
theorem d_Mo_move_29 : decode b_Mo_move 29 = .ok (.iastore, 1) := by decide +kernel
theorem d_Mo_move_30 : decode b_Mo_move 30 = .ok (.aload_n 0, 1) := by decide +kernel
theorem d_Mo_move_31 : decode b_Mo_move 31 = .ok (.getfield 174, 3) := by decide +kernel
theorem d_Mo_move_34 : decode b_Mo_move 34 = .ok (.iload_n 1, 1) := by decide +kernel
theorem d_Mo_move_35 : decode b_Mo_move 35 = .ok (.iconst 0, 1) := by decide +kernel
theorem d_Mo_move_36 : decode b_Mo_move 36 = .ok (.iastore, 1) := by decide +kernel
theorem d_Mo_move_37 : decode b_Mo_move 37 = .ok (.aload_n 0, 1) := by decide +kernel
theorem d_Mo_move_38 : decode b_Mo_move 38 = .ok (.getfield 209, 3) := by decide +kernel
theorem d_Mo_move_41 : decode b_Mo_move 41 = .ok (.iload_n 2, 1) := by decide +kernel
theorem d_Mo_move_42 : decode b_Mo_move 42 = .ok (.iload_n 2, 1) := by decide +kernel
theorem d_Mo_move_43 : decode b_Mo_move 43 = .ok (.iload_n 3, 1) := by decide +kernel
theorem d_Mo_move_44 : decode b_Mo_move 44 = .ok (.iadd, 1) := by decide +kernel
theorem d_Mo_move_45 : decode b_Mo_move 45 = .ok (.iconst 0, 1) := by decide +kernel
theorem d_Mo_move_46 : decode b_Mo_move 46 = .ok (.invokestatic 555, 3) := by decide +kernel
theorem d_Mo_move_49 : decode b_Mo_move 49 = .ok (.iconst 0, 1) := by decide +kernel
theorem d_Mo_move_50 : decode b_Mo_move 50 = .ok (.istore 6, 2) := by decide +kernel
theorem d_Mo_move_52 : decode b_Mo_move 52 = .ok (.iload 6, 2) := by decide +kernel
theorem d_Mo_move_54 : decode b_Mo_move 54 = .ok (.iload 5, 2) := by decide +kernel
theorem d_Mo_move_56 : decode b_Mo_move 56 = .ok (.if_icmp .ge 67, 3) := by decide +kernel
theorem d_Mo_move_59 : decode b_Mo_move 59 = .ok (.aload_n 0, 1) := by decide +kernel
theorem d_Mo_move_60 : decode b_Mo_move 60 = .ok (.getfield 196, 3) := by decide +kernel
theorem d_Mo_move_63 : decode b_Mo_move 63 = .ok (.iload 4, 2) := by decide +kernel
theorem d_Mo_move_65 : decode b_Mo_move 65 = .ok (.iload 6, 2) := by decide +kernel
theorem d_Mo_move_67 : decode b_Mo_move 67 = .ok (.iadd, 1) := by decide +kernel
theorem d_Mo_move_68 : decode b_Mo_move 68 = .ok (.baload, 1) := by decide +kernel
theorem d_Mo_move_69 : decode b_Mo_move 69 = .ok (.ifCond .eq 48, 3) := by decide +kernel
theorem d_Mo_move_72 : decode b_Mo_move 72 = .ok (.aload_n 0, 1) := by decide +kernel
theorem d_Mo_move_73 : decode b_Mo_move 73 = .ok (.iload_n 1, 1) := by decide +kernel
theorem d_Mo_move_74 : decode b_Mo_move 74 = .ok (.aload_n 0, 1) := by decide +kernel
theorem d_Mo_move_75 : decode b_Mo_move 75 = .ok (.getfield 193, 3) := by decide +kernel
theorem d_Mo_move_78 : decode b_Mo_move 78 = .ok (.iload 4, 2) := by decide +kernel
theorem d_Mo_move_80 : decode b_Mo_move 80 = .ok (.iload 6, 2) := by decide +kernel
theorem d_Mo_move_82 : decode b_Mo_move 82 = .ok (.iadd, 1) := by decide +kernel
theorem d_Mo_move_83 : decode b_Mo_move 83 = .ok (.baload, 1) := by decide +kernel
theorem d_Mo_move_84 : decode b_Mo_move 84 = .ok (.aload_n 0, 1) := by decide +kernel
theorem d_Mo_move_85 : decode b_Mo_move 85 = .ok (.getfield 199, 3) := by decide +kernel
theorem d_Mo_move_88 : decode b_Mo_move 88 = .ok (.iload 4, 2) := by decide +kernel
theorem d_Mo_move_90 : decode b_Mo_move 90 = .ok (.iload 6, 2) := by decide +kernel
theorem d_Mo_move_92 : decode b_Mo_move 92 = .ok (.iadd, 1) := by decide +kernel
theorem d_Mo_move_93 : decode b_Mo_move 93 = .ok (.laload, 1) := by decide +kernel
theorem d_Mo_move_94 : decode b_Mo_move 94 = .ok (.aload_n 0, 1) := by decide +kernel
theorem d_Mo_move_95 : decode b_Mo_move 95 = .ok (.getfield 196, 3) := by decide +kernel
theorem d_Mo_move_98 : decode b_Mo_move 98 = .ok (.iload 4, 2) := by decide +kernel
theorem d_Mo_move_100 : decode b_Mo_move 100 = .ok (.iload 6, 2) := by decide +kernel
theorem d_Mo_move_102 : decode b_Mo_move 102 = .ok (.iadd, 1) := by decide +kernel
theorem d_Mo_move_103 : decode b_Mo_move 103 = .ok (.baload, 1) := by decide +kernel
theorem d_Mo_move_104 : decode b_Mo_move 104 = .ok (.aload_n 0, 1) := by decide +kernel
theorem d_Mo_move_105 : decode b_Mo_move 105 = .ok (.getfield 203, 3) := by decide +kernel
theorem d_Mo_move_108 : decode b_Mo_move 108 = .ok (.iload 4, 2) := by decide +kernel
theorem d_Mo_move_110 : decode b_Mo_move 110 = .ok (.iload 6, 2) := by decide +kernel
theorem d_Mo_move_112 : decode b_Mo_move 112 = .ok (.iadd, 1) := by decide +kernel
theorem d_Mo_move_113 : decode b_Mo_move 113 = .ok (.laload, 1) := by decide +kernel
theorem d_Mo_move_114 : decode b_Mo_move 114 = .ok (.invokevirtual 561, 3) := by decide +kernel
theorem d_Mo_move_117 : decode b_Mo_move 117 = .ok (.iinc 6 1, 3) := by decide +kernel
theorem d_Mo_move_120 : decode b_Mo_move 120 = .ok (.goto (-68), 3) := by decide +kernel
theorem d_Mo_move_123 : decode b_Mo_move 123 = .ok (.return_, 1) := by decide +kernel
abbrev b_Mo_append : ByteArray := prog_14_method_35_code
def y_Mo_append : MethodName := ⟨R_Mo, "append", "(IIJIJ)V"⟩
abbrev w_Mo_append : List Cond := .code y_Mo_append b_Mo_append 11 none :: wA
theorem k_Mo_append : Cond.code y_Mo_append b_Mo_append 11 none ∈ wA := kinm (show _ ∈ tables_1 from (List.mem_append_right _ (List.mem_append_right _ (List.mem_append_right _ (List.mem_append_right _ (List.mem_append_right _ (List.mem_append_right _ (List.mem_append_right _ (List.mem_append_right _ (List.mem_append_right _ (List.mem_append_right _ (List.mem_append_right _ (List.mem_append_left _ (List.mem_of_getElem? (l := tables_1_12) (i := 103) (by decide +kernel))))))))))))))) (by decide +kernel)
theorem d_Mo_append_0 : decode b_Mo_append 0 = .ok (.aload_n 0, 1) := by decide +kernel
theorem d_Mo_append_1 : decode b_Mo_append 1 = .ok (.getfield 174, 3) := by decide +kernel
theorem d_Mo_append_4 : decode b_Mo_append 4 = .ok (.iload_n 1, 1) := by decide +kernel
theorem d_Mo_append_5 : decode b_Mo_append 5 = .ok (.dup2, 1) := by decide +kernel
theorem d_Mo_append_6 : decode b_Mo_append 6 = .ok (.iaload, 1) := by decide +kernel
theorem d_Mo_append_7 : decode b_Mo_append 7 = .ok (.dup_x2, 1) := by decide +kernel
theorem d_Mo_append_8 : decode b_Mo_append 8 = .ok (.iconst 1, 1) := by decide +kernel
theorem d_Mo_append_9 : decode b_Mo_append 9 = .ok (.iadd, 1) := by decide +kernel
theorem d_Mo_append_10 : decode b_Mo_append 10 = .ok (.iastore, 1) := by decide +kernel
theorem d_Mo_append_11 : decode b_Mo_append 11 = .ok (.istore 8, 2) := by decide +kernel
theorem d_Mo_append_13 : decode b_Mo_append 13 = .ok (.aload_n 0, 1) := by decide +kernel
theorem d_Mo_append_14 : decode b_Mo_append 14 = .ok (.getfield 168, 3) := by decide +kernel
theorem d_Mo_append_17 : decode b_Mo_append 17 = .ok (.iload_n 1, 1) := by decide +kernel
theorem d_Mo_append_18 : decode b_Mo_append 18 = .ok (.iaload, 1) := by decide +kernel
theorem d_Mo_append_19 : decode b_Mo_append 19 = .ok (.iload 8, 2) := by decide +kernel
theorem d_Mo_append_21 : decode b_Mo_append 21 = .ok (.iadd, 1) := by decide +kernel
theorem d_Mo_append_22 : decode b_Mo_append 22 = .ok (.istore 9, 2) := by decide +kernel
theorem d_Mo_append_24 : decode b_Mo_append 24 = .ok (.aload_n 0, 1) := by decide +kernel
theorem d_Mo_append_25 : decode b_Mo_append 25 = .ok (.getfield 193, 3) := by decide +kernel
theorem d_Mo_append_28 : decode b_Mo_append 28 = .ok (.iload 9, 2) := by decide +kernel
theorem d_Mo_append_30 : decode b_Mo_append 30 = .ok (.iload_n 2, 1) := by decide +kernel
theorem d_Mo_append_31 : decode b_Mo_append 31 = .ok (.i2b, 1) := by decide +kernel
theorem d_Mo_append_32 : decode b_Mo_append 32 = .ok (.bastore, 1) := by decide +kernel
theorem d_Mo_append_33 : decode b_Mo_append 33 = .ok (.aload_n 0, 1) := by decide +kernel
theorem d_Mo_append_34 : decode b_Mo_append 34 = .ok (.getfield 199, 3) := by decide +kernel
theorem d_Mo_append_37 : decode b_Mo_append 37 = .ok (.iload 9, 2) := by decide +kernel
theorem d_Mo_append_39 : decode b_Mo_append 39 = .ok (.lload_n 3, 1) := by decide +kernel
theorem d_Mo_append_40 : decode b_Mo_append 40 = .ok (.lastore, 1) := by decide +kernel
theorem d_Mo_append_41 : decode b_Mo_append 41 = .ok (.aload_n 0, 1) := by decide +kernel
theorem d_Mo_append_42 : decode b_Mo_append 42 = .ok (.getfield 196, 3) := by decide +kernel
theorem d_Mo_append_45 : decode b_Mo_append 45 = .ok (.iload 9, 2) := by decide +kernel
theorem d_Mo_append_47 : decode b_Mo_append 47 = .ok (.iload 5, 2) := by decide +kernel
theorem d_Mo_append_49 : decode b_Mo_append 49 = .ok (.i2b, 1) := by decide +kernel
theorem d_Mo_append_50 : decode b_Mo_append 50 = .ok (.bastore, 1) := by decide +kernel
theorem d_Mo_append_51 : decode b_Mo_append 51 = .ok (.aload_n 0, 1) := by decide +kernel
theorem d_Mo_append_52 : decode b_Mo_append 52 = .ok (.getfield 203, 3) := by decide +kernel
theorem d_Mo_append_55 : decode b_Mo_append 55 = .ok (.iload 9, 2) := by decide +kernel
theorem d_Mo_append_57 : decode b_Mo_append 57 = .ok (.lload 6, 2) := by decide +kernel
theorem d_Mo_append_59 : decode b_Mo_append 59 = .ok (.lastore, 1) := by decide +kernel
theorem d_Mo_append_60 : decode b_Mo_append 60 = .ok (.aload_n 0, 1) := by decide +kernel
theorem d_Mo_append_61 : decode b_Mo_append 61 = .ok (.getfield 168, 3) := by decide +kernel
theorem d_Mo_append_64 : decode b_Mo_append 64 = .ok (.iload_n 1, 1) := by decide +kernel
theorem d_Mo_append_65 : decode b_Mo_append 65 = .ok (.iaload, 1) := by decide +kernel
theorem d_Mo_append_66 : decode b_Mo_append 66 = .ok (.aload_n 0, 1) := by decide +kernel
theorem d_Mo_append_67 : decode b_Mo_append 67 = .ok (.aload_n 0, 1) := by decide +kernel
theorem d_Mo_append_68 : decode b_Mo_append 68 = .ok (.getfield 171, 3) := by decide +kernel
theorem d_Mo_append_71 : decode b_Mo_append 71 = .ok (.iload_n 1, 1) := by decide +kernel
theorem d_Mo_append_72 : decode b_Mo_append 72 = .ok (.iaload, 1) := by decide +kernel
theorem d_Mo_append_73 : decode b_Mo_append 73 = .ok (.iload_n 2, 1) := by decide +kernel
theorem d_Mo_append_74 : decode b_Mo_append 74 = .ok (.lload_n 3, 1) := by decide +kernel
theorem d_Mo_append_75 : decode b_Mo_append 75 = .ok (.invokevirtual 548, 3) := by decide +kernel
theorem d_Mo_append_78 : decode b_Mo_append 78 = .ok (.iadd, 1) := by decide +kernel
theorem d_Mo_append_79 : decode b_Mo_append 79 = .ok (.istore 10, 2) := by decide +kernel
theorem d_Mo_append_81 : decode b_Mo_append 81 = .ok (.aload_n 0, 1) := by decide +kernel
theorem d_Mo_append_82 : decode b_Mo_append 82 = .ok (.getfield 206, 3) := by decide +kernel
theorem d_Mo_append_85 : decode b_Mo_append 85 = .ok (.iload 9, 2) := by decide +kernel
theorem d_Mo_append_87 : decode b_Mo_append 87 = .ok (.aload_n 0, 1) := by decide +kernel
theorem d_Mo_append_88 : decode b_Mo_append 88 = .ok (.getfield 209, 3) := by decide +kernel
theorem d_Mo_append_91 : decode b_Mo_append 91 = .ok (.iload 10, 2) := by decide +kernel
theorem d_Mo_append_93 : decode b_Mo_append 93 = .ok (.iaload, 1) := by decide +kernel
theorem d_Mo_append_94 : decode b_Mo_append 94 = .ok (.iastore, 1) := by decide +kernel
theorem d_Mo_append_95 : decode b_Mo_append 95 = .ok (.aload_n 0, 1) := by decide +kernel
theorem d_Mo_append_96 : decode b_Mo_append 96 = .ok (.getfield 209, 3) := by decide +kernel
theorem d_Mo_append_99 : decode b_Mo_append 99 = .ok (.iload 10, 2) := by decide +kernel
theorem d_Mo_append_101 : decode b_Mo_append 101 = .ok (.iload 8, 2) := by decide +kernel
theorem d_Mo_append_103 : decode b_Mo_append 103 = .ok (.iconst 1, 1) := by decide +kernel
theorem d_Mo_append_104 : decode b_Mo_append 104 = .ok (.iadd, 1) := by decide +kernel
theorem d_Mo_append_105 : decode b_Mo_append 105 = .ok (.iastore, 1) := by decide +kernel
theorem d_Mo_append_106 : decode b_Mo_append 106 = .ok (.return_, 1) := by decide +kernel
theorem kw_126 : Cond.fieldLink R_Mo 174 "LuaMachineModel" "third" "[I" ∈ wA := kinm (show _ ∈ tables_1 from (List.mem_append_right _ (List.mem_append_right _ (List.mem_append_right _ (List.mem_append_right _ (List.mem_append_right _ (List.mem_append_right _ (List.mem_append_right _ (List.mem_append_right _ (List.mem_append_right _ (List.mem_append_left _ (List.mem_of_getElem? (l := tables_1_10) (i := 107) (by decide +kernel))))))))))))) (by decide +kernel)
theorem kw_127 : Cond.fieldLink R_Mo 193 "LuaMachineModel" "ek" "[B" ∈ wA := kinm (show _ ∈ tables_1 from (List.mem_append_right _ (List.mem_append_right _ (List.mem_append_right _ (List.mem_append_right _ (List.mem_append_right _ (List.mem_append_right _ (List.mem_append_right _ (List.mem_append_right _ (List.mem_append_right _ (List.mem_append_left _ (List.mem_of_getElem? (l := tables_1_10) (i := 113) (by decide +kernel))))))))))))) (by decide +kernel)
theorem kw_128 : Cond.fieldLink R_Mo 199 "LuaMachineModel" "ev" "[J" ∈ wA := kinm (show _ ∈ tables_1 from (List.mem_append_right _ (List.mem_append_right _ (List.mem_append_right _ (List.mem_append_right _ (List.mem_append_right _ (List.mem_append_right _ (List.mem_append_right _ (List.mem_append_right _ (List.mem_append_right _ (List.mem_append_left _ (List.mem_of_getElem? (l := tables_1_10) (i := 115) (by decide +kernel))))))))))))) (by decide +kernel)
theorem kw_129 : Cond.fieldLink R_Mo 196 "LuaMachineModel" "vk" "[B" ∈ wA := kinm (show _ ∈ tables_1 from (List.mem_append_right _ (List.mem_append_right _ (List.mem_append_right _ (List.mem_append_right _ (List.mem_append_right _ (List.mem_append_right _ (List.mem_append_right _ (List.mem_append_right _ (List.mem_append_right _ (List.mem_append_left _ (List.mem_of_getElem? (l := tables_1_10) (i := 114) (by decide +kernel))))))))))))) (by decide +kernel)
theorem kw_130 : Cond.fieldLink R_Mo 203 "LuaMachineModel" "vv" "[J" ∈ wA := kinm (show _ ∈ tables_1 from (List.mem_append_right _ (List.mem_append_right _ (List.mem_append_right _ (List.mem_append_right _ (List.mem_append_right _ (List.mem_append_right _ (List.mem_append_right _ (List.mem_append_right _ (List.mem_append_right _ (List.mem_append_left _ (List.mem_of_getElem? (l := tables_1_10) (i := 116) (by decide +kernel))))))))))))) (by decide +kernel)
theorem kw_131 : Cond.methodLink R_Mo 548 y_Mo_slot ∈ wA := kinm (show _ ∈ tables_1 from (List.mem_append_right _ (List.mem_append_right _ (List.mem_append_right _ (List.mem_append_right _ (List.mem_append_right _ (List.mem_append_right _ (List.mem_append_right _ (List.mem_append_right _ (List.mem_append_right _ (List.mem_append_right _ (List.mem_append_right _ (List.mem_append_left _ (List.mem_of_getElem? (l := tables_1_12) (i := 89) (by decide +kernel))))))))))))))) (by decide +kernel)
theorem kw_132 : Cond.fieldLink R_Mo 206 "LuaMachineModel" "follow" "[I" ∈ wA := kinm (show _ ∈ tables_1 from (List.mem_append_right _ (List.mem_append_right _ (List.mem_append_right _ (List.mem_append_right _ (List.mem_append_right _ (List.mem_append_right _ (List.mem_append_right _ (List.mem_append_right _ (List.mem_append_right _ (List.mem_append_left _ (List.mem_of_getElem? (l := tables_1_10) (i := 117) (by decide +kernel))))))))))))) (by decide +kernel)
theorem kw_133 : Cond.fieldLink R_Mo 209 "LuaMachineModel" "bucket" "[I" ∈ wA := kinm (show _ ∈ tables_1 from (List.mem_append_right _ (List.mem_append_right _ (List.mem_append_right _ (List.mem_append_right _ (List.mem_append_right _ (List.mem_append_right _ (List.mem_append_right _ (List.mem_append_right _ (List.mem_append_right _ (List.mem_append_left _ (List.mem_of_getElem? (l := tables_1_10) (i := 118) (by decide +kernel))))))))))))) (by decide +kernel)
theorem kw_134 : Cond.instanceMethod y_Mo_append ∈ wA := kinm (show _ ∈ tables_1 from (List.mem_append_right _ (List.mem_append_right _ (List.mem_append_right _ (List.mem_append_right _ (List.mem_append_right _ (List.mem_append_right _ (List.mem_append_right _ (List.mem_append_right _ (List.mem_append_right _ (List.mem_append_right _ (List.mem_append_right _ (List.mem_append_left _ (List.mem_of_getElem? (l := tables_1_12) (i := 102) (by decide +kernel))))))))))))))) (by decide +kernel)
theorem kw_135 : Cond.selects R_Mo y_Mo_append y_Mo_append ∈ wA := kinp 150 (by decide +kernel) (by decide +kernel)
def M_Mo_append (l1 : Int32) (l2 : Int32) (l3 : Int64) (l5 : Int32) (l6 : Int64) : M (Unit) :=
  oB (oAI 64 4100 0 l1) fun v6 =>
  oB (oSI 64 4100 0 l1 (v6 + 1)) fun _ =>
  oB (oAI 62 4100 0 l1) fun v18 =>
  oL (v18 + v6) fun l9_22 =>
  oB (oGI 8959 0) fun v25 =>
  oB (oK (v25 = 1)) fun _ =>
  oB (oSI 69 300000 0 l9_22 l2.toInt8.toInt32.toInt8.toInt32) fun _ =>
  oB (oGI 9215 0) fun v34 =>
  oB (oK (v34 = 1)) fun _ =>
  oB (oSL 71 300000 0 l9_22 l3) fun _ =>
  oB (oGI 9087 0) fun v42 =>
  oB (oK (v42 = 1)) fun _ =>
  oB (oSI 70 300000 0 l9_22 l5.toInt8.toInt32.toInt8.toInt32) fun _ =>
  oB (oGI 9343 0) fun v52 =>
  oB (oK (v52 = 1)) fun _ =>
  oB (oSL 72 300000 0 l9_22 l6) fun _ =>
  oB (oAI 62 4100 0 l1) fun v65 =>
  oB (oAI 63 4100 0 l1) fun v72 =>
  oB (M_Mo_slot v72 l2 l3) fun v75 =>
  oL (v65 + v75) fun l10_79 =>
  oB (oGI 9471 0) fun v82 =>
  oB (oK (v82 = 1)) fun _ =>
  oB (oGI 9599 0) fun v88 =>
  oB (oK (v88 = 1)) fun _ =>
  oB (oAI 74 300000 0 l10_79) fun v93 =>
  oB (oSI 73 300000 0 l9_22 v93) fun _ =>
  oB (oGI 9599 0) fun v96 =>
  oB (oK (v96 = 1)) fun _ =>
  oB (oSI 74 300000 0 l10_79 (v6 + 1)) fun _ =>
  oR ()

theorem cv_Mo_append : CV y_Mo_append b_Mo_append 11 none 5 := ⟨kw_134, kw_135, kw_17, k_Mo_append, by decide +kernel⟩
theorem ct_Mo_append {l : Launch} {P : PP} {q : PL} {s s' : S1} {l1 : Int32} {l2 : Int32} {l3 : Int64} {l5 : Int32} {l6 : Int64} {r : Unit} (h : M_Mo_append l1 l2 l3 l5 l6 s = some (r, s')) : Ct l y_Mo_append b_Mo_append 11 none 2 49 P q s [.ref (q.1 0 0), .int l1, .int l2, .long l3, .int l5, .long l6] none q s' := by
  refine ct_of (by decide) (Nat.le_of_ble_eq_true rfl) fun X ls eP el g hR hl => ?_
  have hR : Rt X q ((r, s') : Unit × S1).2 none := hR
  have hl : lv_has ls 11 [(0, .ref (q.1 0 0)), (1, .int l1), (2, .int l2), (3, .long l3), (5, .int l5), (6, .long l6)] := hl
  generalize (r, s') = o at h hR
  unfold M_Mo_append at h
  refine ww_aload_n (pc := 0) g.1 d_Mo_append_0 rfl (lv_at hl 0 rfl) ?_
  refine ww_gR (pc := 1) g (k := 51) cl_Mo (pz rfl (by decide)) (by decide) (Or.inl kw_126) (f := 51) (t := 64) rfl rfl rfl d_Mo_append_1 ?_
  refine ww_iload_n (pc := 4) g.1 d_Mo_append_4 rfl (lv_at hl 1 rfl) ?_
  refine ww_dup2_11 (pc := 5) g.1 d_Mo_append_5 rfl rfl ?_
  refine ww_ai (pc := 6) g (pz rfl (by decide)) rfl rfl d_Mo_append_6 h fun v6 h => ?_
  refine ww_dup_x2 (pc := 7) g.1 d_Mo_append_7 rfl rfl rfl ?_
  refine ww_iconst (pc := 8) g.1 (v := 1) d_Mo_append_8 (by decide) ?_
  refine ww_iadd (pc := 9) g.1 d_Mo_append_9 ?_
  refine ww_si (pc := 10) g (pz rfl (by decide)) rfl rfl d_Mo_append_10 h fun s hs h => ?_
  refine ww_istore (pc := 11) g.1 (lv' := [(8, .int v6), (0, .ref (q.1 0 0)), (1, .int l1), (2, .int l2), (3, .long l3), (5, .int l5), (6, .long l6)]) d_Mo_append_11 hl (by decide) rfl fun ls hl => ?_
  refine ww_aload_n (pc := 13) g.1 d_Mo_append_13 rfl (lv_at hl 1 rfl) ?_
  refine ww_gR (pc := 14) g (k := 49) cl_Mo (pz rfl (by decide)) (by decide) (Or.inl kw_89) (f := 49) (t := 62) rfl rfl rfl d_Mo_append_14 ?_
  refine ww_iload_n (pc := 17) g.1 d_Mo_append_17 rfl (lv_at hl 2 rfl) ?_
  refine ww_ai (pc := 18) g (pz rfl (by decide)) rfl rfl d_Mo_append_18 h fun v18 h => ?_
  refine ww_iload (pc := 19) g.1 d_Mo_append_19 (lv_at hl 0 rfl) ?_
  refine ww_iadd (pc := 21) g.1 d_Mo_append_21 ?_
  refine ww_leti h fun l9_22 h => ?_
  refine ww_istore (pc := 22) g.1 (lv' := [(9, .int l9_22), (8, .int v6), (0, .ref (q.1 0 0)), (1, .int l1), (2, .int l2), (3, .long l3), (5, .int l5), (6, .long l6)]) d_Mo_append_22 hl (by decide) rfl fun ls hl => ?_
  refine ww_aload_n (pc := 24) g.1 d_Mo_append_24 rfl (lv_at hl 2 rfl) ?_
  refine ww_g5 (pc := 25) g (k := 57) cl_Mo (pz rfl (by decide)) (by decide) (Or.inl kw_127) (f := 57) (t := 69) (f2 := 8959) rfl rfl rfl rfl d_Mo_append_25 h fun v25 hv25 h => ?_
  refine ww_ok h fun cv25 h => ?_
  refine ww_dn cv25 ?_
  have pd25 : prs s 69 0 := pd (f := 8959) rfl (by decide) hv25 cv25
  refine ww_iload (pc := 28) g.1 d_Mo_append_28 (lv_at hl 0 rfl) ?_
  refine ww_iload_n (pc := 30) g.1 d_Mo_append_30 rfl (lv_at hl 4 rfl) ?_
  refine ww_i2b (pc := 31) g.1 (v := l2.toInt8.toInt32) d_Mo_append_31 rfl ?_
  refine ww_sb (pc := 32) g pd25 rfl rfl d_Mo_append_32 h fun s hs h => ?_
  refine ww_aload_n (pc := 33) g.1 d_Mo_append_33 rfl (lv_at hl 2 rfl) ?_
  refine ww_g5 (pc := 34) g (k := 59) cl_Mo (pz rfl (by decide)) (by decide) (Or.inl kw_128) (f := 59) (t := 71) (f2 := 9215) rfl rfl rfl rfl d_Mo_append_34 h fun v34 hv34 h => ?_
  refine ww_ok h fun cv34 h => ?_
  refine ww_dn cv34 ?_
  have pd34 : prs s 71 0 := pd (f := 9215) rfl (by decide) hv34 cv34
  refine ww_iload (pc := 37) g.1 d_Mo_append_37 (lv_at hl 0 rfl) ?_
  refine ww_lload_n (pc := 39) g.1 d_Mo_append_39 rfl (lv_at hl 5 rfl) ?_
  refine ww_sl (pc := 40) g pd34 rfl rfl d_Mo_append_40 h fun s hs h => ?_
  refine ww_aload_n (pc := 41) g.1 d_Mo_append_41 rfl (lv_at hl 2 rfl) ?_
  refine ww_g5 (pc := 42) g (k := 58) cl_Mo (pz rfl (by decide)) (by decide) (Or.inl kw_129) (f := 58) (t := 70) (f2 := 9087) rfl rfl rfl rfl d_Mo_append_42 h fun v42 hv42 h => ?_
  refine ww_ok h fun cv42 h => ?_
  refine ww_dn cv42 ?_
  have pd42 : prs s 70 0 := pd (f := 9087) rfl (by decide) hv42 cv42
  refine ww_iload (pc := 45) g.1 d_Mo_append_45 (lv_at hl 0 rfl) ?_
  refine ww_iload (pc := 47) g.1 d_Mo_append_47 (lv_at hl 6 rfl) ?_
  refine ww_i2b (pc := 49) g.1 (v := l5.toInt8.toInt32) d_Mo_append_49 rfl ?_
  refine ww_sb (pc := 50) g pd42 rfl rfl d_Mo_append_50 h fun s hs h => ?_
  refine ww_aload_n (pc := 51) g.1 d_Mo_append_51 rfl (lv_at hl 2 rfl) ?_
  refine ww_g5 (pc := 52) g (k := 60) cl_Mo (pz rfl (by decide)) (by decide) (Or.inl kw_130) (f := 60) (t := 72) (f2 := 9343) rfl rfl rfl rfl d_Mo_append_52 h fun v52 hv52 h => ?_
  refine ww_ok h fun cv52 h => ?_
  refine ww_dn cv52 ?_
  have pd52 : prs s 72 0 := pd (f := 9343) rfl (by decide) hv52 cv52
  refine ww_iload (pc := 55) g.1 d_Mo_append_55 (lv_at hl 0 rfl) ?_
  refine ww_lload (pc := 57) g.1 d_Mo_append_57 (lv_at hl 7 rfl) ?_
  refine ww_sl (pc := 59) g pd52 rfl rfl d_Mo_append_59 h fun s hs h => ?_
  refine ww_aload_n (pc := 60) g.1 d_Mo_append_60 rfl (lv_at hl 2 rfl) ?_
  refine ww_gR (pc := 61) g (k := 49) cl_Mo (pz rfl (by decide)) (by decide) (Or.inl kw_89) (f := 49) (t := 62) rfl rfl rfl d_Mo_append_61 ?_
  refine ww_iload_n (pc := 64) g.1 d_Mo_append_64 rfl (lv_at hl 3 rfl) ?_
  refine ww_ai (pc := 65) g (pz rfl (by decide)) rfl rfl d_Mo_append_65 h fun v65 h => ?_
  refine ww_aload_n (pc := 66) g.1 d_Mo_append_66 rfl (lv_at hl 2 rfl) ?_
  refine ww_aload_n (pc := 67) g.1 d_Mo_append_67 rfl (lv_at hl 2 rfl) ?_
  refine ww_gR (pc := 68) g (k := 50) cl_Mo (pz rfl (by decide)) (by decide) (Or.inl kw_93) (f := 50) (t := 63) rfl rfl rfl d_Mo_append_68 ?_
  refine ww_iload_n (pc := 71) g.1 d_Mo_append_71 rfl (lv_at hl 3 rfl) ?_
  refine ww_ai (pc := 72) g (pz rfl (by decide)) rfl rfl d_Mo_append_72 h fun v72 h => ?_
  refine ww_iload_n (pc := 73) g.1 d_Mo_append_73 rfl (lv_at hl 4 rfl) ?_
  refine ww_lload_n (pc := 74) g.1 d_Mo_append_74 rfl (lv_at hl 5 rfl) ?_
  obtain ⟨v75, s, hc75, h⟩ := oB_of h
  refine ww_callV (pc := 75) (rest := [.int v65]) g cv_Mo_slot (Or.inl kw_131) cl_Mo (pz rfl (by decide)) (ct_Mo_slot hc75) ⟨by decide, by decide⟩ rfl hl.1 (Nat.le_of_ble_eq_true rfl) d_Mo_append_75 rfl ?_
  refine ww_st (st' := [.int v75, .int v65]) rfl ?_
  refine ww_iadd (pc := 78) g.1 d_Mo_append_78 ?_
  refine ww_leti h fun l10_79 h => ?_
  refine ww_istore (pc := 79) g.1 (lv' := [(10, .int l10_79), (9, .int l9_22), (8, .int v6), (0, .ref (q.1 0 0)), (1, .int l1), (2, .int l2), (3, .long l3), (5, .int l5), (6, .long l6)]) d_Mo_append_79 hl (by decide) rfl fun ls hl => ?_
  refine ww_aload_n (pc := 81) g.1 d_Mo_append_81 rfl (lv_at hl 3 rfl) ?_
  refine ww_g5 (pc := 82) g (k := 61) cl_Mo (pz rfl (by decide)) (by decide) (Or.inl kw_132) (f := 61) (t := 73) (f2 := 9471) rfl rfl rfl rfl d_Mo_append_82 h fun v82 hv82 h => ?_
  refine ww_ok h fun cv82 h => ?_
  refine ww_dn cv82 ?_
  have pd82 : prs s 73 0 := pd (f := 9471) rfl (by decide) hv82 cv82
  refine ww_iload (pc := 85) g.1 d_Mo_append_85 (lv_at hl 1 rfl) ?_
  refine ww_aload_n (pc := 87) g.1 d_Mo_append_87 rfl (lv_at hl 3 rfl) ?_
  refine ww_g5 (pc := 88) g (k := 62) cl_Mo (pz rfl (by decide)) (by decide) (Or.inl kw_133) (f := 62) (t := 74) (f2 := 9599) rfl rfl rfl rfl d_Mo_append_88 h fun v88 hv88 h => ?_
  refine ww_ok h fun cv88 h => ?_
  refine ww_dn cv88 ?_
  have pd88 : prs s 74 0 := pd (f := 9599) rfl (by decide) hv88 cv88
  refine ww_iload (pc := 91) g.1 d_Mo_append_91 (lv_at hl 0 rfl) ?_
  refine ww_ai (pc := 93) g pd88 rfl rfl d_Mo_append_93 h fun v93 h => ?_
  refine ww_si (pc := 94) g pd82 rfl rfl d_Mo_append_94 h fun s hs h => ?_
  refine ww_aload_n (pc := 95) g.1 d_Mo_append_95 rfl (lv_at hl 3 rfl) ?_
  refine ww_g5 (pc := 96) g (k := 62) cl_Mo (pz rfl (by decide)) (by decide) (Or.inl kw_133) (f := 62) (t := 74) (f2 := 9599) rfl rfl rfl rfl d_Mo_append_96 h fun v96 hv96 h => ?_
  refine ww_ok h fun cv96 h => ?_
  refine ww_dn cv96 ?_
  have pd96 : prs s 74 0 := pd (f := 9599) rfl (by decide) hv96 cv96
  refine ww_iload (pc := 99) g.1 d_Mo_append_99 (lv_at hl 0 rfl) ?_
  refine ww_iload (pc := 101) g.1 d_Mo_append_101 (lv_at hl 2 rfl) ?_
  refine ww_iconst (pc := 103) g.1 (v := 1) d_Mo_append_103 (by decide) ?_
  refine ww_iadd (pc := 104) g.1 d_Mo_append_104 ?_
  refine ww_si (pc := 105) g pd96 rfl rfl d_Mo_append_105 h fun s hs h => ?_
  exact ww_vretH (pc := 106) g h hR d_Mo_append_106

abbrev b_Va_add : ByteArray := prog_16_method_2_code
def y_Va_add : MethodName := ⟨R_Va, "add", "(IJ)V"⟩
abbrev w_Va_add : List Cond := .code y_Va_add b_Va_add 4 none :: wA
theorem k_Va_add : Cond.code y_Va_add b_Va_add 4 none ∈ wA := kinm (show _ ∈ tables_1 from (List.mem_append_right _ (List.mem_append_right _ (List.mem_append_right _ (List.mem_append_right _ (List.mem_append_right _ (List.mem_append_right _ (List.mem_append_right _ (List.mem_append_right _ (List.mem_append_right _ (List.mem_append_right _ (List.mem_append_right _ (List.mem_append_left _ (List.mem_of_getElem? (l := tables_1_12) (i := 107) (by decide +kernel))))))))))))))) (by decide +kernel)
theorem d_Va_add_0 : decode b_Va_add 0 = .ok (.aload_n 0, 1) := by decide +kernel
theorem d_Va_add_1 : decode b_Va_add 1 = .ok (.getfield 13, 3) := by decide +kernel
theorem d_Va_add_4 : decode b_Va_add 4 = .ok (.aload_n 0, 1) := by decide +kernel
theorem d_Va_add_5 : decode b_Va_add 5 = .ok (.getfield 7, 3) := by decide +kernel
theorem d_Va_add_8 : decode b_Va_add 8 = .ok (.iload_n 1, 1) := by decide +kernel
theorem d_Va_add_9 : decode b_Va_add 9 = .ok (.i2b, 1) := by decide +kernel
theorem d_Va_add_10 : decode b_Va_add 10 = .ok (.bastore, 1) := by decide +kernel
theorem d_Va_add_11 : decode b_Va_add 11 = .ok (.aload_n 0, 1) := by decide +kernel
theorem d_Va_add_12 : decode b_Va_add 12 = .ok (.getfield 17, 3) := by decide +kernel
theorem d_Va_add_15 : decode b_Va_add 15 = .ok (.aload_n 0, 1) := by decide +kernel
theorem d_Va_add_16 : decode b_Va_add 16 = .ok (.dup, 1) := by decide +kernel
theorem d_Va_add_17 : decode b_Va_add 17 = .ok (.getfield 7, 3) := by decide +kernel
theorem d_Va_add_20 : decode b_Va_add 20 = .ok (.dup_x1, 1) := by decide +kernel
theorem d_Va_add_21 : decode b_Va_add 21 = .ok (.iconst 1, 1) := by decide +kernel
theorem d_Va_add_22 : decode b_Va_add 22 = .ok (.iadd, 1) := by decide +kernel
theorem d_Va_add_23 : decode b_Va_add 23 = .ok (.putfield 7, 3) := by decide +kernel
theorem d_Va_add_26 : decode b_Va_add 26 = .ok (.lload_n 2, 1) := by decide +kernel
theorem d_Va_add_27 : decode b_Va_add 27 = .ok (.lastore, 1) := by decide +kernel
theorem d_Va_add_28 : decode b_Va_add 28 = .ok (.return_, 1) := by decide +kernel
theorem kw_136 : Cond.fieldLink R_Va 7 "LuaMachineModel$Values" "n" "I" ∈ wA := kinm (show _ ∈ tables_1 from (List.mem_append_right _ (List.mem_append_right _ (List.mem_append_right _ (List.mem_append_right _ (List.mem_append_right _ (List.mem_append_right _ (List.mem_append_right _ (List.mem_append_right _ (List.mem_append_left _ (List.mem_of_getElem? (l := tables_1_9) (i := 126) (by decide +kernel)))))))))))) (by decide +kernel)
theorem kw_137 : Cond.instanceMethod y_Va_add ∈ wA := kinm (show _ ∈ tables_1 from (List.mem_append_right _ (List.mem_append_right _ (List.mem_append_right _ (List.mem_append_right _ (List.mem_append_right _ (List.mem_append_right _ (List.mem_append_right _ (List.mem_append_right _ (List.mem_append_right _ (List.mem_append_right _ (List.mem_append_right _ (List.mem_append_left _ (List.mem_of_getElem? (l := tables_1_12) (i := 105) (by decide +kernel))))))))))))))) (by decide +kernel)
theorem kw_138 : Cond.selects R_Va y_Va_add y_Va_add ∈ wA := kinm (show _ ∈ tables_1 from (List.mem_append_right _ (List.mem_append_right _ (List.mem_append_right _ (List.mem_append_right _ (List.mem_append_right _ (List.mem_append_right _ (List.mem_append_right _ (List.mem_append_right _ (List.mem_append_right _ (List.mem_append_right _ (List.mem_append_right _ (List.mem_append_left _ (List.mem_of_getElem? (l := tables_1_12) (i := 106) (by decide +kernel))))))))))))))) (by decide +kernel)
def M_Va_add (l0r : Nat) (l0 : Int32) (l1 : Int32) (l2 : Int64) : M (Unit) :=
  oB (oGI (128 * l0r + 2) l0) fun v5 =>
  oB (oSI (l0r + 1) (lnI (l0r + 1)) l0 v5 l1.toInt8.toInt32.toInt8.toInt32) fun _ =>
  oB (oGI (128 * l0r + 2) l0) fun v17 =>
  oB (oPI (128 * l0r + 2) l0 (v17 + 1)) fun _ =>
  oB (oSL (l0r + 2) (lnI (l0r + 2)) l0 v17 l2) fun _ =>
  oR ()

theorem cv_Va_add : CV y_Va_add b_Va_add 4 none 2 := ⟨kw_137, kw_138, kw_49, k_Va_add, by decide +kernel⟩
theorem ct_Va_add {l : Launch} {P : PP} {q : PL} {s s' : S1} {l0r : Nat} {l0 : Int32} {l1 : Int32} {l2 : Int64} (hp0 : VOK l0r l0) {r : Unit} (h : M_Va_add l0r l0 l1 l2 s = some (r, s')) : Ct l y_Va_add b_Va_add 4 none 0 0 P q s [.ref (q.1 l0r l0), .int l1, .long l2] none q s' := by
  refine ct_of (by decide) (Nat.le_of_ble_eq_true rfl) fun X ls eP el g hR hl => ?_
  have hR : Rt X q ((r, s') : Unit × S1).2 none := hR
  have hl : lv_has ls 4 [(0, .ref (q.1 l0r l0)), (1, .int l1), (2, .long l2)] := hl
  generalize (r, s') = o at h hR
  unfold M_Va_add at h
  refine ww_aload_n (pc := 0) g.1 d_Va_add_0 rfl (lv_at hl 0 rfl) ?_
  refine ww_gR (pc := 1) g (k := 0) (cl_Va hp0) (vok_p hp0).1 (by rw [(vok_f hp0).1.2.2]; decide) (Or.inl kw_45) (f := (128 * l0r + 0)) (t := l0r + 1) rfl (vok_f hp0).2.1.1 (vok_f hp0).2.1.2 d_Va_add_1 ?_
  refine ww_aload_n (pc := 4) g.1 d_Va_add_4 rfl (lv_at hl 0 rfl) ?_
  refine ww_gI (pc := 5) g (k := 2) (cl_Va hp0) (vok_p hp0).1 (by rw [(vok_f hp0).1.2.2]; decide) (Or.inl kw_136) (f := (128 * l0r + 2)) rfl (vok_f hp0).2.2.2.1 d_Va_add_5 h fun v5 h => ?_
  refine ww_iload_n (pc := 8) g.1 d_Va_add_8 rfl (lv_at hl 1 rfl) ?_
  refine ww_i2b (pc := 9) g.1 (v := l1.toInt8.toInt32) d_Va_add_9 rfl ?_
  refine ww_sb (pc := 10) g (vok_p hp0).2.1 (vok_f hp0).2.2.2.2.1 (vok_n hp0).1 d_Va_add_10 h fun s hs h => ?_
  refine ww_aload_n (pc := 11) g.1 d_Va_add_11 rfl (lv_at hl 0 rfl) ?_
  refine ww_gR (pc := 12) g (k := 1) (cl_Va hp0) (vok_p hp0).1 (by rw [(vok_f hp0).1.2.2]; decide) (Or.inl kw_46) (f := (128 * l0r + 1)) (t := l0r + 2) rfl (vok_f hp0).2.2.1.1 (vok_f hp0).2.2.1.2 d_Va_add_12 ?_
  refine ww_aload_n (pc := 15) g.1 d_Va_add_15 rfl (lv_at hl 0 rfl) ?_
  refine ww_dup (pc := 16) g.1 d_Va_add_16 rfl ?_
  refine ww_gI (pc := 17) g (k := 2) (cl_Va hp0) (vok_p hp0).1 (by rw [(vok_f hp0).1.2.2]; decide) (Or.inl kw_136) (f := (128 * l0r + 2)) rfl (vok_f hp0).2.2.2.1 d_Va_add_17 h fun v17 h => ?_
  refine ww_dup_x1 (pc := 20) g.1 d_Va_add_20 rfl rfl ?_
  refine ww_iconst (pc := 21) g.1 (v := 1) d_Va_add_21 (by decide) ?_
  refine ww_iadd (pc := 22) g.1 d_Va_add_22 ?_
  refine ww_pI (pc := 23) g (k := 2) (cl_Va hp0) (vok_p hp0).1 (by rw [(vok_f hp0).1.2.2]; decide) (Or.inl kw_136) rfl (f := (128 * l0r + 2)) rfl (vok_f hp0).2.2.2.1 rfl rfl d_Va_add_23 h fun s hs h => ?_
  refine ww_lload_n (pc := 26) g.1 d_Va_add_26 rfl (lv_at hl 2 rfl) ?_
  refine ww_sl (pc := 27) g (vok_p hp0).2.2 (vok_f hp0).2.2.2.2.2 (vok_n hp0).2 d_Va_add_27 h fun s hs h => ?_
  exact ww_vretH (pc := 28) g h hR d_Va_add_28

abbrev b_Mo_grow : ByteArray := prog_14_method_38_code
def y_Mo_grow : MethodName := ⟨R_Mo, "grow", "(I)Z"⟩
abbrev w_Mo_grow : List Cond := .code y_Mo_grow b_Mo_grow 4 (some .boolean) :: wA
theorem k_Mo_grow : Cond.code y_Mo_grow b_Mo_grow 4 (some .boolean) ∈ wA := kinm (show _ ∈ tables_1 from (List.mem_append_right _ (List.mem_append_right _ (List.mem_append_right _ (List.mem_append_right _ (List.mem_append_right _ (List.mem_append_right _ (List.mem_append_right _ (List.mem_append_right _ (List.mem_append_right _ (List.mem_append_right _ (List.mem_append_right _ (List.mem_append_left _ (List.mem_of_getElem? (l := tables_1_12) (i := 111) (by decide +kernel))))))))))))))) (by decide +kernel)
theorem d_Mo_grow_0 : decode b_Mo_grow 0 = .ok (.aload_n 0, 1) := by decide +kernel
theorem d_Mo_grow_1 : decode b_Mo_grow 1 = .ok (.getfield 171, 3) := by decide +kernel
theorem d_Mo_grow_4 : decode b_Mo_grow 4 = .ok (.iload_n 1, 1) := by decide +kernel
theorem d_Mo_grow_5 : decode b_Mo_grow 5 = .ok (.iaload, 1) := by decide +kernel
theorem d_Mo_grow_6 : decode b_Mo_grow 6 = .ok (.ifCond .ne 7, 3) := by decide +kernel
theorem d_Mo_grow_9 : decode b_Mo_grow 9 = .ok (.iconst 4, 1) := by decide +kernel
theorem d_Mo_grow_10 : decode b_Mo_grow 10 = .ok (.goto 11, 3) := by decide +kernel
theorem d_Mo_grow_13 : decode b_Mo_grow 13 = .ok (.iconst 2, 1) := by decide +kernel
theorem d_Mo_grow_14 : decode b_Mo_grow 14 = .ok (.aload_n 0, 1) := by decide +kernel
theorem d_Mo_grow_15 : decode b_Mo_grow 15 = .ok (.getfield 171, 3) := by decide +kernel
theorem d_Mo_grow_18 : decode b_Mo_grow 18 = .ok (.iload_n 1, 1) := by decide +kernel
theorem d_Mo_grow_19 : decode b_Mo_grow 19 = .ok (.iaload, 1) := by decide +kernel
theorem d_Mo_grow_20 : decode b_Mo_grow 20 = .ok (.imul, 1) := by decide +kernel
theorem d_Mo_grow_21 : decode b_Mo_grow 21 = .ok (.istore_n 2, 1) := by decide +kernel
theorem d_Mo_grow_22 : decode b_Mo_grow 22 = .ok (.aload_n 0, 1) := by decide +kernel
theorem d_Mo_grow_23 : decode b_Mo_grow 23 = .ok (.getfield 149, 3) := by decide +kernel
theorem d_Mo_grow_26 : decode b_Mo_grow 26 = .ok (.iload_n 2, 1) := by decide +kernel
theorem d_Mo_grow_27 : decode b_Mo_grow 27 = .ok (.iadd, 1) := by decide +kernel
theorem d_Mo_grow_28 : decode b_Mo_grow 28 = .ok (.ldc_w 579, 3) := by decide +kernel
theorem d_Mo_grow_31 : decode b_Mo_grow 31 = .ok (.if_icmp .le 12, 3) := by decide +kernel
theorem d_Mo_grow_34 : decode b_Mo_grow 34 = .ok (.aload_n 0, 1) := by decide +kernel
theorem d_Mo_grow_35 : decode b_Mo_grow 35 = .ok (.bipush 11, 2) := by decide +kernel
theorem d_Mo_grow_37 : decode b_Mo_grow 37 = .ok (.invokevirtual 517, 3) := by decide +kernel
theorem d_Mo_grow_40 : decode b_Mo_grow 40 = .ok (.pop, 1) := by decide +kernel
theorem d_Mo_grow_41 : decode b_Mo_grow 41 = .ok (.iconst 0, 1) := by decide +kernel
theorem d_Mo_grow_42 : decode b_Mo_grow 42 = .ok (.ireturn, 1) := by decide +kernel
theorem d_Mo_grow_43 : decode b_Mo_grow 43 = .ok (.aload_n 0, 1) := by decide +kernel
theorem d_Mo_grow_44 : decode b_Mo_grow 44 = .ok (.getfield 128, 3) := by decide +kernel
theorem d_Mo_grow_47 : decode b_Mo_grow 47 = .ok (.iload_n 2, 1) := by decide +kernel
theorem d_Mo_grow_48 : decode b_Mo_grow 48 = .ok (.iadd, 1) := by decide +kernel
theorem d_Mo_grow_49 : decode b_Mo_grow 49 = .ok (.ldc_w 580, 3) := by decide +kernel
theorem d_Mo_grow_52 : decode b_Mo_grow 52 = .ok (.if_icmp .le 7, 3) := by decide +kernel
theorem d_Mo_grow_55 : decode b_Mo_grow 55 = .ok (.aload_n 0, 1) := by decide +kernel
theorem d_Mo_grow_56 : decode b_Mo_grow 56 = .ok (.invokevirtual 520, 3) := by decide +kernel
theorem d_Mo_grow_59 : decode b_Mo_grow 59 = .ok (.aload_n 0, 1) := by decide +kernel
theorem d_Mo_grow_60 : decode b_Mo_grow 60 = .ok (.getfield 128, 3) := by decide +kernel
theorem d_Mo_grow_63 : decode b_Mo_grow 63 = .ok (.iload_n 2, 1) := by decide +kernel
theorem d_Mo_grow_64 : decode b_Mo_grow 64 = .ok (.iadd, 1) := by decide +kernel
theorem d_Mo_grow_65 : decode b_Mo_grow 65 = .ok (.ldc_w 580, 3) := by decide +kernel
theorem d_Mo_grow_68 : decode b_Mo_grow 68 = .ok (.if_icmp .le 12, 3) := by decide +kernel
theorem d_Mo_grow_71 : decode b_Mo_grow 71 = .ok (.aload_n 0, 1) := by decide +kernel
theorem d_Mo_grow_72 : decode b_Mo_grow 72 = .ok (.bipush 10, 2) := by decide +kernel
theorem d_Mo_grow_74 : decode b_Mo_grow 74 = .ok (.invokevirtual 517, 3) := by decide +kernel
theorem d_Mo_grow_77 : decode b_Mo_grow 77 = .ok (.pop, 1) := by decide +kernel
theorem d_Mo_grow_78 : decode b_Mo_grow 78 = .ok (.iconst 0, 1) := by decide +kernel
theorem d_Mo_grow_79 : decode b_Mo_grow 79 = .ok (.ireturn, 1) := by decide +kernel
theorem d_Mo_grow_80 : decode b_Mo_grow 80 = .ok (.aload_n 0, 1) := by decide +kernel
theorem d_Mo_grow_81 : decode b_Mo_grow 81 = .ok (.dup, 1) := by decide +kernel
theorem d_Mo_grow_82 : decode b_Mo_grow 82 = .ok (.getfield 131, 3) := by decide +kernel
theorem d_Mo_grow_85 : decode b_Mo_grow 85 = .ok (.iload_n 2, 1) := by decide +kernel
theorem d_Mo_grow_86 : decode b_Mo_grow 86 = .ok (.iadd, 1) := by decide +kernel
theorem d_Mo_grow_87 : decode b_Mo_grow 87 = .ok (.putfield 131, 3) := by decide +kernel
theorem d_Mo_grow_90 : decode b_Mo_grow 90 = .ok (.aload_n 0, 1) := by decide +kernel
theorem d_Mo_grow_91 : decode b_Mo_grow 91 = .ok (.dup, 1) := by decide +kernel
theorem d_Mo_grow_92 : decode b_Mo_grow 92 = .ok (.getfield 149, 3) := by decide +kernel
theorem d_Mo_grow_95 : decode b_Mo_grow 95 = .ok (.iload_n 2, 1) := by decide +kernel
theorem d_Mo_grow_96 : decode b_Mo_grow 96 = .ok (.iadd, 1) := by decide +kernel
theorem d_Mo_grow_97 : decode b_Mo_grow 97 = .ok (.putfield 149, 3) := by decide +kernel
theorem d_Mo_grow_100 : decode b_Mo_grow 100 = .ok (.aload_n 0, 1) := by decide +kernel
theorem d_Mo_grow_101 : decode b_Mo_grow 101 = .ok (.dup, 1) := by decide +kernel
theorem d_Mo_grow_102 : decode b_Mo_grow 102 = .ok (.getfield 128, 3) := by decide +kernel
theorem d_Mo_grow_105 : decode b_Mo_grow 105 = .ok (.iload_n 2, 1) := by decide +kernel
theorem d_Mo_grow_106 : decode b_Mo_grow 106 = .ok (.aload_n 0, 1) := by decide +kernel
theorem d_Mo_grow_107 : decode b_Mo_grow 107 = .ok (.getfield 171, 3) := by decide +kernel
theorem d_Mo_grow_110 : decode b_Mo_grow 110 = .ok (.iload_n 1, 1) := by decide +kernel
theorem d_Mo_grow_111 : decode b_Mo_grow 111 = .ok (.iaload, 1) := by decide +kernel
theorem d_Mo_grow_112 : decode b_Mo_grow 112 = .ok (.isub, 1) := by decide +kernel
theorem d_Mo_grow_113 : decode b_Mo_grow 113 = .ok (.iadd, 1) := by decide +kernel
theorem d_Mo_grow_114 : decode b_Mo_grow 114 = .ok (.putfield 128, 3) := by decide +kernel
theorem d_Mo_grow_117 : decode b_Mo_grow 117 = .ok (.aload_n 0, 1) := by decide +kernel
theorem d_Mo_grow_118 : decode b_Mo_grow 118 = .ok (.getfield 143, 3) := by decide +kernel
theorem d_Mo_grow_121 : decode b_Mo_grow 121 = .ok (.istore_n 3, 1) := by decide +kernel
theorem d_Mo_grow_122 : decode b_Mo_grow 122 = .ok (.aload_n 0, 1) := by decide +kernel
theorem d_Mo_grow_123 : decode b_Mo_grow 123 = .ok (.dup, 1) := by decide +kernel
theorem d_Mo_grow_124 : decode b_Mo_grow 124 = .ok (.getfield 143, 3) := by decide +kernel
theorem d_Mo_grow_127 : decode b_Mo_grow 127 = .ok (.iload_n 2, 1) := by decide +kernel
theorem d_Mo_grow_128 : decode b_Mo_grow 128 = .ok (.iadd, 1) := by decide +kernel
theorem d_Mo_grow_129 : decode b_Mo_grow 129 = .ok (.putfield 143, 3) := by decide +kernel
theorem d_Mo_grow_132 : decode b_Mo_grow 132 = .ok (.aload_n 0, 1) := by decide +kernel
theorem d_Mo_grow_133 : decode b_Mo_grow 133 = .ok (.iload_n 1, 1) := by decide +kernel
theorem d_Mo_grow_134 : decode b_Mo_grow 134 = .ok (.iload_n 3, 1) := by decide +kernel
theorem d_Mo_grow_135 : decode b_Mo_grow 135 = .ok (.iload_n 2, 1) := by decide +kernel
theorem d_Mo_grow_136 : decode b_Mo_grow 136 = .ok (.invokevirtual 565, 3) := by decide +kernel
theorem d_Mo_grow_139 : decode b_Mo_grow 139 = .ok (.iconst 1, 1) := by decide +kernel
theorem d_Mo_grow_140 : decode b_Mo_grow 140 = .ok (.ireturn, 1) := by decide +kernel
theorem kw_139 : Cond.constant R_Mo 579 300000 ∈ wA := kinm (show _ ∈ tables_1 from (List.mem_append_right _ (List.mem_append_right _ (List.mem_append_right _ (List.mem_append_right _ (List.mem_append_right _ (List.mem_append_right _ (List.mem_append_right _ (List.mem_append_right _ (List.mem_append_right _ (List.mem_append_right _ (List.mem_append_left _ (List.mem_of_getElem? (l := tables_1_11) (i := 219) (by decide +kernel)))))))))))))) (by decide +kernel)
theorem kw_140 : Cond.constant R_Mo 580 40000 ∈ wA := kinm (show _ ∈ tables_1 from (List.mem_append_right _ (List.mem_append_right _ (List.mem_append_right _ (List.mem_append_right _ (List.mem_append_right _ (List.mem_append_right _ (List.mem_append_right _ (List.mem_append_right _ (List.mem_append_right _ (List.mem_append_right _ (List.mem_append_right _ (List.mem_append_left _ (List.mem_of_getElem? (l := tables_1_12) (i := 112) (by decide +kernel))))))))))))))) (by decide +kernel)
abbrev b_Mo_closure : ByteArray := prog_14_method_54_code
def y_Mo_closure : MethodName := ⟨R_Mo, "closure", "(III)I"⟩
abbrev w_Mo_closure : List Cond := .code y_Mo_closure b_Mo_closure 6 (some .int) :: wA
theorem k_Mo_closure : Cond.code y_Mo_closure b_Mo_closure 6 (some .int) ∈ wA := kinm (show _ ∈ tables_1 from (List.mem_append_right _ (List.mem_append_right _ (List.mem_append_right _ (List.mem_append_right _ (List.mem_append_right _ (List.mem_append_right _ (List.mem_append_right _ (List.mem_append_right _ (List.mem_append_right _ (List.mem_append_right _ (List.mem_append_right _ (List.mem_append_left _ (List.mem_of_getElem? (l := tables_1_12) (i := 116) (by decide +kernel))))))))))))))) (by decide +kernel)
theorem d_Mo_closure_0 : decode b_Mo_closure 0 = .ok (.aload_n 0, 1) := by decide +kernel
theorem d_Mo_closure_1 : decode b_Mo_closure 1 = .ok (.getfield 149, 3) := by decide +kernel
theorem d_Mo_closure_4 : decode b_Mo_closure 4 = .ok (.iload_n 3, 1) := by decide +kernel
theorem d_Mo_closure_5 : decode b_Mo_closure 5 = .ok (.iadd, 1) := by decide +kernel
theorem d_Mo_closure_6 : decode b_Mo_closure 6 = .ok (.ldc_w 579, 3) := by decide +kernel
theorem d_Mo_closure_9 : decode b_Mo_closure 9 = .ok (.if_icmp .le 10, 3) := by decide +kernel
theorem d_Mo_closure_12 : decode b_Mo_closure 12 = .ok (.aload_n 0, 1) := by decide +kernel
theorem d_Mo_closure_13 : decode b_Mo_closure 13 = .ok (.bipush 11, 2) := by decide +kernel
theorem d_Mo_closure_15 : decode b_Mo_closure 15 = .ok (.invokevirtual 517, 3) := by decide +kernel
theorem d_Mo_closure_18 : decode b_Mo_closure 18 = .ok (.ireturn, 1) := by decide +kernel
theorem d_Mo_closure_19 : decode b_Mo_closure 19 = .ok (.aload_n 0, 1) := by decide +kernel
theorem d_Mo_closure_20 : decode b_Mo_closure 20 = .ok (.iconst 0, 1) := by decide +kernel
theorem d_Mo_closure_21 : decode b_Mo_closure 21 = .ok (.invokevirtual 527, 3) := by decide +kernel
theorem d_Mo_closure_24 : decode b_Mo_closure 24 = .ok (.ifCond .ne 5, 3) := by decide +kernel
theorem d_Mo_closure_27 : decode b_Mo_closure 27 = .ok (.iconst (-1), 1) := by decide +kernel
theorem d_Mo_closure_28 : decode b_Mo_closure 28 = .ok (.ireturn, 1) := by decide +kernel
theorem d_Mo_closure_29 : decode b_Mo_closure 29 = .ok (.aload_n 0, 1) := by decide +kernel
theorem d_Mo_closure_30 : decode b_Mo_closure 30 = .ok (.bipush 6, 2) := by decide +kernel
theorem d_Mo_closure_32 : decode b_Mo_closure 32 = .ok (.invokevirtual 531, 3) := by decide +kernel
theorem d_Mo_closure_35 : decode b_Mo_closure 35 = .ok (.istore 4, 2) := by decide +kernel
theorem d_Mo_closure_37 : decode b_Mo_closure 37 = .ok (.aload_n 0, 1) := by decide +kernel
theorem d_Mo_closure_38 : decode b_Mo_closure 38 = .ok (.dup, 1) := by decide +kernel
theorem d_Mo_closure_39 : decode b_Mo_closure 39 = .ok (.getfield 131, 3) := by decide +kernel
theorem d_Mo_closure_42 : decode b_Mo_closure 42 = .ok (.iload_n 3, 1) := by decide +kernel
theorem d_Mo_closure_43 : decode b_Mo_closure 43 = .ok (.iadd, 1) := by decide +kernel
theorem d_Mo_closure_44 : decode b_Mo_closure 44 = .ok (.putfield 131, 3) := by decide +kernel
theorem d_Mo_closure_47 : decode b_Mo_closure 47 = .ok (.aload_n 0, 1) := by decide +kernel
theorem d_Mo_closure_48 : decode b_Mo_closure 48 = .ok (.dup, 1) := by decide +kernel
theorem d_Mo_closure_49 : decode b_Mo_closure 49 = .ok (.getfield 149, 3) := by decide +kernel
theorem d_Mo_closure_52 : decode b_Mo_closure 52 = .ok (.iload_n 3, 1) := by decide +kernel
theorem d_Mo_closure_53 : decode b_Mo_closure 53 = .ok (.iadd, 1) := by decide +kernel
theorem d_Mo_closure_54 : decode b_Mo_closure 54 = .ok (.putfield 149, 3) := by decide +kernel
theorem d_Mo_closure_57 : decode b_Mo_closure 57 = .ok (.aload_n 0, 1) := by decide +kernel
theorem d_Mo_closure_58 : decode b_Mo_closure 58 = .ok (.getfield 168, 3) := by decide +kernel
theorem d_Mo_closure_61 : decode b_Mo_closure 61 = .ok (.iload 4, 2) := by decide +kernel
theorem d_Mo_closure_63 : decode b_Mo_closure 63 = .ok (.iload_n 1, 1) := by decide +kernel
theorem d_Mo_closure_64 : decode b_Mo_closure 64 = .ok (.iastore, 1) := by decide +kernel
theorem d_Mo_closure_65 : decode b_Mo_closure 65 = .ok (.aload_n 0, 1) := by decide +kernel
theorem d_Mo_closure_66 : decode b_Mo_closure 66 = .ok (.getfield 171, 3) := by decide +kernel
theorem d_Mo_closure_69 : decode b_Mo_closure 69 = .ok (.iload 4, 2) := by decide +kernel
theorem d_Mo_closure_71 : decode b_Mo_closure 71 = .ok (.iload_n 1, 1) := by decide +kernel
theorem d_Mo_closure_72 : decode b_Mo_closure 72 = .ok (.ifCond .ge 7, 3) := by decide +kernel
theorem d_Mo_closure_75 : decode b_Mo_closure 75 = .ok (.iload_n 2, 1) := by decide +kernel
theorem d_Mo_closure_76 : decode b_Mo_closure 76 = .ok (.goto 7, 3) := by decide +kernel
theorem d_Mo_closure_79 : decode b_Mo_closure 79 = .ok (.aload_n 0, 1) := by decide +kernel
theorem d_Mo_closure_80 : decode b_Mo_closure 80 = .ok (.getfield 143, 3) := by decide +kernel
theorem d_Mo_closure_83 : decode b_Mo_closure 83 = .ok (.iastore, 1) := by decide +kernel
theorem d_Mo_closure_84 : decode b_Mo_closure 84 = .ok (.aload_n 0, 1) := by decide +kernel
theorem d_Mo_closure_85 : decode b_Mo_closure 85 = .ok (.getfield 174, 3) := by decide +kernel
theorem d_Mo_closure_88 : decode b_Mo_closure 88 = .ok (.iload 4, 2) := by decide +kernel
theorem d_Mo_closure_90 : decode b_Mo_closure 90 = .ok (.iload_n 3, 1) := by decide +kernel
theorem d_Mo_closure_91 : decode b_Mo_closure 91 = .ok (.iastore, 1) := by decide +kernel
theorem d_Mo_closure_92 : decode b_Mo_closure 92 = .ok (.iconst 0, 1) := by decide +kernel
theorem d_Mo_closure_93 : decode b_Mo_closure 93 = .ok (.istore 5, 2) := by decide +kernel
theorem d_Mo_closure_95 : decode b_Mo_closure 95 = .ok (.iload 5, 2) := by decide +kernel
theorem d_Mo_closure_97 : decode b_Mo_closure 97 = .ok (.iload_n 3, 1) := by decide +kernel
theorem d_Mo_closure_98 : decode b_Mo_closure 98 = .ok (.if_icmp .ge 28, 3) := by decide +kernel
theorem d_Mo_closure_101 : decode b_Mo_closure 101 = .ok (.aload_n 0, 1) := by decide +kernel
theorem d_Mo_closure_102 : decode b_Mo_closure 102 = .ok (.getfield 206, 3) := by decide +kernel
theorem d_Mo_closure_105 : decode b_Mo_closure 105 = .ok (.aload_n 0, 1) := by decide +kernel
theorem d_Mo_closure_106 : decode b_Mo_closure 106 = .ok (.getfield 143, 3) := by decide +kernel
theorem d_Mo_closure_109 : decode b_Mo_closure 109 = .ok (.iload 5, 2) := by decide +kernel
theorem d_Mo_closure_111 : decode b_Mo_closure 111 = .ok (.iadd, 1) := by decide +kernel
theorem d_Mo_closure_112 : decode b_Mo_closure 112 = .ok (.aload_n 0, 1) := by decide +kernel
theorem d_Mo_closure_113 : decode b_Mo_closure 113 = .ok (.getfield 274, 3) := by decide +kernel
theorem d_Mo_closure_116 : decode b_Mo_closure 116 = .ok (.iload 5, 2) := by decide +kernel
theorem d_Mo_closure_118 : decode b_Mo_closure 118 = .ok (.iaload, 1) := by decide +kernel
theorem d_Mo_closure_119 : decode b_Mo_closure 119 = .ok (.iastore, 1) := by decide +kernel
theorem d_Mo_closure_120 : decode b_Mo_closure 120 = .ok (.iinc 5 1, 3) := by decide +kernel
theorem d_Mo_closure_123 : decode b_Mo_closure 123 = .ok (.goto (-28), 3) := by decide +kernel
theorem d_Mo_closure_126 : decode b_Mo_closure 126 = .ok (.aload_n 0, 1) := by decide +kernel
theorem d_Mo_closure_127 : decode b_Mo_closure 127 = .ok (.dup, 1) := by decide +kernel
theorem d_Mo_closure_128 : decode b_Mo_closure 128 = .ok (.getfield 143, 3) := by decide +kernel
theorem d_Mo_closure_131 : decode b_Mo_closure 131 = .ok (.iload_n 3, 1) := by decide +kernel
theorem d_Mo_closure_132 : decode b_Mo_closure 132 = .ok (.iadd, 1) := by decide +kernel
theorem d_Mo_closure_133 : decode b_Mo_closure 133 = .ok (.putfield 143, 3) := by decide +kernel
theorem d_Mo_closure_136 : decode b_Mo_closure 136 = .ok (.iload 4, 2) := by decide +kernel
theorem d_Mo_closure_138 : decode b_Mo_closure 138 = .ok (.ireturn, 1) := by decide +kernel
abbrev b_Mo_thread : ByteArray := prog_14_method_53_code
def y_Mo_thread : MethodName := ⟨R_Mo, "thread", "()I"⟩
abbrev w_Mo_thread : List Cond := .code y_Mo_thread b_Mo_thread 3 (some .int) :: wA
theorem k_Mo_thread : Cond.code y_Mo_thread b_Mo_thread 3 (some .int) ∈ wA := kinm (show _ ∈ tables_1 from (List.mem_append_right _ (List.mem_append_right _ (List.mem_append_right _ (List.mem_append_right _ (List.mem_append_right _ (List.mem_append_right _ (List.mem_append_right _ (List.mem_append_right _ (List.mem_append_right _ (List.mem_append_right _ (List.mem_append_right _ (List.mem_append_left _ (List.mem_of_getElem? (l := tables_1_12) (i := 120) (by decide +kernel))))))))))))))) (by decide +kernel)
theorem d_Mo_thread_0 : decode b_Mo_thread 0 = .ok (.aload_n 0, 1) := by decide +kernel
theorem d_Mo_thread_1 : decode b_Mo_thread 1 = .ok (.iconst 1, 1) := by decide +kernel
theorem d_Mo_thread_2 : decode b_Mo_thread 2 = .ok (.invokevirtual 527, 3) := by decide +kernel
theorem d_Mo_thread_5 : decode b_Mo_thread 5 = .ok (.ifCond .ne 5, 3) := by decide +kernel
theorem d_Mo_thread_8 : decode b_Mo_thread 8 = .ok (.iconst (-1), 1) := by decide +kernel
theorem d_Mo_thread_9 : decode b_Mo_thread 9 = .ok (.ireturn, 1) := by decide +kernel
theorem d_Mo_thread_10 : decode b_Mo_thread 10 = .ok (.iconst 0, 1) := by decide +kernel
theorem d_Mo_thread_11 : decode b_Mo_thread 11 = .ok (.istore_n 1, 1) := by decide +kernel
theorem d_Mo_thread_12 : decode b_Mo_thread 12 = .ok (.aload_n 0, 1) := by decide +kernel
theorem d_Mo_thread_13 : decode b_Mo_thread 13 = .ok (.getfield 239, 3) := by decide +kernel
theorem d_Mo_thread_16 : decode b_Mo_thread 16 = .ok (.iload_n 1, 1) := by decide +kernel
theorem d_Mo_thread_17 : decode b_Mo_thread 17 = .ok (.aaload, 1) := by decide +kernel
theorem d_Mo_thread_18 : decode b_Mo_thread 18 = .ok (.getfield 615, 3) := by decide +kernel
theorem d_Mo_thread_21 : decode b_Mo_thread 21 = .ok (.ifCond .lt 9, 3) := by decide +kernel
theorem d_Mo_thread_24 : decode b_Mo_thread 24 = .ok (.iinc 1 1, 3) := by decide +kernel
theorem d_Mo_thread_27 : decode b_Mo_thread 27 = .ok (.goto (-15), 3) := by decide +kernel
theorem d_Mo_thread_30 : decode b_Mo_thread 30 = .ok (.aload_n 0, 1) := by decide +kernel
theorem d_Mo_thread_31 : decode b_Mo_thread 31 = .ok (.bipush 7, 2) := by decide +kernel
theorem d_Mo_thread_33 : decode b_Mo_thread 33 = .ok (.invokevirtual 531, 3) := by decide +kernel
theorem d_Mo_thread_36 : decode b_Mo_thread 36 = .ok (.istore_n 2, 1) := by decide +kernel
theorem d_Mo_thread_37 : decode b_Mo_thread 37 = .ok (.aload_n 0, 1) := by decide +kernel
theorem d_Mo_thread_38 : decode b_Mo_thread 38 = .ok (.getfield 239, 3) := by decide +kernel
theorem d_Mo_thread_41 : decode b_Mo_thread 41 = .ok (.iload_n 1, 1) := by decide +kernel
theorem d_Mo_thread_42 : decode b_Mo_thread 42 = .ok (.aaload, 1) := by decide +kernel
theorem d_Mo_thread_43 : decode b_Mo_thread 43 = .ok (.iload_n 2, 1) := by decide +kernel
theorem d_Mo_thread_44 : decode b_Mo_thread 44 = .ok (.invokevirtual 644, 3) := by decide +kernel
theorem d_Mo_thread_47 : decode b_Mo_thread 47 = .ok (.aload_n 0, 1) := by decide +kernel
theorem d_Mo_thread_48 : decode b_Mo_thread 48 = .ok (.getfield 168, 3) := by decide +kernel
theorem d_Mo_thread_51 : decode b_Mo_thread 51 = .ok (.iload_n 2, 1) := by decide +kernel
theorem d_Mo_thread_52 : decode b_Mo_thread 52 = .ok (.iload_n 1, 1) := by decide +kernel
theorem d_Mo_thread_53 : decode b_Mo_thread 53 = .ok (.iastore, 1) := by decide +kernel
theorem d_Mo_thread_54 : decode b_Mo_thread 54 = .ok (.aload_n 0, 1) := by decide +kernel
theorem d_Mo_thread_55 : decode b_Mo_thread 55 = .ok (.dup, 1) := by decide +kernel
theorem d_Mo_thread_56 : decode b_Mo_thread 56 = .ok (.getfield 137, 3) := by decide +kernel
theorem d_Mo_thread_59 : decode b_Mo_thread 59 = .ok (.iconst 1, 1) := by decide +kernel
theorem d_Mo_thread_60 : decode b_Mo_thread 60 = .ok (.iadd, 1) := by decide +kernel
theorem d_Mo_thread_61 : decode b_Mo_thread 61 = .ok (.putfield 137, 3) := by decide +kernel
theorem d_Mo_thread_64 : decode b_Mo_thread 64 = .ok (.iload_n 2, 1) := by decide +kernel
theorem d_Mo_thread_65 : decode b_Mo_thread 65 = .ok (.ireturn, 1) := by decide +kernel
abbrev b_Th_begin : ByteArray := prog_15_method_2_code
def y_Th_begin : MethodName := ⟨R_Th, "begin", "(I)V"⟩
abbrev w_Th_begin : List Cond := .code y_Th_begin b_Th_begin 2 none :: wA
theorem k_Th_begin : Cond.code y_Th_begin b_Th_begin 2 none ∈ wA := kinm (show _ ∈ tables_1 from (List.mem_append_right _ (List.mem_append_right _ (List.mem_append_right _ (List.mem_append_right _ (List.mem_append_right _ (List.mem_append_right _ (List.mem_append_right _ (List.mem_append_right _ (List.mem_append_right _ (List.mem_append_right _ (List.mem_append_right _ (List.mem_append_left _ (List.mem_of_getElem? (l := tables_1_12) (i := 124) (by decide +kernel))))))))))))))) (by decide +kernel)
theorem d_Th_begin_0 : decode b_Th_begin 0 = .ok (.aload_n 0, 1) := by decide +kernel
theorem d_Th_begin_1 : decode b_Th_begin 1 = .ok (.iload_n 1, 1) := by decide +kernel
theorem d_Th_begin_2 : decode b_Th_begin 2 = .ok (.putfield 7, 3) := by decide +kernel
theorem d_Th_begin_5 : decode b_Th_begin 5 = .ok (.aload_n 0, 1) := by decide +kernel
theorem d_Th_begin_6 : decode b_Th_begin 6 = .ok (.iconst 0, 1) := by decide +kernel
theorem d_Th_begin_7 : decode b_Th_begin 7 = .ok (.putfield 13, 3) := by decide +kernel
theorem d_Th_begin_10 : decode b_Th_begin 10 = .ok (.aload_n 0, 1) := by decide +kernel
theorem d_Th_begin_11 : decode b_Th_begin 11 = .ok (.iconst 0, 1) := by decide +kernel
theorem d_Th_begin_12 : decode b_Th_begin 12 = .ok (.putfield 16, 3) := by decide +kernel
theorem d_Th_begin_15 : decode b_Th_begin 15 = .ok (.aload_n 0, 1) := by decide +kernel
theorem d_Th_begin_16 : decode b_Th_begin 16 = .ok (.iconst 0, 1) := by decide +kernel
theorem d_Th_begin_17 : decode b_Th_begin 17 = .ok (.putfield 19, 3) := by decide +kernel
theorem d_Th_begin_20 : decode b_Th_begin 20 = .ok (.aload_n 0, 1) := by decide +kernel
theorem d_Th_begin_21 : decode b_Th_begin 21 = .ok (.iconst 0, 1) := by decide +kernel
theorem d_Th_begin_22 : decode b_Th_begin 22 = .ok (.putfield 22, 3) := by decide +kernel
theorem d_Th_begin_25 : decode b_Th_begin 25 = .ok (.aload_n 0, 1) := by decide +kernel
theorem d_Th_begin_26 : decode b_Th_begin 26 = .ok (.iconst 0, 1) := by decide +kernel
theorem d_Th_begin_27 : decode b_Th_begin 27 = .ok (.putfield 25, 3) := by decide +kernel
theorem d_Th_begin_30 : decode b_Th_begin 30 = .ok (.aload_n 0, 1) := by decide +kernel
theorem d_Th_begin_31 : decode b_Th_begin 31 = .ok (.aconst_null, 1) := by decide +kernel
theorem d_Th_begin_32 : decode b_Th_begin 32 = .ok (.putfield 29, 3) := by decide +kernel
theorem d_Th_begin_35 : decode b_Th_begin 35 = .ok (.aload_n 0, 1) := by decide +kernel
theorem d_Th_begin_36 : decode b_Th_begin 36 = .ok (.getfield 45, 3) := by decide +kernel
theorem d_Th_begin_39 : decode b_Th_begin 39 = .ok (.iconst 0, 1) := by decide +kernel
theorem d_Th_begin_40 : decode b_Th_begin 40 = .ok (.putfield 85, 3) := by decide +kernel
theorem d_Th_begin_43 : decode b_Th_begin 43 = .ok (.return_, 1) := by decide +kernel
theorem kw_141 : Cond.fieldLink R_Th 7 "LuaMachineModel$Thread_" "place" "I" ∈ wA := kinm (show _ ∈ tables_1 from (List.mem_append_right _ (List.mem_append_right _ (List.mem_append_right _ (List.mem_append_right _ (List.mem_append_right _ (List.mem_append_right _ (List.mem_append_right _ (List.mem_append_right _ (List.mem_append_left _ (List.mem_of_getElem? (l := tables_1_9) (i := 205) (by decide +kernel)))))))))))) (by decide +kernel)
theorem kw_142 : Cond.fieldLink R_Th 13 "LuaMachineModel$Thread_" "state" "I" ∈ wA := kinm (show _ ∈ tables_1 from (List.mem_append_right _ (List.mem_append_right _ (List.mem_append_right _ (List.mem_append_right _ (List.mem_append_right _ (List.mem_append_right _ (List.mem_append_right _ (List.mem_append_right _ (List.mem_append_left _ (List.mem_of_getElem? (l := tables_1_9) (i := 207) (by decide +kernel)))))))))))) (by decide +kernel)
theorem kw_143 : Cond.fieldLink R_Th 16 "LuaMachineModel$Thread_" "frames" "I" ∈ wA := kinm (show _ ∈ tables_1 from (List.mem_append_right _ (List.mem_append_right _ (List.mem_append_right _ (List.mem_append_right _ (List.mem_append_right _ (List.mem_append_right _ (List.mem_append_right _ (List.mem_append_right _ (List.mem_append_left _ (List.mem_of_getElem? (l := tables_1_9) (i := 209) (by decide +kernel)))))))))))) (by decide +kernel)
theorem kw_144 : Cond.fieldLink R_Th 19 "LuaMachineModel$Thread_" "openCount" "I" ∈ wA := kinm (show _ ∈ tables_1 from (List.mem_append_right _ (List.mem_append_right _ (List.mem_append_right _ (List.mem_append_right _ (List.mem_append_right _ (List.mem_append_right _ (List.mem_append_right _ (List.mem_append_right _ (List.mem_append_left _ (List.mem_of_getElem? (l := tables_1_9) (i := 211) (by decide +kernel)))))))))))) (by decide +kernel)
theorem kw_145 : Cond.fieldLink R_Th 22 "LuaMachineModel$Thread_" "room" "I" ∈ wA := kinm (show _ ∈ tables_1 from (List.mem_append_right _ (List.mem_append_right _ (List.mem_append_right _ (List.mem_append_right _ (List.mem_append_right _ (List.mem_append_right _ (List.mem_append_right _ (List.mem_append_right _ (List.mem_append_left _ (List.mem_of_getElem? (l := tables_1_9) (i := 213) (by decide +kernel)))))))))))) (by decide +kernel)
theorem kw_146 : Cond.fieldLink R_Th 25 "LuaMachineModel$Thread_" "begun" "Z" ∈ wA := kinm (show _ ∈ tables_1 from (List.mem_append_right _ (List.mem_append_right _ (List.mem_append_right _ (List.mem_append_right _ (List.mem_append_right _ (List.mem_append_right _ (List.mem_append_right _ (List.mem_append_right _ (List.mem_append_left _ (List.mem_of_getElem? (l := tables_1_9) (i := 214) (by decide +kernel)))))))))))) (by decide +kernel)
theorem kw_147 : Cond.fieldLink R_Th 29 "LuaMachineModel$Thread_" "resumer" "LLuaMachineModel$Thread_;" ∈ wA := kinm (show _ ∈ tables_1 from (List.mem_append_right _ (List.mem_append_right _ (List.mem_append_right _ (List.mem_append_right _ (List.mem_append_right _ (List.mem_append_right _ (List.mem_append_right _ (List.mem_append_right _ (List.mem_append_left _ (List.mem_of_getElem? (l := tables_1_9) (i := 216) (by decide +kernel)))))))))))) (by decide +kernel)
theorem kw_148 : Cond.fieldLink R_Th 45 "LuaMachineModel$Thread_" "start" "LLuaMachineModel$Values;" ∈ wA := kinm (show _ ∈ tables_1 from (List.mem_append_right _ (List.mem_append_right _ (List.mem_append_right _ (List.mem_append_right _ (List.mem_append_right _ (List.mem_append_right _ (List.mem_append_right _ (List.mem_append_right _ (List.mem_append_left _ (List.mem_of_getElem? (l := tables_1_9) (i := 222) (by decide +kernel)))))))))))) (by decide +kernel)
theorem kw_149 : Cond.fieldLink R_Th 85 "LuaMachineModel$Values" "n" "I" ∈ wA := kinm (show _ ∈ tables_1 from (List.mem_append_right _ (List.mem_append_right _ (List.mem_append_right _ (List.mem_append_right _ (List.mem_append_right _ (List.mem_append_right _ (List.mem_append_right _ (List.mem_append_right _ (List.mem_append_left _ (List.mem_of_getElem? (l := tables_1_9) (i := 127) (by decide +kernel)))))))))))) (by decide +kernel)
theorem kw_150 : Cond.instanceMethod y_Th_begin ∈ wA := kinm (show _ ∈ tables_1 from (List.mem_append_right _ (List.mem_append_right _ (List.mem_append_right _ (List.mem_append_right _ (List.mem_append_right _ (List.mem_append_right _ (List.mem_append_right _ (List.mem_append_right _ (List.mem_append_right _ (List.mem_append_right _ (List.mem_append_right _ (List.mem_append_left _ (List.mem_of_getElem? (l := tables_1_12) (i := 122) (by decide +kernel))))))))))))))) (by decide +kernel)
theorem kw_151 : Cond.selects R_Th y_Th_begin y_Th_begin ∈ wA := kinm (show _ ∈ tables_1 from (List.mem_append_right _ (List.mem_append_right _ (List.mem_append_right _ (List.mem_append_right _ (List.mem_append_right _ (List.mem_append_right _ (List.mem_append_right _ (List.mem_append_right _ (List.mem_append_right _ (List.mem_append_right _ (List.mem_append_right _ (List.mem_append_left _ (List.mem_of_getElem? (l := tables_1_12) (i := 123) (by decide +kernel))))))))))))))) (by decide +kernel)
theorem kw_152 : Cond.initialized R_Th ∈ wA := kinm (show _ ∈ tables_1 from (List.mem_append_left _ (List.mem_of_getElem? (l := tables_1_1) (i := 11) (by decide +kernel)))) (by decide +kernel)
def M_Th_begin (l0 : Int32) (l1 : Int32) : M (Unit) :=
  oB (oPI 3584 l0 l1) fun _ =>
  oB (oPI 3585 l0 0) fun _ =>
  oB (oPI 3586 l0 0) fun _ =>
  oB (oPI 3587 l0 0) fun _ =>
  oB (oPI 3588 l0 0) fun _ =>
  oB (oPI 3589 l0 0) fun _ =>
  oB (oPI 3590 l0 (-1)) fun _ =>
  oB (oPI 3202 l0 0) fun _ =>
  oR ()

theorem cv_Th_begin : CV y_Th_begin b_Th_begin 2 none 1 := ⟨kw_150, kw_151, kw_152, k_Th_begin, by decide +kernel⟩
theorem ct_Th_begin {l : Launch} {P : PP} {q : PL} {s s' : S1} {l0 : Int32} {l1 : Int32} (hp0 : 0 ≤ l0 ∧ l0 < 33) {r : Unit} (h : M_Th_begin l0 l1 s = some (r, s')) : Ct l y_Th_begin b_Th_begin 2 none 0 0 P q s [.ref (q.1 28 l0), .int l1] none q s' := by
  refine ct_of (by decide) (Nat.le_of_ble_eq_true rfl) fun X ls eP el g hR hl => ?_
  have hR : Rt X q ((r, s') : Unit × S1).2 none := hR
  have hl : lv_has ls 2 [(0, .ref (q.1 28 l0)), (1, .int l1)] := hl
  generalize (r, s') = o at h hR
  unfold M_Th_begin at h
  refine ww_aload_n (pc := 0) g.1 d_Th_begin_0 rfl (lv_at hl 0 rfl) ?_
  refine ww_iload_n (pc := 1) g.1 d_Th_begin_1 rfl (lv_at hl 1 rfl) ?_
  refine ww_pI (pc := 2) g (k := 0) cl_Th (pt rfl rfl hp0) (by decide) (Or.inl kw_141) rfl (f := 3584) rfl rfl rfl rfl d_Th_begin_2 h fun s hs h => ?_
  refine ww_aload_n (pc := 5) g.1 d_Th_begin_5 rfl (lv_at hl 0 rfl) ?_
  refine ww_iconst (pc := 6) g.1 (v := 0) d_Th_begin_6 (by decide) ?_
  refine ww_pI (pc := 7) g (k := 1) cl_Th (pt rfl rfl hp0) (by decide) (Or.inl kw_142) rfl (f := 3585) rfl rfl rfl rfl d_Th_begin_7 h fun s hs h => ?_
  refine ww_aload_n (pc := 10) g.1 d_Th_begin_10 rfl (lv_at hl 0 rfl) ?_
  refine ww_iconst (pc := 11) g.1 (v := 0) d_Th_begin_11 (by decide) ?_
  refine ww_pI (pc := 12) g (k := 2) cl_Th (pt rfl rfl hp0) (by decide) (Or.inl kw_143) rfl (f := 3586) rfl rfl rfl rfl d_Th_begin_12 h fun s hs h => ?_
  refine ww_aload_n (pc := 15) g.1 d_Th_begin_15 rfl (lv_at hl 0 rfl) ?_
  refine ww_iconst (pc := 16) g.1 (v := 0) d_Th_begin_16 (by decide) ?_
  refine ww_pI (pc := 17) g (k := 3) cl_Th (pt rfl rfl hp0) (by decide) (Or.inl kw_144) rfl (f := 3587) rfl rfl rfl rfl d_Th_begin_17 h fun s hs h => ?_
  refine ww_aload_n (pc := 20) g.1 d_Th_begin_20 rfl (lv_at hl 0 rfl) ?_
  refine ww_iconst (pc := 21) g.1 (v := 0) d_Th_begin_21 (by decide) ?_
  refine ww_pI (pc := 22) g (k := 4) cl_Th (pt rfl rfl hp0) (by decide) (Or.inl kw_145) rfl (f := 3588) rfl rfl rfl rfl d_Th_begin_22 h fun s hs h => ?_
  refine ww_aload_n (pc := 25) g.1 d_Th_begin_25 rfl (lv_at hl 0 rfl) ?_
  refine ww_iconst (pc := 26) g.1 (v := 0) d_Th_begin_26 (by decide) ?_
  refine ww_pI (pc := 27) g (k := 5) cl_Th (pt rfl rfl hp0) (by decide) (Or.inl kw_146) rfl (f := 3589) rfl rfl rfl rfl d_Th_begin_27 h fun s hs h => ?_
  refine ww_aload_n (pc := 30) g.1 d_Th_begin_30 rfl (lv_at hl 0 rfl) ?_
  refine ww_null (pc := 31) g.1 d_Th_begin_31 ?_
  refine ww_st (st' := [vr q 28 (-1), .ref (q.1 28 l0)]) (by rw [vr_m1]) ?_
  refine ww_pV (pc := 32) g (k := 6) cl_Th (pt rfl rfl hp0) (by decide) (Or.inl kw_147) rfl (f := 3590) (t := 28) rfl rfl rfl rfl fits_vr d_Th_begin_32 h fun s hs h => ?_
  refine ww_aload_n (pc := 35) g.1 d_Th_begin_35 rfl (lv_at hl 0 rfl) ?_
  refine ww_gR (pc := 36) g (k := 9) cl_Th (pt rfl rfl hp0) (by decide) (Or.inl kw_148) (f := 3593) (t := 25) rfl rfl rfl d_Th_begin_36 ?_
  refine ww_iconst (pc := 39) g.1 (v := 0) d_Th_begin_39 (by decide) ?_
  refine ww_pI (pc := 40) g (k := 2) (cl_Va (Or.inr ⟨by decide, hp0⟩)) (pt rfl rfl hp0) (by decide) (Or.inl kw_149) rfl (f := 3202) rfl rfl rfl rfl d_Th_begin_40 h fun s hs h => ?_
  exact ww_vretH (pc := 43) g h hR d_Th_begin_43

abbrev b_Mo_enter : ByteArray := prog_14_method_70_code
def y_Mo_enter : MethodName := ⟨R_Mo, "enter", "(I)V"⟩
abbrev w_Mo_enter : List Cond := .code y_Mo_enter b_Mo_enter 8 none :: wA
set_option maxRecDepth 20000 in
theorem k_Mo_enter : Cond.code y_Mo_enter b_Mo_enter 8 none ∈ wA := kinm (show _ ∈ tables_1 from (List.mem_append_right _ (List.mem_append_right _ (List.mem_append_right _ (List.mem_append_right _ (List.mem_append_right _ (List.mem_append_right _ (List.mem_append_right _ (List.mem_append_right _ (List.mem_append_right _ (List.mem_append_right _ (List.mem_append_right _ (List.mem_append_left _ (List.mem_of_getElem? (l := tables_1_12) (i := 128) rfl)))))))))))))) rfl
theorem d_Mo_enter_0 : decode b_Mo_enter 0 = .ok (.aload_n 0, 1) := by decide +kernel
theorem d_Mo_enter_1 : decode b_Mo_enter 1 = .ok (.getfield 243, 3) := by decide +kernel
theorem d_Mo_enter_4 : decode b_Mo_enter 4 = .ok (.astore_n 2, 1) := by decide +kernel
theorem d_Mo_enter_5 : decode b_Mo_enter 5 = .ok (.aload_n 0, 1) := by decide +kernel
theorem d_Mo_enter_6 : decode b_Mo_enter 6 = .ok (.getfield 168, 3) := by decide +kernel
theorem d_Mo_enter_9 : decode b_Mo_enter 9 = .ok (.iload_n 1, 1) := by decide +kernel
theorem d_Mo_enter_10 : decode b_Mo_enter 10 = .ok (.iaload, 1) := by decide +kernel
theorem d_Mo_enter_11 : decode b_Mo_enter 11 = .ok (.istore_n 3, 1) := by decide +kernel
theorem d_Mo_enter_12 : decode b_Mo_enter 12 = .ok (.iconst 0, 1) := by decide +kernel
theorem d_Mo_enter_13 : decode b_Mo_enter 13 = .ok (.aload_n 0, 1) := by decide +kernel
theorem d_Mo_enter_14 : decode b_Mo_enter 14 = .ok (.getfield 259, 3) := by decide +kernel
theorem d_Mo_enter_17 : decode b_Mo_enter 17 = .ok (.getfield 569, 3) := by decide +kernel
theorem d_Mo_enter_20 : decode b_Mo_enter 20 = .ok (.aload_n 0, 1) := by decide +kernel
theorem d_Mo_enter_21 : decode b_Mo_enter 21 = .ok (.getfield 31, 3) := by decide +kernel
theorem d_Mo_enter_24 : decode b_Mo_enter 24 = .ok (.iload_n 3, 1) := by decide +kernel
theorem d_Mo_enter_25 : decode b_Mo_enter 25 = .ok (.iaload, 1) := by decide +kernel
theorem d_Mo_enter_26 : decode b_Mo_enter 26 = .ok (.isub, 1) := by decide +kernel
theorem d_Mo_enter_27 : decode b_Mo_enter 27 = .ok (.invokestatic 747, 3) := by decide +kernel
theorem d_Mo_enter_30 : decode b_Mo_enter 30 = .ok (.istore 4, 2) := by decide +kernel
theorem d_Mo_enter_32 : decode b_Mo_enter 32 = .ok (.aload_n 0, 1) := by decide +kernel
theorem d_Mo_enter_33 : decode b_Mo_enter 33 = .ok (.getfield 35, 3) := by decide +kernel
theorem d_Mo_enter_36 : decode b_Mo_enter 36 = .ok (.iload_n 3, 1) := by decide +kernel
theorem d_Mo_enter_37 : decode b_Mo_enter 37 = .ok (.iaload, 1) := by decide +kernel
theorem d_Mo_enter_38 : decode b_Mo_enter 38 = .ok (.ifCond .ne 6, 3) := by decide +kernel
theorem d_Mo_enter_41 : decode b_Mo_enter 41 = .ok (.iconst 0, 1) := by decide +kernel
theorem d_Mo_enter_42 : decode b_Mo_enter 42 = .ok (.istore 4, 2) := by decide +kernel
theorem d_Mo_enter_44 : decode b_Mo_enter 44 = .ok (.aload_n 0, 1) := by decide +kernel
theorem d_Mo_enter_45 : decode b_Mo_enter 45 = .ok (.aload_n 2, 1) := by decide +kernel
theorem d_Mo_enter_46 : decode b_Mo_enter 46 = .ok (.invokevirtual 751, 3) := by decide +kernel
theorem d_Mo_enter_49 : decode b_Mo_enter 49 = .ok (.istore 5, 2) := by decide +kernel
theorem d_Mo_enter_51 : decode b_Mo_enter 51 = .ok (.aload_n 2, 1) := by decide +kernel
theorem d_Mo_enter_52 : decode b_Mo_enter 52 = .ok (.getfield 730, 3) := by decide +kernel
theorem d_Mo_enter_55 : decode b_Mo_enter 55 = .ok (.sipush 200, 3) := by decide +kernel
theorem d_Mo_enter_58 : decode b_Mo_enter 58 = .ok (.if_icmp .eq 21, 3) := by decide +kernel
theorem d_Mo_enter_61 : decode b_Mo_enter 61 = .ok (.iload 5, 2) := by decide +kernel
theorem d_Mo_enter_63 : decode b_Mo_enter 63 = .ok (.iload 4, 2) := by decide +kernel
theorem d_Mo_enter_65 : decode b_Mo_enter 65 = .ok (.iadd, 1) := by decide +kernel
theorem d_Mo_enter_66 : decode b_Mo_enter 66 = .ok (.aload_n 0, 1) := by decide +kernel
theorem d_Mo_enter_67 : decode b_Mo_enter 67 = .ok (.getfield 38, 3) := by decide +kernel
theorem d_Mo_enter_70 : decode b_Mo_enter 70 = .ok (.iload_n 3, 1) := by decide +kernel
theorem d_Mo_enter_71 : decode b_Mo_enter 71 = .ok (.iaload, 1) := by decide +kernel
theorem d_Mo_enter_72 : decode b_Mo_enter 72 = .ok (.iadd, 1) := by decide +kernel
theorem d_Mo_enter_73 : decode b_Mo_enter 73 = .ok (.sipush 4000, 3) := by decide +kernel
theorem d_Mo_enter_76 : decode b_Mo_enter 76 = .ok (.if_icmp .le 18, 3) := by decide +kernel
theorem d_Mo_enter_79 : decode b_Mo_enter 79 = .ok (.aload_n 0, 1) := by decide +kernel
theorem d_Mo_enter_80 : decode b_Mo_enter 80 = .ok (.getfield 259, 3) := by decide +kernel
theorem d_Mo_enter_83 : decode b_Mo_enter 83 = .ok (.iconst 0, 1) := by decide +kernel
theorem d_Mo_enter_84 : decode b_Mo_enter 84 = .ok (.putfield 569, 3) := by decide +kernel
theorem d_Mo_enter_87 : decode b_Mo_enter 87 = .ok (.aload_n 0, 1) := by decide +kernel
theorem d_Mo_enter_88 : decode b_Mo_enter 88 = .ok (.iconst 4, 1) := by decide +kernel
theorem d_Mo_enter_89 : decode b_Mo_enter 89 = .ok (.invokevirtual 517, 3) := by decide +kernel
theorem d_Mo_enter_92 : decode b_Mo_enter 92 = .ok (.pop, 1) := by decide +kernel
theorem d_Mo_enter_93 : decode b_Mo_enter 93 = .ok (.return_, 1) := by decide +kernel
theorem d_Mo_enter_94 : decode b_Mo_enter 94 = .ok (.aload_n 0, 1) := by decide +kernel
theorem d_Mo_enter_95 : decode b_Mo_enter 95 = .ok (.iconst 0, 1) := by decide +kernel
theorem d_Mo_enter_96 : decode b_Mo_enter 96 = .ok (.iload_n 1, 1) := by decide +kernel
theorem d_Mo_enter_97 : decode b_Mo_enter 97 = .ok (.invokevirtual 755, 3) := by decide +kernel
theorem d_Mo_enter_100 : decode b_Mo_enter 100 = .ok (.pop, 1) := by decide +kernel
theorem d_Mo_enter_101 : decode b_Mo_enter 101 = .ok (.aload_n 2, 1) := by decide +kernel
theorem d_Mo_enter_102 : decode b_Mo_enter 102 = .ok (.invokevirtual 703, 3) := by decide +kernel
theorem d_Mo_enter_105 : decode b_Mo_enter 105 = .ok (.istore 6, 2) := by decide +kernel
theorem d_Mo_enter_107 : decode b_Mo_enter 107 = .ok (.aload_n 2, 1) := by decide +kernel
theorem d_Mo_enter_108 : decode b_Mo_enter 108 = .ok (.getfield 758, 3) := by decide +kernel
theorem d_Mo_enter_111 : decode b_Mo_enter 111 = .ok (.iload 6, 2) := by decide +kernel
theorem d_Mo_enter_113 : decode b_Mo_enter 113 = .ok (.iconst 0, 1) := by decide +kernel
theorem d_Mo_enter_114 : decode b_Mo_enter 114 = .ok (.iastore, 1) := by decide +kernel
theorem d_Mo_enter_115 : decode b_Mo_enter 115 = .ok (.aload_n 2, 1) := by decide +kernel
theorem d_Mo_enter_116 : decode b_Mo_enter 116 = .ok (.getfield 741, 3) := by decide +kernel
theorem d_Mo_enter_119 : decode b_Mo_enter 119 = .ok (.iload 6, 2) := by decide +kernel
theorem d_Mo_enter_121 : decode b_Mo_enter 121 = .ok (.iload 4, 2) := by decide +kernel
theorem d_Mo_enter_123 : decode b_Mo_enter 123 = .ok (.iastore, 1) := by decide +kernel
theorem d_Mo_enter_124 : decode b_Mo_enter 124 = .ok (.aload_n 2, 1) := by decide +kernel
theorem d_Mo_enter_125 : decode b_Mo_enter 125 = .ok (.getfield 744, 3) := by decide +kernel
theorem d_Mo_enter_128 : decode b_Mo_enter 128 = .ok (.iload 6, 2) := by decide +kernel
theorem d_Mo_enter_130 : decode b_Mo_enter 130 = .ok (.iload 5, 2) := by decide +kernel
theorem d_Mo_enter_132 : decode b_Mo_enter 132 = .ok (.iload 4, 2) := by decide +kernel
theorem d_Mo_enter_134 : decode b_Mo_enter 134 = .ok (.iadd, 1) := by decide +kernel
theorem d_Mo_enter_135 : decode b_Mo_enter 135 = .ok (.iastore, 1) := by decide +kernel
theorem d_Mo_enter_136 : decode b_Mo_enter 136 = .ok (.iconst 0, 1) := by decide +kernel
theorem d_Mo_enter_137 : decode b_Mo_enter 137 = .ok (.istore 7, 2) := by decide +kernel
theorem d_Mo_enter_139 : decode b_Mo_enter 139 = .ok (.iload 7, 2) := by decide +kernel
theorem d_Mo_enter_141 : decode b_Mo_enter 141 = .ok (.iload 4, 2) := by decide +kernel
theorem d_Mo_enter_143 : decode b_Mo_enter 143 = .ok (.if_icmp .ge 34, 3) := by decide +kernel
theorem d_Mo_enter_146 : decode b_Mo_enter 146 = .ok (.aload_n 2, 1) := by decide +kernel
theorem d_Mo_enter_147 : decode b_Mo_enter 147 = .ok (.getfield 591, 3) := by decide +kernel
theorem d_Mo_enter_150 : decode b_Mo_enter 150 = .ok (.iload 5, 2) := by decide +kernel
theorem d_Mo_enter_152 : decode b_Mo_enter 152 = .ok (.iload 7, 2) := by decide +kernel
theorem d_Mo_enter_154 : decode b_Mo_enter 154 = .ok (.iadd, 1) := by decide +kernel
theorem d_Mo_enter_155 : decode b_Mo_enter 155 = .ok (.aload_n 0, 1) := by decide +kernel
theorem d_Mo_enter_156 : decode b_Mo_enter 156 = .ok (.getfield 259, 3) := by decide +kernel
theorem d_Mo_enter_159 : decode b_Mo_enter 159 = .ok (.aload_n 0, 1) := by decide +kernel
theorem d_Mo_enter_160 : decode b_Mo_enter 160 = .ok (.getfield 31, 3) := by decide +kernel
theorem d_Mo_enter_163 : decode b_Mo_enter 163 = .ok (.iload_n 3, 1) := by decide +kernel
theorem d_Mo_enter_164 : decode b_Mo_enter 164 = .ok (.iaload, 1) := by decide +kernel
theorem d_Mo_enter_165 : decode b_Mo_enter 165 = .ok (.iload 7, 2) := by decide +kernel
theorem d_Mo_enter_167 : decode b_Mo_enter 167 = .ok (.iadd, 1) := by decide +kernel
theorem d_Mo_enter_168 : decode b_Mo_enter 168 = .ok (.invokevirtual 719, 3) := by decide +kernel
theorem d_Mo_enter_171 : decode b_Mo_enter 171 = .ok (.iinc 7 1, 3) := by decide +kernel
theorem d_Mo_enter_174 : decode b_Mo_enter 174 = .ok (.goto (-35), 3) := by decide +kernel
theorem d_Mo_enter_177 : decode b_Mo_enter 177 = .ok (.iconst 0, 1) := by decide +kernel
theorem d_Mo_enter_178 : decode b_Mo_enter 178 = .ok (.istore 7, 2) := by decide +kernel
theorem d_Mo_enter_180 : decode b_Mo_enter 180 = .ok (.iload 7, 2) := by decide +kernel
theorem d_Mo_enter_182 : decode b_Mo_enter 182 = .ok (.aload_n 0, 1) := by decide +kernel
theorem d_Mo_enter_183 : decode b_Mo_enter 183 = .ok (.getfield 38, 3) := by decide +kernel
theorem d_Mo_enter_186 : decode b_Mo_enter 186 = .ok (.iload_n 3, 1) := by decide +kernel
theorem d_Mo_enter_187 : decode b_Mo_enter 187 = .ok (.iaload, 1) := by decide +kernel
theorem d_Mo_enter_188 : decode b_Mo_enter 188 = .ok (.if_icmp .ge 73, 3) := by decide +kernel
theorem d_Mo_enter_191 : decode b_Mo_enter 191 = .ok (.iload 7, 2) := by decide +kernel
theorem d_Mo_enter_193 : decode b_Mo_enter 193 = .ok (.aload_n 0, 1) := by decide +kernel
theorem d_Mo_enter_194 : decode b_Mo_enter 194 = .ok (.getfield 31, 3) := by decide +kernel
theorem d_Mo_enter_197 : decode b_Mo_enter 197 = .ok (.iload_n 3, 1) := by decide +kernel
theorem d_Mo_enter_198 : decode b_Mo_enter 198 = .ok (.iaload, 1) := by decide +kernel
theorem d_Mo_enter_199 : decode b_Mo_enter 199 = .ok (.if_icmp .ge 39, 3) := by decide +kernel
theorem d_Mo_enter_202 : decode b_Mo_enter 202 = .ok (.iload 7, 2) := by decide +kernel
theorem d_Mo_enter_204 : decode b_Mo_enter 204 = .ok (.aload_n 0, 1) := by decide +kernel
theorem d_Mo_enter_205 : decode b_Mo_enter 205 = .ok (.getfield 259, 3) := by decide +kernel
theorem d_Mo_enter_208 : decode b_Mo_enter 208 = .ok (.getfield 569, 3) := by decide +kernel
theorem d_Mo_enter_211 : decode b_Mo_enter 211 = .ok (.if_icmp .ge 27, 3) := by decide +kernel
theorem d_Mo_enter_214 : decode b_Mo_enter 214 = .ok (.aload_n 2, 1) := by decide +kernel
theorem d_Mo_enter_215 : decode b_Mo_enter 215 = .ok (.getfield 591, 3) := by decide +kernel
theorem d_Mo_enter_218 : decode b_Mo_enter 218 = .ok (.iload 5, 2) := by decide +kernel
theorem d_Mo_enter_220 : decode b_Mo_enter 220 = .ok (.iload 4, 2) := by decide +kernel
theorem d_Mo_enter_222 : decode b_Mo_enter 222 = .ok (.iadd, 1) := by decide +kernel
theorem d_Mo_enter_223 : decode b_Mo_enter 223 = .ok (.iload 7, 2) := by decide +kernel
theorem d_Mo_enter_225 : decode b_Mo_enter 225 = .ok (.iadd, 1) := by decide +kernel
theorem d_Mo_enter_226 : decode b_Mo_enter 226 = .ok (.aload_n 0, 1) := by decide +kernel
theorem d_Mo_enter_227 : decode b_Mo_enter 227 = .ok (.getfield 259, 3) := by decide +kernel
theorem d_Mo_enter_230 : decode b_Mo_enter 230 = .ok (.iload 7, 2) := by decide +kernel
theorem d_Mo_enter_232 : decode b_Mo_enter 232 = .ok (.invokevirtual 719, 3) := by decide +kernel
theorem d_Mo_enter_235 : decode b_Mo_enter 235 = .ok (.goto 20, 3) := by decide +kernel
theorem d_Mo_enter_238 : decode b_Mo_enter 238 = .ok (.aload_n 2, 1) := by decide +kernel
theorem d_Mo_enter_239 : decode b_Mo_enter 239 = .ok (.getfield 591, 3) := by decide +kernel
theorem d_Mo_enter_242 : decode b_Mo_enter 242 = .ok (.iload 5, 2) := by decide +kernel
theorem d_Mo_enter_244 : decode b_Mo_enter 244 = .ok (.iload 4, 2) := by decide +kernel
theorem d_Mo_enter_246 : decode b_Mo_enter 246 = .ok (.iadd, 1) := by decide +kernel
theorem d_Mo_enter_247 : decode b_Mo_enter 247 = .ok (.iload 7, 2) := by decide +kernel
theorem d_Mo_enter_249 : decode b_Mo_enter 249 = .ok (.iadd, 1) := by decide +kernel
theorem d_Mo_enter_250 : decode b_Mo_enter 250 = .ok (.iconst 0, 1) := by decide +kernel
theorem d_Mo_enter_251 : decode b_Mo_enter 251 = .ok (.lconst 0, 1) := by decide +kernel
theorem d_Mo_enter_252 : decode b_Mo_enter 252 = .ok (.invokevirtual 470, 3) := by decide +kernel
theorem d_Mo_enter_255 : decode b_Mo_enter 255 = .ok (.iinc 7 1, 3) := by decide +kernel
theorem d_Mo_enter_258 : decode b_Mo_enter 258 = .ok (.goto (-78), 3) := by decide +kernel
theorem d_Mo_enter_261 : decode b_Mo_enter 261 = .ok (.aload_n 0, 1) := by decide +kernel
theorem d_Mo_enter_262 : decode b_Mo_enter 262 = .ok (.getfield 259, 3) := by decide +kernel
theorem d_Mo_enter_265 : decode b_Mo_enter 265 = .ok (.iconst 0, 1) := by decide +kernel
theorem d_Mo_enter_266 : decode b_Mo_enter 266 = .ok (.putfield 569, 3) := by decide +kernel
theorem d_Mo_enter_269 : decode b_Mo_enter 269 = .ok (.return_, 1) := by decide +kernel
abbrev b_Mo_topOf : ByteArray := prog_14_method_69_code
def y_Mo_topOf : MethodName := ⟨R_Mo, "topOf", "(LLuaMachineModel$Thread_;)I"⟩
abbrev w_Mo_topOf : List Cond := .code y_Mo_topOf b_Mo_topOf 3 (some .int) :: wA
theorem k_Mo_topOf : Cond.code y_Mo_topOf b_Mo_topOf 3 (some .int) ∈ wA := kinm (show _ ∈ tables_1 from (List.mem_append_right _ (List.mem_append_right _ (List.mem_append_right _ (List.mem_append_right _ (List.mem_append_right _ (List.mem_append_right _ (List.mem_append_right _ (List.mem_append_right _ (List.mem_append_right _ (List.mem_append_right _ (List.mem_append_right _ (List.mem_append_left _ (List.mem_of_getElem? (l := tables_1_12) (i := 133) (by decide +kernel))))))))))))))) (by decide +kernel)
theorem d_Mo_topOf_0 : decode b_Mo_topOf 0 = .ok (.aload_n 1, 1) := by decide +kernel
theorem d_Mo_topOf_1 : decode b_Mo_topOf 1 = .ok (.invokevirtual 703, 3) := by decide +kernel
theorem d_Mo_topOf_4 : decode b_Mo_topOf 4 = .ok (.istore_n 2, 1) := by decide +kernel
theorem d_Mo_topOf_5 : decode b_Mo_topOf 5 = .ok (.iload_n 2, 1) := by decide +kernel
theorem d_Mo_topOf_6 : decode b_Mo_topOf 6 = .ok (.ifCond .lt 42, 3) := by decide +kernel
theorem d_Mo_topOf_9 : decode b_Mo_topOf 9 = .ok (.aload_n 1, 1) := by decide +kernel
theorem d_Mo_topOf_10 : decode b_Mo_topOf 10 = .ok (.getfield 733, 3) := by decide +kernel
theorem d_Mo_topOf_13 : decode b_Mo_topOf 13 = .ok (.iload_n 2, 1) := by decide +kernel
theorem d_Mo_topOf_14 : decode b_Mo_topOf 14 = .ok (.iaload, 1) := by decide +kernel
theorem d_Mo_topOf_15 : decode b_Mo_topOf 15 = .ok (.ifCond .ne 27, 3) := by decide +kernel
theorem d_Mo_topOf_18 : decode b_Mo_topOf 18 = .ok (.aload_n 1, 1) := by decide +kernel
theorem d_Mo_topOf_19 : decode b_Mo_topOf 19 = .ok (.getfield 744, 3) := by decide +kernel
theorem d_Mo_topOf_22 : decode b_Mo_topOf 22 = .ok (.iload_n 2, 1) := by decide +kernel
theorem d_Mo_topOf_23 : decode b_Mo_topOf 23 = .ok (.iaload, 1) := by decide +kernel
theorem d_Mo_topOf_24 : decode b_Mo_topOf 24 = .ok (.aload_n 0, 1) := by decide +kernel
theorem d_Mo_topOf_25 : decode b_Mo_topOf 25 = .ok (.getfield 38, 3) := by decide +kernel
theorem d_Mo_topOf_28 : decode b_Mo_topOf 28 = .ok (.aload_n 0, 1) := by decide +kernel
theorem d_Mo_topOf_29 : decode b_Mo_topOf 29 = .ok (.getfield 168, 3) := by decide +kernel
theorem d_Mo_topOf_32 : decode b_Mo_topOf 32 = .ok (.aload_n 1, 1) := by decide +kernel
theorem d_Mo_topOf_33 : decode b_Mo_topOf 33 = .ok (.getfield 736, 3) := by decide +kernel
theorem d_Mo_topOf_36 : decode b_Mo_topOf 36 = .ok (.iload_n 2, 1) := by decide +kernel
theorem d_Mo_topOf_37 : decode b_Mo_topOf 37 = .ok (.iaload, 1) := by decide +kernel
theorem d_Mo_topOf_38 : decode b_Mo_topOf 38 = .ok (.iaload, 1) := by decide +kernel
theorem d_Mo_topOf_39 : decode b_Mo_topOf 39 = .ok (.iaload, 1) := by decide +kernel
theorem d_Mo_topOf_40 : decode b_Mo_topOf 40 = .ok (.iadd, 1) := by decide +kernel
theorem d_Mo_topOf_41 : decode b_Mo_topOf 41 = .ok (.ireturn, 1) := by decide +kernel
theorem d_Mo_topOf_42 : decode b_Mo_topOf 42 = .ok (.iinc 2 (-1), 3) := by decide +kernel
theorem d_Mo_topOf_45 : decode b_Mo_topOf 45 = .ok (.goto (-40), 3) := by decide +kernel
theorem d_Mo_topOf_48 : decode b_Mo_topOf 48 = .ok (.iconst 0, 1) := by decide +kernel
theorem d_Mo_topOf_49 : decode b_Mo_topOf 49 = .ok (.ireturn, 1) := by decide +kernel
abbrev b_Th_top : ByteArray := prog_15_method_3_code
def y_Th_top : MethodName := ⟨R_Th, "top", "()I"⟩
abbrev w_Th_top : List Cond := .code y_Th_top b_Th_top 1 (some .int) :: wA
theorem k_Th_top : Cond.code y_Th_top b_Th_top 1 (some .int) ∈ wA := kinm (show _ ∈ tables_1 from (List.mem_append_right _ (List.mem_append_right _ (List.mem_append_right _ (List.mem_append_right _ (List.mem_append_right _ (List.mem_append_right _ (List.mem_append_right _ (List.mem_append_right _ (List.mem_append_right _ (List.mem_append_right _ (List.mem_append_right _ (List.mem_append_left _ (List.mem_of_getElem? (l := tables_1_12) (i := 137) (by decide +kernel))))))))))))))) (by decide +kernel)
theorem d_Th_top_0 : decode b_Th_top 0 = .ok (.aload_n 0, 1) := by decide +kernel
theorem d_Th_top_1 : decode b_Th_top 1 = .ok (.getfield 16, 3) := by decide +kernel
theorem d_Th_top_4 : decode b_Th_top 4 = .ok (.iconst 1, 1) := by decide +kernel
theorem d_Th_top_5 : decode b_Th_top 5 = .ok (.isub, 1) := by decide +kernel
theorem d_Th_top_6 : decode b_Th_top 6 = .ok (.ireturn, 1) := by decide +kernel
theorem kw_153 : Cond.instanceMethod y_Th_top ∈ wA := kinm (show _ ∈ tables_1 from (List.mem_append_right _ (List.mem_append_right _ (List.mem_append_right _ (List.mem_append_right _ (List.mem_append_right _ (List.mem_append_right _ (List.mem_append_right _ (List.mem_append_right _ (List.mem_append_right _ (List.mem_append_right _ (List.mem_append_right _ (List.mem_append_left _ (List.mem_of_getElem? (l := tables_1_12) (i := 135) (by decide +kernel))))))))))))))) (by decide +kernel)
theorem kw_154 : Cond.selects R_Th y_Th_top y_Th_top ∈ wA := kinm (show _ ∈ tables_1 from (List.mem_append_right _ (List.mem_append_right _ (List.mem_append_right _ (List.mem_append_right _ (List.mem_append_right _ (List.mem_append_right _ (List.mem_append_right _ (List.mem_append_right _ (List.mem_append_right _ (List.mem_append_right _ (List.mem_append_right _ (List.mem_append_left _ (List.mem_of_getElem? (l := tables_1_12) (i := 136) (by decide +kernel))))))))))))))) (by decide +kernel)
def M_Th_top (l0 : Int32) : M (Int32) :=
  oB (oGI 3586 l0) fun v1 =>
  oR (v1 - 1)

theorem cv_Th_top : CV y_Th_top b_Th_top 1 (some .int) 0 := ⟨kw_153, kw_154, kw_152, k_Th_top, by decide +kernel⟩
theorem ct_Th_top {l : Launch} {P : PP} {q : PL} {s s' : S1} {l0 : Int32} (hp0 : 0 ≤ l0 ∧ l0 < 33) {r : Int32} (h : M_Th_top l0 s = some (r, s')) : Ct l y_Th_top b_Th_top 1 (some .int) 0 0 P q s [.ref (q.1 28 l0)] (some (.int r)) q s' := by
  refine ct_of (by decide) (Nat.le_of_ble_eq_true rfl) fun X ls eP el g hR hl => ?_
  have hR : Rt X q ((r, s') : Int32 × S1).2 (some (.int ((r, s') : Int32 × S1).1)) := hR
  have hl : lv_has ls 1 [(0, .ref (q.1 28 l0))] := hl
  generalize (r, s') = o at h hR
  unfold M_Th_top at h
  refine ww_aload_n (pc := 0) g.1 d_Th_top_0 rfl (lv_at hl 0 rfl) ?_
  refine ww_gI (pc := 1) g (k := 2) cl_Th (pt rfl rfl hp0) (by decide) (Or.inl kw_143) (f := 3586) rfl rfl d_Th_top_1 h fun v1 h => ?_
  refine ww_iconst (pc := 4) g.1 (v := 1) d_Th_top_4 (by decide) ?_
  refine ww_isub (pc := 5) g.1 d_Th_top_5 ?_
  exact ww_iretH (pc := 6) g h hR d_Th_top_6

