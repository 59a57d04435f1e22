abbrev b_Mo_feed : ByteArray := prog_14_method_4_code
def y_Mo_feed : MethodName := ⟨R_Mo, "feed", "(IIIII)I"⟩
abbrev w_Mo_feed : List Cond := .code y_Mo_feed b_Mo_feed 8 (some .int) :: wA
theorem k_Mo_feed : Cond.code y_Mo_feed b_Mo_feed 8 (some .int) ∈ wA := kinm (show _ ∈ tables_1 from (List.mem_append_right _ (List.mem_append_right _ (List.mem_append_right _ (List.mem_append_right _ (List.mem_append_right _ (List.mem_append_right _ (List.mem_append_right _ (List.mem_append_right _ (List.mem_append_right _ (List.mem_append_right _ (List.mem_append_left _ (List.mem_of_getElem? (l := tables_1_11) (i := 124) (by decide +kernel)))))))))))))) (by decide +kernel)
theorem d_Mo_feed_0 : decode b_Mo_feed 0 = .ok (.aload_n 0, 1) := by decide +kernel
theorem d_Mo_feed_1 : decode b_Mo_feed 1 = .ok (.iconst 0, 1) := by decide +kernel
theorem d_Mo_feed_2 : decode b_Mo_feed 2 = .ok (.putfield 18, 3) := by decide +kernel
theorem d_Mo_feed_5 : decode b_Mo_feed 5 = .ok (.aload_n 0, 1) := by decide +kernel
theorem d_Mo_feed_6 : decode b_Mo_feed 6 = .ok (.iconst 1, 1) := by decide +kernel
theorem d_Mo_feed_7 : decode b_Mo_feed 7 = .ok (.aload_n 0, 1) := by decide +kernel
theorem d_Mo_feed_8 : decode b_Mo_feed 8 = .ok (.getfield 14, 3) := by decide +kernel
theorem d_Mo_feed_11 : decode b_Mo_feed 11 = .ok (.ldc_w 444, 3) := by decide +kernel
theorem d_Mo_feed_14 : decode b_Mo_feed 14 = .ok (.if_icmp .le 7, 3) := by decide +kernel
theorem d_Mo_feed_17 : decode b_Mo_feed 17 = .ok (.iconst 1, 1) := by decide +kernel
theorem d_Mo_feed_18 : decode b_Mo_feed 18 = .ok (.goto 4, 3) := by decide +kernel
theorem d_Mo_feed_21 : decode b_Mo_feed 21 = .ok (.iconst 0, 1) := by decide +kernel
theorem d_Mo_feed_22 : decode b_Mo_feed 22 = .ok (.invokevirtual 445, 3) := by decide +kernel
theorem d_Mo_feed_25 : decode b_Mo_feed 25 = .ok (.ifCond .eq 5, 3) := by decide +kernel
theorem d_Mo_feed_28 : decode b_Mo_feed 28 = .ok (.iconst 0, 1) := by decide +kernel
theorem d_Mo_feed_29 : decode b_Mo_feed 29 = .ok (.ireturn, 1) := by decide +kernel
theorem d_Mo_feed_30 : decode b_Mo_feed 30 = .ok (.iconst 5, 1) := by decide +kernel
theorem d_Mo_feed_31 : decode b_Mo_feed 31 = .ok (.newarray .int, 2) := by decide +kernel
theorem d_Mo_feed_33 : decode b_Mo_feed 33 = .ok (.dup, 1) := by decide +kernel
theorem d_Mo_feed_34 : decode b_Mo_feed 34 = .ok (.iconst 0, 1) := by decide +kernel
theorem d_Mo_feed_35 : decode b_Mo_feed 35 = .ok (.iload_n 1, 1) := by decide +kernel
theorem d_Mo_feed_36 : decode b_Mo_feed 36 = .ok (.iastore, 1) := by decide +kernel
theorem d_Mo_feed_37 : decode b_Mo_feed 37 = .ok (.dup, 1) := by decide +kernel
theorem d_Mo_feed_38 : decode b_Mo_feed 38 = .ok (.iconst 1, 1) := by decide +kernel
theorem d_Mo_feed_39 : decode b_Mo_feed 39 = .ok (.iload_n 2, 1) := by decide +kernel
theorem d_Mo_feed_40 : decode b_Mo_feed 40 = .ok (.iastore, 1) := by decide +kernel
theorem d_Mo_feed_41 : decode b_Mo_feed 41 = .ok (.dup, 1) := by decide +kernel
theorem d_Mo_feed_42 : decode b_Mo_feed 42 = .ok (.iconst 2, 1) := by decide +kernel
theorem d_Mo_feed_43 : decode b_Mo_feed 43 = .ok (.iload_n 3, 1) := by decide +kernel
theorem d_Mo_feed_44 : decode b_Mo_feed 44 = .ok (.iastore, 1) := by decide +kernel
theorem d_Mo_feed_45 : decode b_Mo_feed 45 = .ok (.dup, 1) := by decide +kernel
theorem d_Mo_feed_46 : decode b_Mo_feed 46 = .ok (.iconst 3, 1) := by decide +kernel
theorem d_Mo_feed_47 : decode b_Mo_feed 47 = .ok (.iload 4, 2) := by decide +kernel
theorem d_Mo_feed_49 : decode b_Mo_feed 49 = .ok (.iastore, 1) := by decide +kernel
theorem d_Mo_feed_50 : decode b_Mo_feed 50 = .ok (.dup, 1) := by decide +kernel
theorem d_Mo_feed_51 : decode b_Mo_feed 51 = .ok (.iconst 4, 1) := by decide +kernel
theorem d_Mo_feed_52 : decode b_Mo_feed 52 = .ok (.iload 5, 2) := by decide +kernel
theorem d_Mo_feed_54 : decode b_Mo_feed 54 = .ok (.iastore, 1) := by decide +kernel
theorem d_Mo_feed_55 : decode b_Mo_feed 55 = .ok (.astore 6, 2) := by decide +kernel
theorem d_Mo_feed_57 : decode b_Mo_feed 57 = .ok (.iconst 0, 1) := by decide +kernel
theorem d_Mo_feed_58 : decode b_Mo_feed 58 = .ok (.istore 7, 2) := by decide +kernel
theorem d_Mo_feed_60 : decode b_Mo_feed 60 = .ok (.iload 7, 2) := by decide +kernel
theorem d_Mo_feed_62 : decode b_Mo_feed 62 = .ok (.bipush 20, 2) := by decide +kernel
theorem d_Mo_feed_64 : decode b_Mo_feed 64 = .ok (.if_icmp .ge 44, 3) := by decide +kernel
theorem d_Mo_feed_67 : decode b_Mo_feed 67 = .ok (.aload_n 0, 1) := by decide +kernel
theorem d_Mo_feed_68 : decode b_Mo_feed 68 = .ok (.getfield 8, 3) := by decide +kernel
theorem d_Mo_feed_71 : decode b_Mo_feed 71 = .ok (.aload_n 0, 1) := by decide +kernel
theorem d_Mo_feed_72 : decode b_Mo_feed 72 = .ok (.dup, 1) := by decide +kernel
theorem d_Mo_feed_73 : decode b_Mo_feed 73 = .ok (.getfield 14, 3) := by decide +kernel
theorem d_Mo_feed_76 : decode b_Mo_feed 76 = .ok (.dup_x1, 1) := by decide +kernel
theorem d_Mo_feed_77 : decode b_Mo_feed 77 = .ok (.iconst 1, 1) := by decide +kernel
theorem d_Mo_feed_78 : decode b_Mo_feed 78 = .ok (.iadd, 1) := by decide +kernel
theorem d_Mo_feed_79 : decode b_Mo_feed 79 = .ok (.putfield 14, 3) := by decide +kernel
theorem d_Mo_feed_82 : decode b_Mo_feed 82 = .ok (.aload 6, 2) := by decide +kernel
theorem d_Mo_feed_84 : decode b_Mo_feed 84 = .ok (.iload 7, 2) := by decide +kernel
theorem d_Mo_feed_86 : decode b_Mo_feed 86 = .ok (.iconst 4, 1) := by decide +kernel
theorem d_Mo_feed_87 : decode b_Mo_feed 87 = .ok (.idiv, 1) := by decide +kernel
theorem d_Mo_feed_88 : decode b_Mo_feed 88 = .ok (.iaload, 1) := by decide +kernel
theorem d_Mo_feed_89 : decode b_Mo_feed 89 = .ok (.bipush 24, 2) := by decide +kernel
theorem d_Mo_feed_91 : decode b_Mo_feed 91 = .ok (.bipush 8, 2) := by decide +kernel
theorem d_Mo_feed_93 : decode b_Mo_feed 93 = .ok (.iload 7, 2) := by decide +kernel
theorem d_Mo_feed_95 : decode b_Mo_feed 95 = .ok (.iconst 4, 1) := by decide +kernel
theorem d_Mo_feed_96 : decode b_Mo_feed 96 = .ok (.irem, 1) := by decide +kernel
theorem d_Mo_feed_97 : decode b_Mo_feed 97 = .ok (.imul, 1) := by decide +kernel
theorem d_Mo_feed_98 : decode b_Mo_feed 98 = .ok (.isub, 1) := by decide +kernel
theorem d_Mo_feed_99 : decode b_Mo_feed 99 = .ok (.iushr, 1) := by decide +kernel
theorem d_Mo_feed_100 : decode b_Mo_feed 100 = .ok (.i2b, 1) := by decide +kernel
theorem d_Mo_feed_101 : decode b_Mo_feed 101 = .ok (.bastore, 1) := by decide +kernel
theorem d_Mo_feed_102 : decode b_Mo_feed 102 = .ok (.iinc 7 1, 3) := by decide +kernel
theorem d_Mo_feed_105 : decode b_Mo_feed 105 = .ok (.goto (-45), 3) := by decide +kernel
theorem d_Mo_feed_108 : decode b_Mo_feed 108 = .ok (.aload_n 0, 1) := by decide +kernel
theorem d_Mo_feed_109 : decode b_Mo_feed 109 = .ok (.getfield 14, 3) := by decide +kernel
theorem d_Mo_feed_112 : decode b_Mo_feed 112 = .ok (.ireturn, 1) := by decide +kernel
theorem kw_617 : Cond.constant R_Mo 444 65516 ∈ wA := kinm (show _ ∈ tables_1 from (List.mem_append_right _ (List.mem_append_right _ (List.mem_append_right _ (List.mem_append_right _ (List.mem_append_right _ (List.mem_append_right _ (List.mem_append_right _ (List.mem_append_right _ (List.mem_append_right _ (List.mem_append_right _ (List.mem_append_left _ (List.mem_of_getElem? (l := tables_1_11) (i := 125) (by decide +kernel)))))))))))))) (by decide +kernel)
abbrev b_Mo_load_ : ByteArray := prog_14_method_58_code
def y_Mo_load_ : MethodName := ⟨R_Mo, "load", "()I"⟩
abbrev w_Mo_load_ : List Cond := .code y_Mo_load_ b_Mo_load_ 2 (some .int) :: wA
set_option maxRecDepth 20000 in
theorem k_Mo_load_ : Cond.code y_Mo_load_ b_Mo_load_ 2 (some .int) ∈ wA := kinm (show _ ∈ tables_1 from (List.mem_append_right _ (List.mem_append_right _ (List.mem_append_right _ (List.mem_append_right _ (List.mem_append_right _ (List.mem_append_right _ (List.mem_append_right _ (List.mem_append_right _ (List.mem_append_right _ (List.mem_append_right _ (List.mem_append_left _ (List.mem_of_getElem? (l := tables_1_11) (i := 137) rfl))))))))))))) rfl
theorem d_Mo_load__0 : decode b_Mo_load_ 0 = .ok (.aload_n 0, 1) := by decide +kernel
theorem d_Mo_load__1 : decode b_Mo_load_ 1 = .ok (.iconst 0, 1) := by decide +kernel
theorem d_Mo_load__2 : decode b_Mo_load_ 2 = .ok (.putfield 18, 3) := by decide +kernel
theorem d_Mo_load__5 : decode b_Mo_load_ 5 = .ok (.aload_n 0, 1) := by decide +kernel
theorem d_Mo_load__6 : decode b_Mo_load_ 6 = .ok (.getfield 14, 3) := by decide +kernel
theorem d_Mo_load__9 : decode b_Mo_load_ 9 = .ok (.istore_n 1, 1) := by decide +kernel
theorem d_Mo_load__10 : decode b_Mo_load_ 10 = .ok (.aload_n 0, 1) := by decide +kernel
theorem d_Mo_load__11 : decode b_Mo_load_ 11 = .ok (.iconst 0, 1) := by decide +kernel
theorem d_Mo_load__12 : decode b_Mo_load_ 12 = .ok (.putfield 27, 3) := by decide +kernel
theorem d_Mo_load__15 : decode b_Mo_load_ 15 = .ok (.aload_n 0, 1) := by decide +kernel
theorem d_Mo_load__16 : decode b_Mo_load_ 16 = .ok (.iconst 0, 1) := by decide +kernel
theorem d_Mo_load__17 : decode b_Mo_load_ 17 = .ok (.putfield 21, 3) := by decide +kernel
theorem d_Mo_load__20 : decode b_Mo_load_ 20 = .ok (.aload_n 0, 1) := by decide +kernel
theorem d_Mo_load__21 : decode b_Mo_load_ 21 = .ok (.iconst (-1), 1) := by decide +kernel
theorem d_Mo_load__22 : decode b_Mo_load_ 22 = .ok (.putfield 24, 3) := by decide +kernel
theorem d_Mo_load__25 : decode b_Mo_load_ 25 = .ok (.aload_n 0, 1) := by decide +kernel
theorem d_Mo_load__26 : decode b_Mo_load_ 26 = .ok (.iconst 0, 1) := by decide +kernel
theorem d_Mo_load__27 : decode b_Mo_load_ 27 = .ok (.putfield 104, 3) := by decide +kernel
theorem d_Mo_load__30 : decode b_Mo_load_ 30 = .ok (.aload_n 0, 1) := by decide +kernel
theorem d_Mo_load__31 : decode b_Mo_load_ 31 = .ok (.iconst 0, 1) := by decide +kernel
theorem d_Mo_load__32 : decode b_Mo_load_ 32 = .ok (.putfield 89, 3) := by decide +kernel
theorem d_Mo_load__35 : decode b_Mo_load_ 35 = .ok (.aload_n 0, 1) := by decide +kernel
theorem d_Mo_load__36 : decode b_Mo_load_ 36 = .ok (.iconst 0, 1) := by decide +kernel
theorem d_Mo_load__37 : decode b_Mo_load_ 37 = .ok (.putfield 92, 3) := by decide +kernel
theorem d_Mo_load__40 : decode b_Mo_load_ 40 = .ok (.aload_n 0, 1) := by decide +kernel
theorem d_Mo_load__41 : decode b_Mo_load_ 41 = .ok (.iconst 0, 1) := by decide +kernel
theorem d_Mo_load__42 : decode b_Mo_load_ 42 = .ok (.putfield 95, 3) := by decide +kernel
theorem d_Mo_load__45 : decode b_Mo_load_ 45 = .ok (.aload_n 0, 1) := by decide +kernel
theorem d_Mo_load__46 : decode b_Mo_load_ 46 = .ok (.iconst 0, 1) := by decide +kernel
theorem d_Mo_load__47 : decode b_Mo_load_ 47 = .ok (.putfield 98, 3) := by decide +kernel
theorem d_Mo_load__50 : decode b_Mo_load_ 50 = .ok (.aload_n 0, 1) := by decide +kernel
theorem d_Mo_load__51 : decode b_Mo_load_ 51 = .ok (.iconst 0, 1) := by decide +kernel
theorem d_Mo_load__52 : decode b_Mo_load_ 52 = .ok (.putfield 101, 3) := by decide +kernel
theorem d_Mo_load__55 : decode b_Mo_load_ 55 = .ok (.aload_n 0, 1) := by decide +kernel
theorem d_Mo_load__56 : decode b_Mo_load_ 56 = .ok (.iconst (-1), 1) := by decide +kernel
theorem d_Mo_load__57 : decode b_Mo_load_ 57 = .ok (.iconst 1, 1) := by decide +kernel
theorem d_Mo_load__58 : decode b_Mo_load_ 58 = .ok (.invokevirtual 466, 3) := by decide +kernel
theorem d_Mo_load__61 : decode b_Mo_load_ 61 = .ok (.aload_n 0, 1) := by decide +kernel
theorem d_Mo_load__62 : decode b_Mo_load_ 62 = .ok (.getfield 21, 3) := by decide +kernel
theorem d_Mo_load__65 : decode b_Mo_load_ 65 = .ok (.ifCond .ne 24, 3) := by decide +kernel
theorem d_Mo_load__68 : decode b_Mo_load_ 68 = .ok (.aload_n 0, 1) := by decide +kernel
theorem d_Mo_load__69 : decode b_Mo_load_ 69 = .ok (.getfield 104, 3) := by decide +kernel
theorem d_Mo_load__72 : decode b_Mo_load_ 72 = .ok (.aload_n 0, 1) := by decide +kernel
theorem d_Mo_load__73 : decode b_Mo_load_ 73 = .ok (.getfield 14, 3) := by decide +kernel
theorem d_Mo_load__76 : decode b_Mo_load_ 76 = .ok (.if_icmp .eq 13, 3) := by decide +kernel
theorem d_Mo_load__79 : decode b_Mo_load_ 79 = .ok (.aload_n 0, 1) := by decide +kernel
theorem d_Mo_load__80 : decode b_Mo_load_ 80 = .ok (.iconst 5, 1) := by decide +kernel
theorem d_Mo_load__81 : decode b_Mo_load_ 81 = .ok (.aload_n 0, 1) := by decide +kernel
theorem d_Mo_load__82 : decode b_Mo_load_ 82 = .ok (.getfield 104, 3) := by decide +kernel
theorem d_Mo_load__85 : decode b_Mo_load_ 85 = .ok (.invokevirtual 449, 3) := by decide +kernel
theorem d_Mo_load__88 : decode b_Mo_load_ 88 = .ok (.pop, 1) := by decide +kernel
theorem d_Mo_load__89 : decode b_Mo_load_ 89 = .ok (.aload_n 0, 1) := by decide +kernel
theorem d_Mo_load__90 : decode b_Mo_load_ 90 = .ok (.getfield 21, 3) := by decide +kernel
theorem d_Mo_load__93 : decode b_Mo_load_ 93 = .ok (.ifCond .ne 7, 3) := by decide +kernel
theorem d_Mo_load__96 : decode b_Mo_load_ 96 = .ok (.aload_n 0, 1) := by decide +kernel
theorem d_Mo_load__97 : decode b_Mo_load_ 97 = .ok (.invokevirtual 660, 3) := by decide +kernel
theorem d_Mo_load__100 : decode b_Mo_load_ 100 = .ok (.aload_n 0, 1) := by decide +kernel
theorem d_Mo_load__101 : decode b_Mo_load_ 101 = .ok (.iconst 0, 1) := by decide +kernel
theorem d_Mo_load__102 : decode b_Mo_load_ 102 = .ok (.putfield 14, 3) := by decide +kernel
theorem d_Mo_load__105 : decode b_Mo_load_ 105 = .ok (.aload_n 0, 1) := by decide +kernel
theorem d_Mo_load__106 : decode b_Mo_load_ 106 = .ok (.iconst 1, 1) := by decide +kernel
theorem d_Mo_load__107 : decode b_Mo_load_ 107 = .ok (.aload_n 0, 1) := by decide +kernel
theorem d_Mo_load__108 : decode b_Mo_load_ 108 = .ok (.getfield 21, 3) := by decide +kernel
theorem d_Mo_load__111 : decode b_Mo_load_ 111 = .ok (.ifCond .eq 7, 3) := by decide +kernel
theorem d_Mo_load__114 : decode b_Mo_load_ 114 = .ok (.iconst 1, 1) := by decide +kernel
theorem d_Mo_load__115 : decode b_Mo_load_ 115 = .ok (.goto 4, 3) := by decide +kernel
theorem d_Mo_load__118 : decode b_Mo_load_ 118 = .ok (.iconst 0, 1) := by decide +kernel
theorem d_Mo_load__119 : decode b_Mo_load_ 119 = .ok (.invokevirtual 445, 3) := by decide +kernel
theorem d_Mo_load__122 : decode b_Mo_load_ 122 = .ok (.ifCond .eq 5, 3) := by decide +kernel
theorem d_Mo_load__125 : decode b_Mo_load_ 125 = .ok (.iconst 0, 1) := by decide +kernel
theorem d_Mo_load__126 : decode b_Mo_load_ 126 = .ok (.ireturn, 1) := by decide +kernel
theorem d_Mo_load__127 : decode b_Mo_load_ 127 = .ok (.aload_n 0, 1) := by decide +kernel
theorem d_Mo_load__128 : decode b_Mo_load_ 128 = .ok (.invokevirtual 663, 3) := by decide +kernel
theorem d_Mo_load__131 : decode b_Mo_load_ 131 = .ok (.aload_n 0, 1) := by decide +kernel
theorem d_Mo_load__132 : decode b_Mo_load_ 132 = .ok (.iconst 2, 1) := by decide +kernel
theorem d_Mo_load__133 : decode b_Mo_load_ 133 = .ok (.aload_n 0, 1) := by decide +kernel
theorem d_Mo_load__134 : decode b_Mo_load_ 134 = .ok (.invokevirtual 666, 3) := by decide +kernel
theorem d_Mo_load__137 : decode b_Mo_load_ 137 = .ok (.ifCond .ne 7, 3) := by decide +kernel
theorem d_Mo_load__140 : decode b_Mo_load_ 140 = .ok (.iconst 1, 1) := by decide +kernel
theorem d_Mo_load__141 : decode b_Mo_load_ 141 = .ok (.goto 4, 3) := by decide +kernel
theorem d_Mo_load__144 : decode b_Mo_load_ 144 = .ok (.iconst 0, 1) := by decide +kernel
theorem d_Mo_load__145 : decode b_Mo_load_ 145 = .ok (.invokevirtual 445, 3) := by decide +kernel
theorem d_Mo_load__148 : decode b_Mo_load_ 148 = .ok (.ifCond .eq 9, 3) := by decide +kernel
theorem d_Mo_load__151 : decode b_Mo_load_ 151 = .ok (.aload_n 0, 1) := by decide +kernel
theorem d_Mo_load__152 : decode b_Mo_load_ 152 = .ok (.invokevirtual 663, 3) := by decide +kernel
theorem d_Mo_load__155 : decode b_Mo_load_ 155 = .ok (.iconst 0, 1) := by decide +kernel
theorem d_Mo_load__156 : decode b_Mo_load_ 156 = .ok (.ireturn, 1) := by decide +kernel
theorem d_Mo_load__157 : decode b_Mo_load_ 157 = .ok (.aload_n 0, 1) := by decide +kernel
theorem d_Mo_load__158 : decode b_Mo_load_ 158 = .ok (.iconst 1, 1) := by decide +kernel
theorem d_Mo_load__159 : decode b_Mo_load_ 159 = .ok (.putfield 27, 3) := by decide +kernel
theorem d_Mo_load__162 : decode b_Mo_load_ 162 = .ok (.aload_n 0, 1) := by decide +kernel
theorem d_Mo_load__163 : decode b_Mo_load_ 163 = .ok (.getfield 89, 3) := by decide +kernel
theorem d_Mo_load__166 : decode b_Mo_load_ 166 = .ok (.ireturn, 1) := by decide +kernel
abbrev b_Mo_clear : ByteArray := prog_14_method_59_code
def y_Mo_clear : MethodName := ⟨R_Mo, "clear", "()V"⟩
abbrev w_Mo_clear : List Cond := .code y_Mo_clear b_Mo_clear 2 none :: wA
set_option maxRecDepth 20000 in
theorem k_Mo_clear : Cond.code y_Mo_clear b_Mo_clear 2 none ∈ wA := kinm (show _ ∈ tables_1 from (List.mem_append_right _ (List.mem_append_right _ (List.mem_append_right _ (List.mem_append_right _ (List.mem_append_right _ (List.mem_append_right _ (List.mem_append_right _ (List.mem_append_right _ (List.mem_append_right _ (List.mem_append_right _ (List.mem_append_left _ (List.mem_of_getElem? (l := tables_1_11) (i := 218) rfl))))))))))))) rfl
theorem d_Mo_clear_0 : decode b_Mo_clear 0 = .ok (.aload_n 0, 1) := by decide +kernel
theorem d_Mo_clear_1 : decode b_Mo_clear 1 = .ok (.getfield 193, 3) := by decide +kernel
theorem d_Mo_clear_4 : decode b_Mo_clear 4 = .ok (.ifnonnull 57, 3) := by decide +kernel
theorem d_Mo_clear_7 : decode b_Mo_clear 7 = .ok (.aload_n 0, 1) := by decide +kernel
theorem d_Mo_clear_8 : decode b_Mo_clear 8 = .ok (.ldc_w 579, 3) := by decide +kernel
theorem d_Mo_clear_11 : decode b_Mo_clear 11 = .ok (.newarray .byte, 2) := by decide +kernel
theorem d_Mo_clear_13 : decode b_Mo_clear 13 = .ok (.putfield 193, 3) := by decide +kernel
theorem d_Mo_clear_16 : decode b_Mo_clear 16 = .ok (.aload_n 0, 1) := by decide +kernel
theorem d_Mo_clear_17 : decode b_Mo_clear 17 = .ok (.ldc_w 579, 3) := by decide +kernel
theorem d_Mo_clear_20 : decode b_Mo_clear 20 = .ok (.newarray .byte, 2) := by decide +kernel
theorem d_Mo_clear_22 : decode b_Mo_clear 22 = .ok (.putfield 196, 3) := by decide +kernel
theorem d_Mo_clear_25 : decode b_Mo_clear 25 = .ok (.aload_n 0, 1) := by decide +kernel
theorem d_Mo_clear_26 : decode b_Mo_clear 26 = .ok (.ldc_w 579, 3) := by decide +kernel
theorem d_Mo_clear_29 : decode b_Mo_clear 29 = .ok (.newarray .long, 2) := by decide +kernel
theorem d_Mo_clear_31 : decode b_Mo_clear 31 = .ok (.putfield 199, 3) := by decide +kernel
theorem d_Mo_clear_34 : decode b_Mo_clear 34 = .ok (.aload_n 0, 1) := by decide +kernel
theorem d_Mo_clear_35 : decode b_Mo_clear 35 = .ok (.ldc_w 579, 3) := by decide +kernel
theorem d_Mo_clear_38 : decode b_Mo_clear 38 = .ok (.newarray .long, 2) := by decide +kernel
theorem d_Mo_clear_40 : decode b_Mo_clear 40 = .ok (.putfield 203, 3) := by decide +kernel
theorem d_Mo_clear_43 : decode b_Mo_clear 43 = .ok (.aload_n 0, 1) := by decide +kernel
theorem d_Mo_clear_44 : decode b_Mo_clear 44 = .ok (.ldc_w 579, 3) := by decide +kernel
theorem d_Mo_clear_47 : decode b_Mo_clear 47 = .ok (.newarray .int, 2) := by decide +kernel
theorem d_Mo_clear_49 : decode b_Mo_clear 49 = .ok (.putfield 206, 3) := by decide +kernel
theorem d_Mo_clear_52 : decode b_Mo_clear 52 = .ok (.aload_n 0, 1) := by decide +kernel
theorem d_Mo_clear_53 : decode b_Mo_clear 53 = .ok (.ldc_w 579, 3) := by decide +kernel
theorem d_Mo_clear_56 : decode b_Mo_clear 56 = .ok (.newarray .int, 2) := by decide +kernel
theorem d_Mo_clear_58 : decode b_Mo_clear 58 = .ok (.putfield 209, 3) := by decide +kernel
theorem d_Mo_clear_61 : decode b_Mo_clear 61 = .ok (.aload_n 0, 1) := by decide +kernel
theorem d_Mo_clear_62 : decode b_Mo_clear 62 = .ok (.iconst 0, 1) := by decide +kernel
theorem d_Mo_clear_63 : decode b_Mo_clear 63 = .ok (.putfield 119, 3) := by decide +kernel
theorem d_Mo_clear_66 : decode b_Mo_clear 66 = .ok (.aload_n 0, 1) := by decide +kernel
theorem d_Mo_clear_67 : decode b_Mo_clear 67 = .ok (.iconst 0, 1) := by decide +kernel
theorem d_Mo_clear_68 : decode b_Mo_clear 68 = .ok (.putfield 122, 3) := by decide +kernel
theorem d_Mo_clear_71 : decode b_Mo_clear 71 = .ok (.aload_n 0, 1) := by decide +kernel
theorem d_Mo_clear_72 : decode b_Mo_clear 72 = .ok (.iconst 0, 1) := by decide +kernel
theorem d_Mo_clear_73 : decode b_Mo_clear 73 = .ok (.putfield 125, 3) := by decide +kernel
theorem d_Mo_clear_76 : decode b_Mo_clear 76 = .ok (.aload_n 0, 1) := by decide +kernel
theorem d_Mo_clear_77 : decode b_Mo_clear 77 = .ok (.iconst 0, 1) := by decide +kernel
theorem d_Mo_clear_78 : decode b_Mo_clear 78 = .ok (.putfield 128, 3) := by decide +kernel
theorem d_Mo_clear_81 : decode b_Mo_clear 81 = .ok (.aload_n 0, 1) := by decide +kernel
theorem d_Mo_clear_82 : decode b_Mo_clear 82 = .ok (.iconst 0, 1) := by decide +kernel
theorem d_Mo_clear_83 : decode b_Mo_clear 83 = .ok (.putfield 131, 3) := by decide +kernel
theorem d_Mo_clear_86 : decode b_Mo_clear 86 = .ok (.aload_n 0, 1) := by decide +kernel
theorem d_Mo_clear_87 : decode b_Mo_clear 87 = .ok (.iconst 0, 1) := by decide +kernel
theorem d_Mo_clear_88 : decode b_Mo_clear 88 = .ok (.putfield 134, 3) := by decide +kernel
theorem d_Mo_clear_91 : decode b_Mo_clear 91 = .ok (.aload_n 0, 1) := by decide +kernel
theorem d_Mo_clear_92 : decode b_Mo_clear 92 = .ok (.iconst 0, 1) := by decide +kernel
theorem d_Mo_clear_93 : decode b_Mo_clear 93 = .ok (.putfield 137, 3) := by decide +kernel
theorem d_Mo_clear_96 : decode b_Mo_clear 96 = .ok (.aload_n 0, 1) := by decide +kernel
theorem d_Mo_clear_97 : decode b_Mo_clear 97 = .ok (.iconst 0, 1) := by decide +kernel
theorem d_Mo_clear_98 : decode b_Mo_clear 98 = .ok (.putfield 140, 3) := by decide +kernel
theorem d_Mo_clear_101 : decode b_Mo_clear 101 = .ok (.aload_n 0, 1) := by decide +kernel
theorem d_Mo_clear_102 : decode b_Mo_clear 102 = .ok (.iconst 0, 1) := by decide +kernel
theorem d_Mo_clear_103 : decode b_Mo_clear 103 = .ok (.putfield 143, 3) := by decide +kernel
theorem d_Mo_clear_106 : decode b_Mo_clear 106 = .ok (.aload_n 0, 1) := by decide +kernel
theorem d_Mo_clear_107 : decode b_Mo_clear 107 = .ok (.iconst 0, 1) := by decide +kernel
theorem d_Mo_clear_108 : decode b_Mo_clear 108 = .ok (.putfield 183, 3) := by decide +kernel
theorem d_Mo_clear_111 : decode b_Mo_clear 111 = .ok (.aload_n 0, 1) := by decide +kernel
theorem d_Mo_clear_112 : decode b_Mo_clear 112 = .ok (.getfield 190, 3) := by decide +kernel
theorem d_Mo_clear_115 : decode b_Mo_clear 115 = .ok (.iconst 0, 1) := by decide +kernel
theorem d_Mo_clear_116 : decode b_Mo_clear 116 = .ok (.invokestatic 669, 3) := by decide +kernel
theorem d_Mo_clear_119 : decode b_Mo_clear 119 = .ok (.aload_n 0, 1) := by decide +kernel
theorem d_Mo_clear_120 : decode b_Mo_clear 120 = .ok (.getfield 155, 3) := by decide +kernel
theorem d_Mo_clear_123 : decode b_Mo_clear 123 = .ok (.iconst 0, 1) := by decide +kernel
theorem d_Mo_clear_124 : decode b_Mo_clear 124 = .ok (.invokestatic 672, 3) := by decide +kernel
theorem d_Mo_clear_127 : decode b_Mo_clear 127 = .ok (.iconst 0, 1) := by decide +kernel
theorem d_Mo_clear_128 : decode b_Mo_clear 128 = .ok (.istore_n 1, 1) := by decide +kernel
theorem d_Mo_clear_129 : decode b_Mo_clear 129 = .ok (.iload_n 1, 1) := by decide +kernel
theorem d_Mo_clear_130 : decode b_Mo_clear 130 = .ok (.bipush 33, 2) := by decide +kernel
theorem d_Mo_clear_132 : decode b_Mo_clear 132 = .ok (.if_icmp .ge 19, 3) := by decide +kernel
theorem d_Mo_clear_135 : decode b_Mo_clear 135 = .ok (.aload_n 0, 1) := by decide +kernel
theorem d_Mo_clear_136 : decode b_Mo_clear 136 = .ok (.getfield 239, 3) := by decide +kernel
theorem d_Mo_clear_139 : decode b_Mo_clear 139 = .ok (.iload_n 1, 1) := by decide +kernel
theorem d_Mo_clear_140 : decode b_Mo_clear 140 = .ok (.aaload, 1) := by decide +kernel
theorem d_Mo_clear_141 : decode b_Mo_clear 141 = .ok (.iconst (-1), 1) := by decide +kernel
theorem d_Mo_clear_142 : decode b_Mo_clear 142 = .ok (.putfield 615, 3) := by decide +kernel
theorem d_Mo_clear_145 : decode b_Mo_clear 145 = .ok (.iinc 1 1, 3) := by decide +kernel
theorem d_Mo_clear_148 : decode b_Mo_clear 148 = .ok (.goto (-19), 3) := by decide +kernel
theorem d_Mo_clear_151 : decode b_Mo_clear 151 = .ok (.aload_n 0, 1) := by decide +kernel
theorem d_Mo_clear_152 : decode b_Mo_clear 152 = .ok (.getfield 259, 3) := by decide +kernel
theorem d_Mo_clear_155 : decode b_Mo_clear 155 = .ok (.iconst 0, 1) := by decide +kernel
theorem d_Mo_clear_156 : decode b_Mo_clear 156 = .ok (.putfield 569, 3) := by decide +kernel
theorem d_Mo_clear_159 : decode b_Mo_clear 159 = .ok (.aload_n 0, 1) := by decide +kernel
theorem d_Mo_clear_160 : decode b_Mo_clear 160 = .ok (.getfield 262, 3) := by decide +kernel
theorem d_Mo_clear_163 : decode b_Mo_clear 163 = .ok (.iconst 0, 1) := by decide +kernel
theorem d_Mo_clear_164 : decode b_Mo_clear 164 = .ok (.putfield 569, 3) := by decide +kernel
theorem d_Mo_clear_167 : decode b_Mo_clear 167 = .ok (.aload_n 0, 1) := by decide +kernel
theorem d_Mo_clear_168 : decode b_Mo_clear 168 = .ok (.getfield 265, 3) := by decide +kernel
theorem d_Mo_clear_171 : decode b_Mo_clear 171 = .ok (.iconst 0, 1) := by decide +kernel
theorem d_Mo_clear_172 : decode b_Mo_clear 172 = .ok (.putfield 569, 3) := by decide +kernel
theorem d_Mo_clear_175 : decode b_Mo_clear 175 = .ok (.aload_n 0, 1) := by decide +kernel
theorem d_Mo_clear_176 : decode b_Mo_clear 176 = .ok (.getfield 234, 3) := by decide +kernel
theorem d_Mo_clear_179 : decode b_Mo_clear 179 = .ok (.iconst 0, 1) := by decide +kernel
theorem d_Mo_clear_180 : decode b_Mo_clear 180 = .ok (.putfield 569, 3) := by decide +kernel
theorem d_Mo_clear_183 : decode b_Mo_clear 183 = .ok (.aload_n 0, 1) := by decide +kernel
theorem d_Mo_clear_184 : decode b_Mo_clear 184 = .ok (.iconst 0, 1) := by decide +kernel
theorem d_Mo_clear_185 : decode b_Mo_clear 185 = .ok (.putfield 215, 3) := by decide +kernel
theorem d_Mo_clear_188 : decode b_Mo_clear 188 = .ok (.aload_n 0, 1) := by decide +kernel
theorem d_Mo_clear_189 : decode b_Mo_clear 189 = .ok (.iconst 0, 1) := by decide +kernel
theorem d_Mo_clear_190 : decode b_Mo_clear 190 = .ok (.putfield 253, 3) := by decide +kernel
theorem d_Mo_clear_193 : decode b_Mo_clear 193 = .ok (.aload_n 0, 1) := by decide +kernel
theorem d_Mo_clear_194 : decode b_Mo_clear 194 = .ok (.iconst 0, 1) := by decide +kernel
theorem d_Mo_clear_195 : decode b_Mo_clear 195 = .ok (.putfield 247, 3) := by decide +kernel
theorem d_Mo_clear_198 : decode b_Mo_clear 198 = .ok (.aload_n 0, 1) := by decide +kernel
theorem d_Mo_clear_199 : decode b_Mo_clear 199 = .ok (.iconst 0, 1) := by decide +kernel
theorem d_Mo_clear_200 : decode b_Mo_clear 200 = .ok (.putfield 268, 3) := by decide +kernel
theorem d_Mo_clear_203 : decode b_Mo_clear 203 = .ok (.aload_n 0, 1) := by decide +kernel
theorem d_Mo_clear_204 : decode b_Mo_clear 204 = .ok (.lconst 0, 1) := by decide +kernel
theorem d_Mo_clear_205 : decode b_Mo_clear 205 = .ok (.putfield 271, 3) := by decide +kernel
theorem d_Mo_clear_208 : decode b_Mo_clear 208 = .ok (.aload_n 0, 1) := by decide +kernel
theorem d_Mo_clear_209 : decode b_Mo_clear 209 = .ok (.iconst 0, 1) := by decide +kernel
theorem d_Mo_clear_210 : decode b_Mo_clear 210 = .ok (.putfield 428, 3) := by decide +kernel
theorem d_Mo_clear_213 : decode b_Mo_clear 213 = .ok (.aload_n 0, 1) := by decide +kernel
theorem d_Mo_clear_214 : decode b_Mo_clear 214 = .ok (.iconst (-1), 1) := by decide +kernel
theorem d_Mo_clear_215 : decode b_Mo_clear 215 = .ok (.putfield 250, 3) := by decide +kernel
theorem d_Mo_clear_218 : decode b_Mo_clear 218 = .ok (.aload_n 0, 1) := by decide +kernel
theorem d_Mo_clear_219 : decode b_Mo_clear 219 = .ok (.aload_n 0, 1) := by decide +kernel
theorem d_Mo_clear_220 : decode b_Mo_clear 220 = .ok (.getfield 239, 3) := by decide +kernel
theorem d_Mo_clear_223 : decode b_Mo_clear 223 = .ok (.iconst 0, 1) := by decide +kernel
theorem d_Mo_clear_224 : decode b_Mo_clear 224 = .ok (.aaload, 1) := by decide +kernel
theorem d_Mo_clear_225 : decode b_Mo_clear 225 = .ok (.putfield 243, 3) := by decide +kernel
theorem d_Mo_clear_228 : decode b_Mo_clear 228 = .ok (.aload_n 0, 1) := by decide +kernel
theorem d_Mo_clear_229 : decode b_Mo_clear 229 = .ok (.getfield 243, 3) := by decide +kernel
theorem d_Mo_clear_232 : decode b_Mo_clear 232 = .ok (.aconst_null, 1) := by decide +kernel
theorem d_Mo_clear_233 : decode b_Mo_clear 233 = .ok (.putfield 617, 3) := by decide +kernel
theorem d_Mo_clear_236 : decode b_Mo_clear 236 = .ok (.aload_n 0, 1) := by decide +kernel
theorem d_Mo_clear_237 : decode b_Mo_clear 237 = .ok (.iconst 1, 1) := by decide +kernel
theorem d_Mo_clear_238 : decode b_Mo_clear 238 = .ok (.putfield 418, 3) := by decide +kernel
theorem d_Mo_clear_241 : decode b_Mo_clear 241 = .ok (.return_, 1) := by decide +kernel
theorem kw_618 : Cond.methodLink R_Mo 669 y_Arr_fill ∈ wA := kinm (show _ ∈ tables_1 from (List.mem_append_right _ (List.mem_append_right _ (List.mem_append_right _ (List.mem_append_right _ (List.mem_append_right _ (List.mem_append_right _ (List.mem_append_right _ (List.mem_append_right _ (List.mem_append_right _ (List.mem_append_right _ (List.mem_append_left _ (List.mem_of_getElem? (l := tables_1_11) (i := 220) (by decide +kernel)))))))))))))) (by decide +kernel)
theorem kw_619 : Cond.methodLink R_Mo 672 y_Arr_fill___ ∈ wA := kinm (show _ ∈ tables_1 from (List.mem_append_right _ (List.mem_append_right _ (List.mem_append_right _ (List.mem_append_right _ (List.mem_append_right _ (List.mem_append_right _ (List.mem_append_right _ (List.mem_append_right _ (List.mem_append_right _ (List.mem_append_right _ (List.mem_append_left _ (List.mem_of_getElem? (l := tables_1_11) (i := 221) (by decide +kernel)))))))))))))) (by decide +kernel)
theorem kw_620 : Cond.arrayClass .byte ∈ wA := kinm (show _ ∈ tables_1 from (List.mem_append_left _ (List.mem_of_getElem? (l := tables_1_1) (i := 121) (by decide +kernel)))) (by decide +kernel)
theorem kw_621 : Cond.arrayClass .long ∈ wA := kinm (show _ ∈ tables_1 from (List.mem_append_left _ (List.mem_of_getElem? (l := tables_1_1) (i := 122) (by decide +kernel)))) (by decide +kernel)
theorem kw_622 : Cond.arrayClass .int ∈ wA := kinm (show _ ∈ tables_1 from (List.mem_append_left _ (List.mem_of_getElem? (l := tables_1_1) (i := 120) (by decide +kernel)))) (by decide +kernel)
theorem kw_623 : Cond.instanceMethod y_Mo_clear ∈ wA := kinm (show _ ∈ tables_1 from (List.mem_append_right _ (List.mem_append_right _ (List.mem_append_right _ (List.mem_append_right _ (List.mem_append_right _ (List.mem_append_right _ (List.mem_append_right _ (List.mem_append_right _ (List.mem_append_right _ (List.mem_append_right _ (List.mem_append_left _ (List.mem_of_getElem? (l := tables_1_11) (i := 217) (by decide +kernel)))))))))))))) (by decide +kernel)
theorem kw_624 : Cond.selects R_Mo y_Mo_clear y_Mo_clear ∈ wA := kinp 124 (by decide +kernel) (by decide +kernel)
theorem cv_Mo_clear : CV y_Mo_clear b_Mo_clear 2 none 0 := ⟨kw_623, kw_624, kw_17, k_Mo_clear, by decide +kernel⟩
theorem lp_Mo_clear_L129 {X : Cx} {q0 : PL} (g : Gd X y_Mo_clear b_Mo_clear 2 none 1 23 R_Mo) (x : Int32 × (Nat × Nat)) (s : S1) (o : ((Int32 × (Nat × Nat)) ⊕ (((Nat × Nat)))) × S1) (h : M_Mo_clear_L129 x s = some o) (hR : (Sum.elim (fun y : Int32 × (Nat × Nat) => ∀ q : PL, Exq (xP X) [69, 70, 71, 72, 73, 74] q0 q → Rmq (xP X) q y.2 → ∀ ls : Array Slot, lv_has ls 2 [(0, .ref (q.1 0 0)), (1, .int y.1)] → WW X q o.2 129 ls []) (fun y : (Nat × Nat) => ∀ q : PL, Exq (xP X) [69, 70, 71, 72, 73, 74] q0 q → Rmq (xP X) q y → ∀ ls : Array Slot, lv_has ls 2 [(0, .ref (q.1 0 0))] → WW X q o.2 151 ls []) o.1)) : ∀ q : PL, Exq (xP X) [69, 70, 71, 72, 73, 74] q0 q → Rmq (xP X) q x.2 → ∀ ls : Array Slot, lv_has ls 2 [(0, .ref (q.1 0 0)), (1, .int x.1)] → WW X q s 129 ls [] := by
  intro q hx0 hm ls hl
  unfold M_Mo_clear_L129 at h
  refine ww_iload_n (pc := 129) g.1 d_Mo_clear_129 rfl (lv_at hl 1 rfl) ?_
  refine ww_bipush (pc := 130) g.1 (v := 33) d_Mo_clear_130 (by decide) ?_
  refine ww_icmp_ge (pc := 132) (tgt := 151) g.1 d_Mo_clear_132 (by decide) h (fun c h => ?_) (fun c h => ?_)
  · rw [oR_eq h] at hR
    exact hR q hx0 hm ls (lv_sub hl [0] rfl)
  · refine ww_aload_n (pc := 135) g.1 d_Mo_clear_135 rfl (lv_at hl 0 rfl) ?_
    refine ww_gR (pc := 136) g (k := 71) cl_Mo (pz rfl (by decide)) (by decide) (Or.inl kw_88) (f := 71) (t := 76) rfl rfl rfl d_Mo_clear_136 ?_
    refine ww_iload_n (pc := 139) g.1 d_Mo_clear_139 rfl (lv_at hl 1 rfl) ?_
    refine ww_at (pc := 140) g (t := 28) (pz rfl (by decide)) rfl rfl rfl d_Mo_clear_140 h fun ca140 h => ?_
    refine ww_iconst (pc := 141) g.1 (v := (-1)) d_Mo_clear_141 (by decide) ?_
    refine ww_pI (pc := 142) g (k := 0) cl_Th (pt rfl rfl ca140) (by decide) (Or.inl kw_216) rfl (f := 3584) rfl rfl rfl rfl d_Mo_clear_142 h fun s hs h => ?_
    refine ww_iinc (pc := 145) g.1 (v := x.1 + 1) (lv' := [(1, .int (x.1 + 1)), (0, .ref (q.1 0 0))]) d_Mo_clear_145 hl (k := 1) rfl (by rfl) (by decide) rfl fun ls hl => ?_
    refine ww_goto (pc := 148) (tgt := 129) g.1 d_Mo_clear_148 (by decide) ?_
    rw [oR_eq h] at hR
    exact hR q hx0 hm ls (lv_sub hl [1, 0] rfl)

theorem j_Mo_clear_j61 {X : Cx} {q0 q : PL} (g : Gd X y_Mo_clear b_Mo_clear 2 none 1 23 R_Mo) {o : (Unit × (Nat × Nat)) × S1} (hR : RtX X [69, 70, 71, 72, 73, 74] q0 o.1.2 o.2 (fun _ => none)) (hx0 : Exq (xP X) [69, 70, 71, 72, 73, 74] q0 q) (ln : Nat × Nat) (hm : Rmq (xP X) q ln) (s : S1) (ls : Array Slot) (hl : lv_has ls 2 [(0, .ref (q.1 0 0))]) (h : M_Mo_clear_j61 ln s = some o) : WW X q s 61 ls [] := by
  unfold M_Mo_clear_j61 at h
  refine ww_aload_n (pc := 61) g.1 d_Mo_clear_61 rfl (lv_at hl 0 rfl) ?_
  refine ww_iconst (pc := 62) g.1 (v := 0) d_Mo_clear_62 (by decide) ?_
  refine ww_pI (pc := 63) g (k := 33) cl_Mo (pz rfl (by decide)) (by decide) (Or.inl kw_113) rfl (f := 33) rfl rfl rfl rfl d_Mo_clear_63 h fun s hs h => ?_
  refine ww_aload_n (pc := 66) g.1 d_Mo_clear_66 rfl (lv_at hl 0 rfl) ?_
  refine ww_iconst (pc := 67) g.1 (v := 0) d_Mo_clear_67 (by decide) ?_
  refine ww_pI (pc := 68) g (k := 34) cl_Mo (pz rfl (by decide)) (by decide) (Or.inl kw_115) rfl (f := 34) rfl rfl rfl rfl d_Mo_clear_68 h fun s hs h => ?_
  refine ww_aload_n (pc := 71) g.1 d_Mo_clear_71 rfl (lv_at hl 0 rfl) ?_
  refine ww_iconst (pc := 72) g.1 (v := 0) d_Mo_clear_72 (by decide) ?_
  refine ww_pI (pc := 73) g (k := 35) cl_Mo (pz rfl (by decide)) (by decide) (Or.inl kw_298) rfl (f := 35) rfl rfl rfl rfl d_Mo_clear_73 h fun s hs h => ?_
  refine ww_aload_n (pc := 76) g.1 d_Mo_clear_76 rfl (lv_at hl 0 rfl) ?_
  refine ww_iconst (pc := 77) g.1 (v := 0) d_Mo_clear_77 (by decide) ?_
  refine ww_pI (pc := 78) g (k := 36) cl_Mo (pz rfl (by decide)) (by decide) (Or.inl kw_299) rfl (f := 36) rfl rfl rfl rfl d_Mo_clear_78 h fun s hs h => ?_
  refine ww_aload_n (pc := 81) g.1 d_Mo_clear_81 rfl (lv_at hl 0 rfl) ?_
  refine ww_iconst (pc := 82) g.1 (v := 0) d_Mo_clear_82 (by decide) ?_
  refine ww_pI (pc := 83) g (k := 37) cl_Mo (pz rfl (by decide)) (by decide) (Or.inl kw_300) rfl (f := 37) rfl rfl rfl rfl d_Mo_clear_83 h fun s hs h => ?_
  refine ww_aload_n (pc := 86) g.1 d_Mo_clear_86 rfl (lv_at hl 0 rfl) ?_
  refine ww_iconst (pc := 87) g.1 (v := 0) d_Mo_clear_87 (by decide) ?_
  refine ww_pI (pc := 88) g (k := 38) cl_Mo (pz rfl (by decide)) (by decide) (Or.inl kw_301) rfl (f := 38) rfl rfl rfl rfl d_Mo_clear_88 h fun s hs h => ?_
  refine ww_aload_n (pc := 91) g.1 d_Mo_clear_91 rfl (lv_at hl 0 rfl) ?_
  refine ww_iconst (pc := 92) g.1 (v := 0) d_Mo_clear_92 (by decide) ?_
  refine ww_pI (pc := 93) g (k := 39) cl_Mo (pz rfl (by decide)) (by decide) (Or.inl kw_302) rfl (f := 39) rfl rfl rfl rfl d_Mo_clear_93 h fun s hs h => ?_
  refine ww_aload_n (pc := 96) g.1 d_Mo_clear_96 rfl (lv_at hl 0 rfl) ?_
  refine ww_iconst (pc := 97) g.1 (v := 0) d_Mo_clear_97 (by decide) ?_
  refine ww_pI (pc := 98) g (k := 40) cl_Mo (pz rfl (by decide)) (by decide) (Or.inl kw_109) rfl (f := 40) rfl rfl rfl rfl d_Mo_clear_98 h fun s hs h => ?_
  refine ww_aload_n (pc := 101) g.1 d_Mo_clear_101 rfl (lv_at hl 0 rfl) ?_
  refine ww_iconst (pc := 102) g.1 (v := 0) d_Mo_clear_102 (by decide) ?_
  refine ww_pI (pc := 103) g (k := 41) cl_Mo (pz rfl (by decide)) (by decide) (Or.inl kw_450) rfl (f := 41) rfl rfl rfl rfl d_Mo_clear_103 h fun s hs h => ?_
  refine ww_aload_n (pc := 106) g.1 d_Mo_clear_106 rfl (lv_at hl 0 rfl) ?_
  refine ww_iconst (pc := 107) g.1 (v := 0) d_Mo_clear_107 (by decide) ?_
  refine ww_pI (pc := 108) g (k := 54) cl_Mo (pz rfl (by decide)) (by decide) (Or.inl kw_108) rfl (f := 54) rfl rfl rfl rfl d_Mo_clear_108 h fun s hs h => ?_
  refine ww_aload_n (pc := 111) g.1 d_Mo_clear_111 rfl (lv_at hl 0 rfl) ?_
  refine ww_gR (pc := 112) g (k := 56) cl_Mo (pz rfl (by decide)) (by decide) (Or.inl kw_340) (f := 56) (t := 68) rfl rfl rfl d_Mo_clear_112 ?_
  refine ww_iconst (pc := 115) g.1 (v := 0) d_Mo_clear_115 (by decide) ?_
  obtain ⟨v116, s, hc116, h⟩ := oB_of h
  refine ww_callS (pc := 116) (rest := []) g cs_Arr_fill (Or.inl kw_618) (ct_Arr_fill ⟨rfl, by decide, by decide⟩ (pz rfl (by decide)) hc116) ⟨by decide, by decide⟩ rfl hl.1 (Nat.le_of_ble_eq_true rfl) d_Mo_clear_116 rfl (?_)
  refine ww_st (st' := []) rfl ?_
  refine ww_aload_n (pc := 119) g.1 d_Mo_clear_119 rfl (lv_at hl 0 rfl) ?_
  refine ww_gR (pc := 120) g (k := 45) cl_Mo (pz rfl (by decide)) (by decide) (Or.inl kw_110) (f := 45) (t := 58) rfl rfl rfl d_Mo_clear_120 ?_
  refine ww_iconst (pc := 123) g.1 (v := 0) d_Mo_clear_123 (by decide) ?_
  obtain ⟨v124, s, hc124, h⟩ := oB_of h
  refine ww_callS (pc := 124) (rest := []) g cs_Arr_fill___ (Or.inl kw_619) (ct_Arr_fill___ ⟨rfl, by decide, by decide⟩ (pz rfl (by decide)) hc124) ⟨by decide, by decide⟩ rfl hl.1 (Nat.le_of_ble_eq_true rfl) d_Mo_clear_124 rfl (?_)
  refine ww_st (st' := []) rfl ?_
  refine ww_iconst (pc := 127) g.1 (v := 0) d_Mo_clear_127 (by decide) ?_
  refine ww_istore_n (pc := 128) (i := 1) g.1 (lv' := [(1, .int 0), (0, .ref (q.1 0 0))]) d_Mo_clear_128 rfl hl (by decide) rfl fun ls hl => ?_
  obtain ⟨e129, s1, hw, h⟩ := oB_of h
  refine oW_rule (Wh := fun (x : Int32 × (Nat × Nat)) (s : S1) => ∀ q : PL, Exq (xP X) [69, 70, 71, 72, 73, 74] q0 q → Rmq (xP X) q x.2 → ∀ ls : Array Slot, lv_has ls 2 [(0, .ref (q.1 0 0)), (1, .int x.1)] → WW X q s 129 ls []) (We := fun (e : ((Nat × Nat))) (s : S1) => ∀ q : PL, Exq (xP X) [69, 70, 71, 72, 73, 74] q0 q → Rmq (xP X) q e → ∀ ls : Array Slot, lv_has ls 2 [(0, .ref (q.1 0 0))] → WW X q s 151 ls []) (fun x s o hb hc => lp_Mo_clear_L129 (q0 := q0) g x s o hb hc) hw ?_ q hx0 hm ls (lv_sub hl [1, 0] rfl)
  clear hw hl hx0 hm
  clear ls
  intro qL129 hx0 hm ls hl
  generalize s1 = s at h ⊢
  refine ww_aload_n (pc := 151) g.1 d_Mo_clear_151 rfl (lv_at hl 0 rfl) ?_
  refine ww_gR (pc := 152) g (k := 77) cl_Mo (pz rfl (by decide)) (by decide) (Or.inl kw_182) (f := 77) (t := 7) rfl rfl rfl d_Mo_clear_152 ?_
  refine ww_iconst (pc := 155) g.1 (v := 0) d_Mo_clear_155 (by decide) ?_
  refine ww_pI (pc := 156) g (k := 2) (cl_Va (Or.inl ⟨by decide, rfl⟩)) (pz rfl (by decide)) (by decide) (Or.inl kw_179) rfl (f := 898) rfl rfl rfl rfl d_Mo_clear_156 h fun s hs h => ?_
  refine ww_aload_n (pc := 159) g.1 d_Mo_clear_159 rfl (lv_at hl 0 rfl) ?_
  refine ww_gR (pc := 160) g (k := 78) cl_Mo (pz rfl (by decide)) (by decide) (Or.inl kw_178) (f := 78) (t := 10) rfl rfl rfl d_Mo_clear_160 ?_
  refine ww_iconst (pc := 163) g.1 (v := 0) d_Mo_clear_163 (by decide) ?_
  refine ww_pI (pc := 164) g (k := 2) (cl_Va (Or.inl ⟨by decide, rfl⟩)) (pz rfl (by decide)) (by decide) (Or.inl kw_179) rfl (f := 1282) rfl rfl rfl rfl d_Mo_clear_164 h fun s hs h => ?_
  refine ww_aload_n (pc := 167) g.1 d_Mo_clear_167 rfl (lv_at hl 0 rfl) ?_
  refine ww_gR (pc := 168) g (k := 79) cl_Mo (pz rfl (by decide)) (by decide) (Or.inl kw_233) (f := 79) (t := 13) rfl rfl rfl d_Mo_clear_168 ?_
  refine ww_iconst (pc := 171) g.1 (v := 0) d_Mo_clear_171 (by decide) ?_
  refine ww_pI (pc := 172) g (k := 2) (cl_Va (Or.inl ⟨by decide, rfl⟩)) (pz rfl (by decide)) (by decide) (Or.inl kw_179) rfl (f := 1666) rfl rfl rfl rfl d_Mo_clear_172 h fun s hs h => ?_
  refine ww_aload_n (pc := 175) g.1 d_Mo_clear_175 rfl (lv_at hl 0 rfl) ?_
  refine ww_gR (pc := 176) g (k := 70) cl_Mo (pz rfl (by decide)) (by decide) (Or.inl kw_441) (f := 70) (t := 16) rfl rfl rfl d_Mo_clear_176 ?_
  refine ww_iconst (pc := 179) g.1 (v := 0) d_Mo_clear_179 (by decide) ?_
  refine ww_pI (pc := 180) g (k := 2) (cl_Va (Or.inl ⟨by decide, rfl⟩)) (pz rfl (by decide)) (by decide) (Or.inl kw_179) rfl (f := 2050) rfl rfl rfl rfl d_Mo_clear_180 h fun s hs h => ?_
  refine ww_aload_n (pc := 183) g.1 d_Mo_clear_183 rfl (lv_at hl 0 rfl) ?_
  refine ww_iconst (pc := 184) g.1 (v := 0) d_Mo_clear_184 (by decide) ?_
  refine ww_pI (pc := 185) g (k := 64) cl_Mo (pz rfl (by decide)) (by decide) (Or.inl kw_73) rfl (f := 64) rfl rfl rfl rfl d_Mo_clear_185 h fun s hs h => ?_
  refine ww_aload_n (pc := 188) g.1 d_Mo_clear_188 rfl (lv_at hl 0 rfl) ?_
  refine ww_iconst (pc := 189) g.1 (v := 0) d_Mo_clear_189 (by decide) ?_
  refine ww_pI (pc := 190) g (k := 75) cl_Mo (pz rfl (by decide)) (by decide) (Or.inl kw_192) rfl (f := 75) rfl rfl rfl rfl d_Mo_clear_190 h fun s hs h => ?_
  refine ww_aload_n (pc := 193) g.1 d_Mo_clear_193 rfl (lv_at hl 0 rfl) ?_
  refine ww_iconst (pc := 194) g.1 (v := 0) d_Mo_clear_194 (by decide) ?_
  refine ww_pI (pc := 195) g (k := 73) cl_Mo (pz rfl (by decide)) (by decide) (Or.inl kw_75) rfl (f := 73) rfl rfl rfl rfl d_Mo_clear_195 h fun s hs h => ?_
  refine ww_aload_n (pc := 198) g.1 d_Mo_clear_198 rfl (lv_at hl 0 rfl) ?_
  refine ww_iconst (pc := 199) g.1 (v := 0) d_Mo_clear_199 (by decide) ?_
  refine ww_pI (pc := 200) g (k := 80) cl_Mo (pz rfl (by decide)) (by decide) (Or.inl kw_232) rfl (f := 80) rfl rfl rfl rfl d_Mo_clear_200 h fun s hs h => ?_
  refine ww_aload_n (pc := 203) g.1 d_Mo_clear_203 rfl (lv_at hl 0 rfl) ?_
  refine ww_lconst (pc := 204) g.1 (v := 0) d_Mo_clear_204 (by decide) ?_
  refine ww_pL (pc := 205) g (k := 81) cl_Mo (pz rfl (by decide)) (by decide) (Or.inl kw_297) rfl (f := 81) rfl rfl rfl rfl d_Mo_clear_205 h fun s hs h => ?_
  refine ww_aload_n (pc := 208) g.1 d_Mo_clear_208 rfl (lv_at hl 0 rfl) ?_
  refine ww_iconst (pc := 209) g.1 (v := 0) d_Mo_clear_209 (by decide) ?_
  refine ww_pI (pc := 210) g (k := 95) cl_Mo (pz rfl (by decide)) (by decide) (Or.inl kw_293) rfl (f := 95) rfl rfl rfl rfl d_Mo_clear_210 h fun s hs h => ?_
  refine ww_aload_n (pc := 213) g.1 d_Mo_clear_213 rfl (lv_at hl 0 rfl) ?_
  refine ww_iconst (pc := 214) g.1 (v := (-1)) d_Mo_clear_214 (by decide) ?_
  refine ww_pI (pc := 215) g (k := 74) cl_Mo (pz rfl (by decide)) (by decide) (Or.inl kw_440) rfl (f := 74) rfl rfl rfl rfl d_Mo_clear_215 h fun s hs h => ?_
  refine ww_aload_n (pc := 218) g.1 d_Mo_clear_218 rfl (lv_at hl 0 rfl) ?_
  refine ww_aload_n (pc := 219) g.1 d_Mo_clear_219 rfl (lv_at hl 0 rfl) ?_
  refine ww_gR (pc := 220) g (k := 71) cl_Mo (pz rfl (by decide)) (by decide) (Or.inl kw_88) (f := 71) (t := 76) rfl rfl rfl d_Mo_clear_220 ?_
  refine ww_iconst (pc := 223) g.1 (v := 0) d_Mo_clear_223 (by decide) ?_
  refine ww_at (pc := 224) g (t := 28) (pz rfl (by decide)) rfl rfl rfl d_Mo_clear_224 h fun ca224 h => ?_
  refine ww_st (st' := [vr qL129 28 0, .ref (qL129.1 0 0)]) (by rw [vr_nn ca224]) ?_
  refine ww_pV (pc := 225) g (k := 72) cl_Mo (pz rfl (by decide)) (by decide) (Or.inl kw_150) rfl (f := 72) (t := 28) rfl rfl rfl rfl fits_vr d_Mo_clear_225 h fun s hs h => ?_
  refine ww_aload_n (pc := 228) g.1 d_Mo_clear_228 rfl (lv_at hl 0 rfl) ?_
  refine ww_gV (pc := 229) g (k := 72) cl_Mo (pz rfl (by decide)) (by decide) (Or.inl kw_150) (f := 72) (t := 28) rfl rfl rfl d_Mo_clear_229 h fun v229 h => ?_
  refine ww_ok h fun cn229 h => ?_
  refine ww_nn cn229 ?_
  refine ww_null (pc := 232) g.1 d_Mo_clear_232 ?_
  refine ww_st (st' := [vr qL129 28 (-1), .ref (qL129.1 28 v229)]) (by rw [vr_m1]) ?_
  refine ww_pV (pc := 233) g (k := 6) cl_Th (pt rfl rfl cn229) (by decide) (Or.inl kw_218) rfl (f := 3590) (t := 28) rfl rfl rfl rfl fits_vr d_Mo_clear_233 h fun s hs h => ?_
  refine ww_aload_n (pc := 236) g.1 d_Mo_clear_236 rfl (lv_at hl 0 rfl) ?_
  refine ww_iconst (pc := 237) g.1 (v := 1) d_Mo_clear_237 (by decide) ?_
  refine ww_pI (pc := 238) g (k := 92) cl_Mo (pz rfl (by decide)) (by decide) (Or.inl kw_458) rfl (f := 92) rfl rfl rfl rfl d_Mo_clear_238 h fun s hs h => ?_
  exact ww_vretX (pc := 241) g h hR hx0 hm d_Mo_clear_241

theorem ct_Mo_clear {l : Launch} {P : PP} {q : PL} {s s' : S1} {n0 n1 : Nat × Nat}  {r : Unit} (hm : Rmq P q n0) (h : M_Mo_clear n0 s = some ((r, n1), s')) : CtX l y_Mo_clear b_Mo_clear 2 none 1 23 P [69, 70, 71, 72, 73, 74] q s [.ref (q.1 0 0)] (fun _ => none) n1 s' := by
  refine ctX_of (by decide) (Nat.le_of_ble_eq_true rfl) fun X ls eP el g hR hl => ?_
  subst eP
  obtain ⟨q0, hq0⟩ : ∃ q0 : PL, q0 = q := ⟨q, rfl⟩
  have hx0 : Exq (xP X) [69, 70, 71, 72, 73, 74] q0 q := hq0 ▸ Exq.rf
  rw [← hq0] at hR
  have hR : RtX X [69, 70, 71, 72, 73, 74] q0 (((r, n1), s') : (Unit × (Nat × Nat)) × S1).1.2 (((r, n1), s') : (Unit × (Nat × Nat)) × S1).2 (fun _ => none) := hR
  have hl : lv_has ls 2 [(0, .ref (q.1 0 0))] := hl
  generalize ((r, n1), s') = o at h hR
  unfold M_Mo_clear at h
  refine ww_aload_n (pc := 0) g.1 d_Mo_clear_0 rfl (lv_at hl 0 rfl) ?_
  refine ww_g5 (pc := 1) g (k := 57) cl_Mo (pz rfl (by decide)) (by decide) (Or.inl kw_124) (f := 57) (t := 69) (f2 := 8959) rfl rfl rfl rfl d_Mo_clear_1 h fun v1 hv1 h => ?_
  refine ww_ifnonnull5 (pc := 4) (tgt := 61) g.1 d_Mo_clear_4 (by decide) h (fun c4 h => ?_) (fun c4 h => ?_)
  · exact j_Mo_clear_j61 g hR hx0 n0 hm s ls (lv_sub hl [0] rfl) h
  · refine ww_aload_n (pc := 7) g.1 d_Mo_clear_7 rfl (lv_at hl 0 rfl) ?_
    refine ww_ldcw (pc := 8) g (v := 300000) kw_447 d_Mo_clear_8 ?_
    refine ww_lo fun dlo => ?_
    refine ww_nwP (at0 := .byte) (i := 0) (n := 300000) (t := 69) (k := 57) (L := [69]) (pc := 11) g cl_Mo (pz rfl (by decide)) (by decide) (Or.inl kw_124) (Or.inl rfl) ⟨_, rfl⟩ rfl (by decide) (by decide) (by decide) (Or.inr rfl) (by decide) (by decide) (nrf1 (r0 := 0) (k := 57) rfl rfl (by decide) (by decide)) (Or.inl (by decide)) kw_620 hm d_Mo_clear_11 d_Mo_clear_13 (by decide) h (fun _ => rfl) fun q11 m11 s hs hE hm pm11 h => ?_
    have ex11_0 : q11.1 0 0 = q.1 0 0 := hE _ _ (by decide) (dlo _ _ (pz rfl (by decide)))
    have hl : lv_has ls 2 [(0, .ref (q11.1 0 0))] := by rw [ex11_0]; exact hl
    refine ww_st (st' := []) (by rfl) ?_
    have hx0 : Exq (xP X) [69, 70, 71, 72, 73, 74] _ q11 := hx0.tr (hE.sub (by decide))
    refine ww_aload_n (pc := 16) g.1 d_Mo_clear_16 rfl (lv_at hl 0 rfl) ?_
    refine ww_ldcw (pc := 17) g (v := 300000) kw_447 d_Mo_clear_17 ?_
    refine ww_lo fun dlo => ?_
    refine ww_nwP (at0 := .byte) (i := 0) (n := 300000) (t := 70) (k := 58) (L := [70]) (pc := 20) g cl_Mo (pz rfl (by decide)) (by decide) (Or.inl kw_126) (Or.inl rfl) ⟨_, rfl⟩ rfl (by decide) (by decide) (by decide) (Or.inr rfl) (by decide) (by decide) (nrf1 (r0 := 0) (k := 58) rfl rfl (by decide) (by decide)) (Or.inl (by decide)) kw_620 hm d_Mo_clear_20 d_Mo_clear_22 (by decide) h (fun _ => rfl) fun q20 m20 s hs hE hm pm20 h => ?_
    have ex20_0 : q20.1 0 0 = q11.1 0 0 := hE _ _ (by decide) (dlo _ _ (pz rfl (by decide)))
    have hl : lv_has ls 2 [(0, .ref (q20.1 0 0))] := by rw [ex20_0]; exact hl
    refine ww_st (st' := []) (by rfl) ?_
    have hx0 : Exq (xP X) [69, 70, 71, 72, 73, 74] _ q20 := hx0.tr (hE.sub (by decide))
    refine ww_aload_n (pc := 25) g.1 d_Mo_clear_25 rfl (lv_at hl 0 rfl) ?_
    refine ww_ldcw (pc := 26) g (v := 300000) kw_447 d_Mo_clear_26 ?_
    refine ww_lo fun dlo => ?_
    refine ww_nwP (at0 := .long) (i := 0) (n := 300000) (t := 71) (k := 59) (L := [71]) (pc := 29) g cl_Mo (pz rfl (by decide)) (by decide) (Or.inl kw_125) (Or.inl rfl) ⟨_, rfl⟩ rfl (by decide) (by decide) (by decide) (Or.inr rfl) (by decide) (by decide) (nrf1 (r0 := 0) (k := 59) rfl rfl (by decide) (by decide)) (Or.inl (by decide)) kw_621 hm d_Mo_clear_29 d_Mo_clear_31 (by decide) h (fun _ => rfl) fun q29 m29 s hs hE hm pm29 h => ?_
    have ex29_0 : q29.1 0 0 = q20.1 0 0 := hE _ _ (by decide) (dlo _ _ (pz rfl (by decide)))
    have hl : lv_has ls 2 [(0, .ref (q29.1 0 0))] := by rw [ex29_0]; exact hl
    refine ww_st (st' := []) (by rfl) ?_
    have hx0 : Exq (xP X) [69, 70, 71, 72, 73, 74] _ q29 := hx0.tr (hE.sub (by decide))
    refine ww_aload_n (pc := 34) g.1 d_Mo_clear_34 rfl (lv_at hl 0 rfl) ?_
    refine ww_ldcw (pc := 35) g (v := 300000) kw_447 d_Mo_clear_35 ?_
    refine ww_lo fun dlo => ?_
    refine ww_nwP (at0 := .long) (i := 0) (n := 300000) (t := 72) (k := 60) (L := [72]) (pc := 38) g cl_Mo (pz rfl (by decide)) (by decide) (Or.inl kw_127) (Or.inl rfl) ⟨_, rfl⟩ rfl (by decide) (by decide) (by decide) (Or.inr rfl) (by decide) (by decide) (nrf1 (r0 := 0) (k := 60) rfl rfl (by decide) (by decide)) (Or.inl (by decide)) kw_621 hm d_Mo_clear_38 d_Mo_clear_40 (by decide) h (fun _ => rfl) fun q38 m38 s hs hE hm pm38 h => ?_
    have ex38_0 : q38.1 0 0 = q29.1 0 0 := hE _ _ (by decide) (dlo _ _ (pz rfl (by decide)))
    have hl : lv_has ls 2 [(0, .ref (q38.1 0 0))] := by rw [ex38_0]; exact hl
    refine ww_st (st' := []) (by rfl) ?_
    have hx0 : Exq (xP X) [69, 70, 71, 72, 73, 74] _ q38 := hx0.tr (hE.sub (by decide))
    refine ww_aload_n (pc := 43) g.1 d_Mo_clear_43 rfl (lv_at hl 0 rfl) ?_
    refine ww_ldcw (pc := 44) g (v := 300000) kw_447 d_Mo_clear_44 ?_
    refine ww_lo fun dlo => ?_
    refine ww_nwP (at0 := .int) (i := 0) (n := 300000) (t := 73) (k := 61) (L := [73]) (pc := 47) g cl_Mo (pz rfl (by decide)) (by decide) (Or.inl kw_129) (Or.inl rfl) ⟨_, rfl⟩ rfl (by decide) (by decide) (by decide) (Or.inr rfl) (by decide) (by decide) (nrf1 (r0 := 0) (k := 61) rfl rfl (by decide) (by decide)) (Or.inl (by decide)) kw_622 hm d_Mo_clear_47 d_Mo_clear_49 (by decide) h (fun _ => rfl) fun q47 m47 s hs hE hm pm47 h => ?_
    have ex47_0 : q47.1 0 0 = q38.1 0 0 := hE _ _ (by decide) (dlo _ _ (pz rfl (by decide)))
    have hl : lv_has ls 2 [(0, .ref (q47.1 0 0))] := by rw [ex47_0]; exact hl
    refine ww_st (st' := []) (by rfl) ?_
    have hx0 : Exq (xP X) [69, 70, 71, 72, 73, 74] _ q47 := hx0.tr (hE.sub (by decide))
    refine ww_aload_n (pc := 52) g.1 d_Mo_clear_52 rfl (lv_at hl 0 rfl) ?_
    refine ww_ldcw (pc := 53) g (v := 300000) kw_447 d_Mo_clear_53 ?_
    refine ww_lo fun dlo => ?_
    refine ww_nwP (at0 := .int) (i := 0) (n := 300000) (t := 74) (k := 62) (L := [74]) (pc := 56) g cl_Mo (pz rfl (by decide)) (by decide) (Or.inl kw_130) (Or.inl rfl) ⟨_, rfl⟩ rfl (by decide) (by decide) (by decide) (Or.inr rfl) (by decide) (by decide) (nrf1 (r0 := 0) (k := 62) rfl rfl (by decide) (by decide)) (Or.inl (by decide)) kw_622 hm d_Mo_clear_56 d_Mo_clear_58 (by decide) h (fun _ => rfl) fun q56 m56 s hs hE hm pm56 h => ?_
    have ex56_0 : q56.1 0 0 = q47.1 0 0 := hE _ _ (by decide) (dlo _ _ (pz rfl (by decide)))
    have hl : lv_has ls 2 [(0, .ref (q56.1 0 0))] := by rw [ex56_0]; exact hl
    refine ww_st (st' := []) (by rfl) ?_
    have hx0 : Exq (xP X) [69, 70, 71, 72, 73, 74] _ q56 := hx0.tr (hE.sub (by decide))
    exact j_Mo_clear_j61 g hR hx0 m56 hm s ls (lv_sub hl [0] rfl) h

theorem kw_625 : Cond.methodLink R_Mo 663 y_Mo_clear ∈ wA := kinm (show _ ∈ tables_1 from (List.mem_append_right _ (List.mem_append_right _ (List.mem_append_right _ (List.mem_append_right _ (List.mem_append_right _ (List.mem_append_right _ (List.mem_append_right _ (List.mem_append_right _ (List.mem_append_right _ (List.mem_append_right _ (List.mem_append_left _ (List.mem_of_getElem? (l := tables_1_11) (i := 215) (by decide +kernel)))))))))))))) (by decide +kernel)
theorem kw_626 : Cond.methodLink R_Mo 666 y_Mo_begin ∈ wA := kinm (show _ ∈ tables_1 from (List.mem_append_right _ (List.mem_append_right _ (List.mem_append_right _ (List.mem_append_right _ (List.mem_append_right _ (List.mem_append_right _ (List.mem_append_right _ (List.mem_append_right _ (List.mem_append_right _ (List.mem_append_right _ (List.mem_append_left _ (List.mem_of_getElem? (l := tables_1_11) (i := 224) (by decide +kernel)))))))))))))) (by decide +kernel)
theorem kw_627 : Cond.methodLink R_Mo 660 y_Mo_lookOver ∈ wA := kinm (show _ ∈ tables_1 from (List.mem_append_right _ (List.mem_append_right _ (List.mem_append_right _ (List.mem_append_right _ (List.mem_append_right _ (List.mem_append_right _ (List.mem_append_right _ (List.mem_append_right _ (List.mem_append_right _ (List.mem_append_right _ (List.mem_append_left _ (List.mem_of_getElem? (l := tables_1_11) (i := 166) (by decide +kernel)))))))))))))) (by decide +kernel)
theorem kw_628 : Cond.instanceMethod y_Mo_load_ ∈ wA := kinm (show _ ∈ tables_1 from (List.mem_append_right _ (List.mem_append_right _ (List.mem_append_right _ (List.mem_append_right _ (List.mem_append_right _ (List.mem_append_right _ (List.mem_append_right _ (List.mem_append_right _ (List.mem_append_right _ (List.mem_append_right _ (List.mem_append_left _ (List.mem_of_getElem? (l := tables_1_11) (i := 135) (by decide +kernel)))))))))))))) (by decide +kernel)
theorem kw_629 : Cond.selects R_Mo y_Mo_load_ y_Mo_load_ ∈ wA := kinm (show _ ∈ tables_1 from (List.mem_append_right _ (List.mem_append_right _ (List.mem_append_right _ (List.mem_append_right _ (List.mem_append_right _ (List.mem_append_right _ (List.mem_append_right _ (List.mem_append_right _ (List.mem_append_right _ (List.mem_append_right _ (List.mem_append_left _ (List.mem_of_getElem? (l := tables_1_11) (i := 136) (by decide +kernel)))))))))))))) (by decide +kernel)
theorem cv_Mo_load_ : CV y_Mo_load_ b_Mo_load_ 2 (some .int) 0 := ⟨kw_628, kw_629, kw_17, k_Mo_load_, by decide +kernel⟩
theorem j_Mo_load__j145 {X : Cx} {q0 q : PL} (g : Gd X y_Mo_load_ b_Mo_load_ 2 (some .int) 29 775 R_Mo) {o : (Int32 × (Nat × Nat)) × S1} (hR : RtX X [69, 70, 71, 72, 73, 74] q0 o.1.2 o.2 (fun _ => some (.int o.1.1))) (hx0 : Exq (xP X) [69, 70, 71, 72, 73, 74] q0 q) (ln : Nat × Nat) (k0 : Int32) (k1 : Int32) (hm : Rmq (xP X) q ln) (s : S1) (ls : Array Slot) (hl : lv_has ls 2 [(0, .ref (q.1 0 0))]) (h : M_Mo_load__j145 ln k0 k1 s = some o) : WW X q s 145 ls [.int k0, .int k1, .ref (q.1 0 0)] := by
  unfold M_Mo_load__j145 at h
  obtain ⟨v145, s, hc145, h⟩ := oB_of h
  refine ww_callV (pc := 145) (rest := []) g cv_Mo_refuse (Or.inl kw_20) cl_Mo (pz rfl (by decide)) (ct_Mo_refuse hc145) ⟨by decide, by decide⟩ rfl hl.1 (Nat.le_of_ble_eq_true rfl) d_Mo_load__145 rfl (?_)
  refine ww_st (st' := [.int v145]) rfl ?_
  refine ww_if_eq (pc := 148) (tgt := 157) g.1 d_Mo_load__148 (by decide) h (fun c h => ?_) (fun c h => ?_)
  · refine ww_aload_n (pc := 157) g.1 d_Mo_load__157 rfl (lv_at hl 0 rfl) ?_
    refine ww_iconst (pc := 158) g.1 (v := 1) d_Mo_load__158 (by decide) ?_
    refine ww_pI (pc := 159) g (k := 5) cl_Mo (pz rfl (by decide)) (by decide) (Or.inl kw_283) rfl (f := 5) rfl rfl rfl rfl d_Mo_load__159 h fun s hs h => ?_
    refine ww_aload_n (pc := 162) g.1 d_Mo_load__162 rfl (lv_at hl 0 rfl) ?_
    refine ww_gI (pc := 163) g (k := 23) cl_Mo (pz rfl (by decide)) (by decide) (Or.inl kw_434) (f := 23) rfl rfl d_Mo_load__163 h fun v163 h => ?_
    exact ww_iretX (pc := 166) g h hR hx0 hm d_Mo_load__166
  · refine ww_aload_n (pc := 151) g.1 d_Mo_load__151 rfl (lv_at hl 0 rfl) ?_
    refine ww_lo fun dlo => ?_
    obtain ⟨v152, s, hc152, h⟩ := oB_of h
    refine ww_callVX (pc := 152) (rest := []) g cv_Mo_clear (Or.inl kw_625) cl_Mo (pz rfl (by decide)) (ct_Mo_clear hm hc152) ⟨by decide, by decide⟩ rfl hl.1 (Nat.le_of_ble_eq_true rfl) d_Mo_load__152 rfl (fun q152 hE hm => ?_)
    have hl : lv_has ls 2 [] := lv_sub hl [] rfl
    refine ww_st (st' := []) (by rfl) ?_
    have hx0 : Exq (xP X) [69, 70, 71, 72, 73, 74] _ q152 := hx0.tr (hE.sub (by decide))
    refine ww_iconst (pc := 155) g.1 (v := 0) d_Mo_load__155 (by decide) ?_
    exact ww_iretX (pc := 156) g h hR hx0 hm d_Mo_load__156

theorem j_Mo_load__j119 {X : Cx} {q0 q : PL} (g : Gd X y_Mo_load_ b_Mo_load_ 2 (some .int) 29 775 R_Mo) {o : (Int32 × (Nat × Nat)) × S1} (hR : RtX X [69, 70, 71, 72, 73, 74] q0 o.1.2 o.2 (fun _ => some (.int o.1.1))) (hx0 : Exq (xP X) [69, 70, 71, 72, 73, 74] q0 q) (ln : Nat × Nat) (k0 : Int32) (k1 : Int32) (hm : Rmq (xP X) q ln) (s : S1) (ls : Array Slot) (hl : lv_has ls 2 [(0, .ref (q.1 0 0))]) (h : M_Mo_load__j119 ln k0 k1 s = some o) : WW X q s 119 ls [.int k0, .int k1, .ref (q.1 0 0)] := by
  unfold M_Mo_load__j119 at h
  obtain ⟨v119, s, hc119, h⟩ := oB_of h
  refine ww_callV (pc := 119) (rest := []) g cv_Mo_refuse (Or.inl kw_20) cl_Mo (pz rfl (by decide)) (ct_Mo_refuse hc119) ⟨by decide, by decide⟩ rfl hl.1 (Nat.le_of_ble_eq_true rfl) d_Mo_load__119 rfl (?_)
  refine ww_st (st' := [.int v119]) rfl ?_
  refine ww_if_eq (pc := 122) (tgt := 127) g.1 d_Mo_load__122 (by decide) h (fun c h => ?_) (fun c h => ?_)
  · refine ww_aload_n (pc := 127) g.1 d_Mo_load__127 rfl (lv_at hl 0 rfl) ?_
    refine ww_lo fun dlo => ?_
    obtain ⟨v128, s, hc128, h⟩ := oB_of h
    refine ww_callVX (pc := 128) (rest := []) g cv_Mo_clear (Or.inl kw_625) cl_Mo (pz rfl (by decide)) (ct_Mo_clear hm hc128) ⟨by decide, by decide⟩ rfl hl.1 (Nat.le_of_ble_eq_true rfl) d_Mo_load__128 rfl (fun q128 hE hm => ?_)
    have ex128_0 : q128.1 0 0 = q.1 0 0 := hE _ _ (by decide) (dlo _ _ (pz rfl (by decide)))
    have hl : lv_has ls 2 [(0, .ref (q128.1 0 0))] := by rw [ex128_0]; exact hl
    refine ww_st (st' := []) (by rfl) ?_
    have hx0 : Exq (xP X) [69, 70, 71, 72, 73, 74] _ q128 := hx0.tr (hE.sub (by decide))
    refine ww_aload_n (pc := 131) g.1 d_Mo_load__131 rfl (lv_at hl 0 rfl) ?_
    refine ww_iconst (pc := 132) g.1 (v := 2) d_Mo_load__132 (by decide) ?_
    refine ww_aload_n (pc := 133) g.1 d_Mo_load__133 rfl (lv_at hl 0 rfl) ?_
    obtain ⟨v134, s, hc134, h⟩ := oB_of h
    refine ww_callV (pc := 134) (rest := [.int 2, .ref (q128.1 0 0)]) g cv_Mo_begin (Or.inl kw_626) cl_Mo (pz rfl (by decide)) (ct_Mo_begin hc134) ⟨by decide, by decide⟩ rfl hl.1 (Nat.le_of_ble_eq_true rfl) d_Mo_load__134 rfl (?_)
    refine ww_st (st' := [.int v134, .int 2, .ref (q128.1 0 0)]) rfl ?_
    refine ww_if_ne (pc := 137) (tgt := 144) g.1 d_Mo_load__137 (by decide) h (fun c h => ?_) (fun c h => ?_)
    · refine ww_iconst (pc := 144) g.1 (v := 0) d_Mo_load__144 (by decide) ?_
      exact j_Mo_load__j145 g hR hx0 v128.2 0 2 hm s ls (lv_sub hl [0] rfl) h
    · refine ww_iconst (pc := 140) g.1 (v := 1) d_Mo_load__140 (by decide) ?_
      refine ww_goto (pc := 141) (tgt := 145) g.1 d_Mo_load__141 (by decide) ?_
      exact j_Mo_load__j145 g hR hx0 v128.2 1 2 hm s ls (lv_sub hl [0] rfl) h
  · refine ww_iconst (pc := 125) g.1 (v := 0) d_Mo_load__125 (by decide) ?_
    exact ww_iretX (pc := 126) g h hR hx0 hm d_Mo_load__126

theorem j_Mo_load__j100 {X : Cx} {q0 q : PL} (g : Gd X y_Mo_load_ b_Mo_load_ 2 (some .int) 29 775 R_Mo) {o : (Int32 × (Nat × Nat)) × S1} (hR : RtX X [69, 70, 71, 72, 73, 74] q0 o.1.2 o.2 (fun _ => some (.int o.1.1))) (hx0 : Exq (xP X) [69, 70, 71, 72, 73, 74] q0 q) (ln : Nat × Nat) (hm : Rmq (xP X) q ln) (s : S1) (ls : Array Slot) (hl : lv_has ls 2 [(0, .ref (q.1 0 0))]) (h : M_Mo_load__j100 ln s = some o) : WW X q s 100 ls [] := by
  unfold M_Mo_load__j100 at h
  refine ww_aload_n (pc := 100) g.1 d_Mo_load__100 rfl (lv_at hl 0 rfl) ?_
  refine ww_iconst (pc := 101) g.1 (v := 0) d_Mo_load__101 (by decide) ?_
  refine ww_pI (pc := 102) g (k := 1) cl_Mo (pz rfl (by decide)) (by decide) (Or.inl kw_21) rfl (f := 1) rfl rfl rfl rfl d_Mo_load__102 h fun s hs h => ?_
  refine ww_aload_n (pc := 105) g.1 d_Mo_load__105 rfl (lv_at hl 0 rfl) ?_
  refine ww_iconst (pc := 106) g.1 (v := 1) d_Mo_load__106 (by decide) ?_
  refine ww_aload_n (pc := 107) g.1 d_Mo_load__107 rfl (lv_at hl 0 rfl) ?_
  refine ww_gI (pc := 108) g (k := 3) cl_Mo (pz rfl (by decide)) (by decide) (Or.inl kw_24) (f := 3) rfl rfl d_Mo_load__108 h fun v108 h => ?_
  refine ww_if_eq (pc := 111) (tgt := 118) g.1 d_Mo_load__111 (by decide) h (fun c h => ?_) (fun c h => ?_)
  · refine ww_iconst (pc := 118) g.1 (v := 0) d_Mo_load__118 (by decide) ?_
    exact j_Mo_load__j119 g hR hx0 ln 0 1 hm s ls (lv_sub hl [0] rfl) h
  · refine ww_iconst (pc := 114) g.1 (v := 1) d_Mo_load__114 (by decide) ?_
    refine ww_goto (pc := 115) (tgt := 119) g.1 d_Mo_load__115 (by decide) ?_
    exact j_Mo_load__j119 g hR hx0 ln 1 1 hm s ls (lv_sub hl [0] rfl) h

theorem j_Mo_load__j89 {X : Cx} {q0 q : PL} (g : Gd X y_Mo_load_ b_Mo_load_ 2 (some .int) 29 775 R_Mo) {o : (Int32 × (Nat × Nat)) × S1} (hR : RtX X [69, 70, 71, 72, 73, 74] q0 o.1.2 o.2 (fun _ => some (.int o.1.1))) (hx0 : Exq (xP X) [69, 70, 71, 72, 73, 74] q0 q) (ln : Nat × Nat) (hm : Rmq (xP X) q ln) (s : S1) (ls : Array Slot) (hl : lv_has ls 2 [(0, .ref (q.1 0 0))]) (h : M_Mo_load__j89 ln s = some o) : WW X q s 89 ls [] := by
  unfold M_Mo_load__j89 at h
  refine ww_aload_n (pc := 89) g.1 d_Mo_load__89 rfl (lv_at hl 0 rfl) ?_
  refine ww_gI (pc := 90) g (k := 3) cl_Mo (pz rfl (by decide)) (by decide) (Or.inl kw_24) (f := 3) rfl rfl d_Mo_load__90 h fun v90 h => ?_
  refine ww_if_ne (pc := 93) (tgt := 100) g.1 d_Mo_load__93 (by decide) h (fun c h => ?_) (fun c h => ?_)
  · exact j_Mo_load__j100 g hR hx0 ln hm s ls (lv_sub hl [0] rfl) h
  · refine ww_aload_n (pc := 96) g.1 d_Mo_load__96 rfl (lv_at hl 0 rfl) ?_
    obtain ⟨v97, s, hc97, h⟩ := oB_of h
    refine ww_callV (pc := 97) (rest := []) g cv_Mo_lookOver (Or.inl kw_627) cl_Mo (pz rfl (by decide)) (ct_Mo_lookOver hc97) ⟨by decide, by decide⟩ rfl hl.1 (Nat.le_of_ble_eq_true rfl) d_Mo_load__97 rfl (?_)
    refine ww_st (st' := []) rfl ?_
    exact j_Mo_load__j100 g hR hx0 ln hm s ls (lv_sub hl [0] rfl) h

theorem ct_Mo_load_ {l : Launch} {P : PP} {q : PL} {s s' : S1} {n0 n1 : Nat × Nat}  {r : Int32} (hm : Rmq P q n0) (h : M_Mo_load_ n0 s = some ((r, n1), s')) : CtX l y_Mo_load_ b_Mo_load_ 2 (some .int) 29 775 P [69, 70, 71, 72, 73, 74] q s [.ref (q.1 0 0)] (fun _ => some (.int r)) n1 s' := by
  refine ctX_of (by decide) (Nat.le_of_ble_eq_true rfl) fun X ls eP el g hR hl => ?_
  subst eP
  obtain ⟨q0, hq0⟩ : ∃ q0 : PL, q0 = q := ⟨q, rfl⟩
  have hx0 : Exq (xP X) [69, 70, 71, 72, 73, 74] q0 q := hq0 ▸ Exq.rf
  rw [← hq0] at hR
  have hR : RtX X [69, 70, 71, 72, 73, 74] q0 (((r, n1), s') : (Int32 × (Nat × Nat)) × S1).1.2 (((r, n1), s') : (Int32 × (Nat × Nat)) × S1).2 (fun _ => some (.int (((r, n1), s') : (Int32 × (Nat × Nat)) × S1).1.1)) := hR
  have hl : lv_has ls 2 [(0, .ref (q.1 0 0))] := hl
  generalize ((r, n1), s') = o at h hR
  unfold M_Mo_load_ at h
  refine ww_aload_n (pc := 0) g.1 d_Mo_load__0 rfl (lv_at hl 0 rfl) ?_
  refine ww_iconst (pc := 1) g.1 (v := 0) d_Mo_load__1 (by decide) ?_
  refine ww_pI (pc := 2) g (k := 2) cl_Mo (pz rfl (by decide)) (by decide) (Or.inl kw_14) rfl (f := 2) rfl rfl rfl rfl d_Mo_load__2 h fun s hs h => ?_
  refine ww_aload_n (pc := 5) g.1 d_Mo_load__5 rfl (lv_at hl 0 rfl) ?_
  refine ww_gI (pc := 6) g (k := 1) cl_Mo (pz rfl (by decide)) (by decide) (Or.inl kw_21) (f := 1) rfl rfl d_Mo_load__6 h fun v6 h => ?_
  refine ww_istore_n (pc := 9) (i := 1) g.1 (lv' := [(1, .int v6), (0, .ref (q.1 0 0))]) d_Mo_load__9 rfl hl (by decide) rfl fun ls hl => ?_
  refine ww_aload_n (pc := 10) g.1 d_Mo_load__10 rfl (lv_at hl 1 rfl) ?_
  refine ww_iconst (pc := 11) g.1 (v := 0) d_Mo_load__11 (by decide) ?_
  refine ww_pI (pc := 12) g (k := 5) cl_Mo (pz rfl (by decide)) (by decide) (Or.inl kw_283) rfl (f := 5) rfl rfl rfl rfl d_Mo_load__12 h fun s hs h => ?_
  refine ww_aload_n (pc := 15) g.1 d_Mo_load__15 rfl (lv_at hl 1 rfl) ?_
  refine ww_iconst (pc := 16) g.1 (v := 0) d_Mo_load__16 (by decide) ?_
  refine ww_pI (pc := 17) g (k := 3) cl_Mo (pz rfl (by decide)) (by decide) (Or.inl kw_24) rfl (f := 3) rfl rfl rfl rfl d_Mo_load__17 h fun s hs h => ?_
  refine ww_aload_n (pc := 20) g.1 d_Mo_load__20 rfl (lv_at hl 1 rfl) ?_
  refine ww_iconst (pc := 21) g.1 (v := (-1)) d_Mo_load__21 (by decide) ?_
  refine ww_pI (pc := 22) g (k := 4) cl_Mo (pz rfl (by decide)) (by decide) (Or.inl kw_25) rfl (f := 4) rfl rfl rfl rfl d_Mo_load__22 h fun s hs h => ?_
  refine ww_aload_n (pc := 25) g.1 d_Mo_load__25 rfl (lv_at hl 1 rfl) ?_
  refine ww_iconst (pc := 26) g.1 (v := 0) d_Mo_load__26 (by decide) ?_
  refine ww_pI (pc := 27) g (k := 28) cl_Mo (pz rfl (by decide)) (by decide) (Or.inl kw_28) rfl (f := 28) rfl rfl rfl rfl d_Mo_load__27 h fun s hs h => ?_
  refine ww_aload_n (pc := 30) g.1 d_Mo_load__30 rfl (lv_at hl 1 rfl) ?_
  refine ww_iconst (pc := 31) g.1 (v := 0) d_Mo_load__31 (by decide) ?_
  refine ww_pI (pc := 32) g (k := 23) cl_Mo (pz rfl (by decide)) (by decide) (Or.inl kw_434) rfl (f := 23) rfl rfl rfl rfl d_Mo_load__32 h fun s hs h => ?_
  refine ww_aload_n (pc := 35) g.1 d_Mo_load__35 rfl (lv_at hl 1 rfl) ?_
  refine ww_iconst (pc := 36) g.1 (v := 0) d_Mo_load__36 (by decide) ?_
  refine ww_pI (pc := 37) g (k := 24) cl_Mo (pz rfl (by decide)) (by decide) (Or.inl kw_38) rfl (f := 24) rfl rfl rfl rfl d_Mo_load__37 h fun s hs h => ?_
  refine ww_aload_n (pc := 40) g.1 d_Mo_load__40 rfl (lv_at hl 1 rfl) ?_
  refine ww_iconst (pc := 41) g.1 (v := 0) d_Mo_load__41 (by decide) ?_
  refine ww_pI (pc := 42) g (k := 25) cl_Mo (pz rfl (by decide)) (by decide) (Or.inl kw_306) rfl (f := 25) rfl rfl rfl rfl d_Mo_load__42 h fun s hs h => ?_
  refine ww_aload_n (pc := 45) g.1 d_Mo_load__45 rfl (lv_at hl 1 rfl) ?_
  refine ww_iconst (pc := 46) g.1 (v := 0) d_Mo_load__46 (by decide) ?_
  refine ww_pI (pc := 47) g (k := 26) cl_Mo (pz rfl (by decide)) (by decide) (Or.inl kw_308) rfl (f := 26) rfl rfl rfl rfl d_Mo_load__47 h fun s hs h => ?_
  refine ww_aload_n (pc := 50) g.1 d_Mo_load__50 rfl (lv_at hl 1 rfl) ?_
  refine ww_iconst (pc := 51) g.1 (v := 0) d_Mo_load__51 (by decide) ?_
  refine ww_pI (pc := 52) g (k := 27) cl_Mo (pz rfl (by decide)) (by decide) (Or.inl kw_613) rfl (f := 27) rfl rfl rfl rfl d_Mo_load__52 h fun s hs h => ?_
  refine ww_aload_n (pc := 55) g.1 d_Mo_load__55 rfl (lv_at hl 1 rfl) ?_
  refine ww_iconst (pc := 56) g.1 (v := (-1)) d_Mo_load__56 (by decide) ?_
  refine ww_iconst (pc := 57) g.1 (v := 1) d_Mo_load__57 (by decide) ?_
  obtain ⟨v58, s, hc58, h⟩ := oB_of h
  refine ww_callV (pc := 58) (rest := []) g cv_Mo_proto (Or.inl kw_614) cl_Mo (pz rfl (by decide)) (ct_Mo_proto 25 hc58) ⟨by decide, by decide⟩ rfl hl.1 (Nat.le_of_ble_eq_true rfl) d_Mo_load__58 rfl (?_)
  refine ww_st (st' := []) rfl ?_
  refine ww_aload_n (pc := 61) g.1 d_Mo_load__61 rfl (lv_at hl 1 rfl) ?_
  refine ww_gI (pc := 62) g (k := 3) cl_Mo (pz rfl (by decide)) (by decide) (Or.inl kw_24) (f := 3) rfl rfl d_Mo_load__62 h fun v62 h => ?_
  refine ww_if_ne (pc := 65) (tgt := 89) g.1 d_Mo_load__65 (by decide) h (fun c h => ?_) (fun c h => ?_)
  · exact j_Mo_load__j89 g hR hx0 n0 hm s ls (lv_sub hl [1] rfl) h
  · refine ww_aload_n (pc := 68) g.1 d_Mo_load__68 rfl (lv_at hl 1 rfl) ?_
    refine ww_gI (pc := 69) g (k := 28) cl_Mo (pz rfl (by decide)) (by decide) (Or.inl kw_28) (f := 28) rfl rfl d_Mo_load__69 h fun v69 h => ?_
    refine ww_aload_n (pc := 72) g.1 d_Mo_load__72 rfl (lv_at hl 1 rfl) ?_
    refine ww_gI (pc := 73) g (k := 1) cl_Mo (pz rfl (by decide)) (by decide) (Or.inl kw_21) (f := 1) rfl rfl d_Mo_load__73 h fun v73 h => ?_
    refine ww_icmp_eq (pc := 76) (tgt := 89) g.1 d_Mo_load__76 (by decide) h (fun c h => ?_) (fun c h => ?_)
    · exact j_Mo_load__j89 g hR hx0 n0 hm s ls (lv_sub hl [1] rfl) h
    · refine ww_aload_n (pc := 79) g.1 d_Mo_load__79 rfl (lv_at hl 1 rfl) ?_
      refine ww_iconst (pc := 80) g.1 (v := 5) d_Mo_load__80 (by decide) ?_
      refine ww_aload_n (pc := 81) g.1 d_Mo_load__81 rfl (lv_at hl 1 rfl) ?_
      refine ww_gI (pc := 82) g (k := 28) cl_Mo (pz rfl (by decide)) (by decide) (Or.inl kw_28) (f := 28) rfl rfl d_Mo_load__82 h fun v82 h => ?_
      obtain ⟨v85, s, hc85, h⟩ := oB_of h
      refine ww_callV (pc := 85) (rest := []) g cv_Mo_bad (Or.inl kw_31) cl_Mo (pz rfl (by decide)) (ct_Mo_bad hc85) ⟨by decide, by decide⟩ rfl hl.1 (Nat.le_of_ble_eq_true rfl) d_Mo_load__85 rfl (?_)
      refine ww_st (st' := [.int v85]) rfl ?_
      refine ww_pop (pc := 88) g.1 d_Mo_load__88 rfl ?_
      exact j_Mo_load__j89 g hR hx0 n0 hm s ls (lv_sub hl [1] rfl) h


