abbrev b_Mo_load : ByteArray := prog_14_method_58_code
def y_Mo_load : MethodName := ⟨R_Mo, "load", "()I"⟩
abbrev w_Mo_load : List Cond := .code y_Mo_load b_Mo_load 2 (some .int) :: wA
set_option maxRecDepth 20000 in
theorem k_Mo_load : Cond.code y_Mo_load b_Mo_load 2 (some .int) ∈ wA := kinm (show _ ∈ tables_1 from (List.mem_append_right _ (List.mem_append_right _ (List.mem_append_right _ (List.mem_append_right _ (List.mem_append_right _ (List.mem_append_right _ (List.mem_append_right _ (List.mem_append_right _ (List.mem_append_right _ (List.mem_append_right _ (List.mem_append_left _ (List.mem_of_getElem? (l := tables_1_11) (i := 137) rfl))))))))))))) rfl
theorem d_Mo_load_0 : decode b_Mo_load 0 = .ok (.aload_n 0, 1) := by decide +kernel
theorem d_Mo_load_1 : decode b_Mo_load 1 = .ok (.iconst 0, 1) := by decide +kernel
theorem d_Mo_load_2 : decode b_Mo_load 2 = .ok (.putfield 18, 3) := by decide +kernel
theorem d_Mo_load_5 : decode b_Mo_load 5 = .ok (.aload_n 0, 1) := by decide +kernel
theorem d_Mo_load_6 : decode b_Mo_load 6 = .ok (.getfield 14, 3) := by decide +kernel
theorem d_Mo_load_9 : decode b_Mo_load 9 = .ok (.istore_n 1, 1) := by decide +kernel
theorem d_Mo_load_10 : decode b_Mo_load 10 = .ok (.aload_n 0, 1) := by decide +kernel
theorem d_Mo_load_11 : decode b_Mo_load 11 = .ok (.iconst 0, 1) := by decide +kernel
theorem d_Mo_load_12 : decode b_Mo_load 12 = .ok (.putfield 27, 3) := by decide +kernel
theorem d_Mo_load_15 : decode b_Mo_load 15 = .ok (.aload_n 0, 1) := by decide +kernel
theorem d_Mo_load_16 : decode b_Mo_load 16 = .ok (.iconst 0, 1) := by decide +kernel
theorem d_Mo_load_17 : decode b_Mo_load 17 = .ok (.putfield 21, 3) := by decide +kernel
theorem d_Mo_load_20 : decode b_Mo_load 20 = .ok (.aload_n 0, 1) := by decide +kernel
theorem d_Mo_load_21 : decode b_Mo_load 21 = .ok (.iconst (-1), 1) := by decide +kernel
theorem d_Mo_load_22 : decode b_Mo_load 22 = .ok (.putfield 24, 3) := by decide +kernel
theorem d_Mo_load_25 : decode b_Mo_load 25 = .ok (.aload_n 0, 1) := by decide +kernel
theorem d_Mo_load_26 : decode b_Mo_load 26 = .ok (.iconst 0, 1) := by decide +kernel
theorem d_Mo_load_27 : decode b_Mo_load 27 = .ok (.putfield 104, 3) := by decide +kernel
theorem d_Mo_load_30 : decode b_Mo_load 30 = .ok (.aload_n 0, 1) := by decide +kernel
theorem d_Mo_load_31 : decode b_Mo_load 31 = .ok (.iconst 0, 1) := by decide +kernel
theorem d_Mo_load_32 : decode b_Mo_load 32 = .ok (.putfield 89, 3) := by decide +kernel
theorem d_Mo_load_35 : decode b_Mo_load 35 = .ok (.aload_n 0, 1) := by decide +kernel
theorem d_Mo_load_36 : decode b_Mo_load 36 = .ok (.iconst 0, 1) := by decide +kernel
theorem d_Mo_load_37 : decode b_Mo_load 37 = .ok (.putfield 92, 3) := by decide +kernel
theorem d_Mo_load_40 : decode b_Mo_load 40 = .ok (.aload_n 0, 1) := by decide +kernel
theorem d_Mo_load_41 : decode b_Mo_load 41 = .ok (.iconst 0, 1) := by decide +kernel
theorem d_Mo_load_42 : decode b_Mo_load 42 = .ok (.putfield 95, 3) := by decide +kernel
theorem d_Mo_load_45 : decode b_Mo_load 45 = .ok (.aload_n 0, 1) := by decide +kernel
theorem d_Mo_load_46 : decode b_Mo_load 46 = .ok (.iconst 0, 1) := by decide +kernel
theorem d_Mo_load_47 : decode b_Mo_load 47 = .ok (.putfield 98, 3) := by decide +kernel
theorem d_Mo_load_50 : decode b_Mo_load 50 = .ok (.aload_n 0, 1) := by decide +kernel
theorem d_Mo_load_51 : decode b_Mo_load 51 = .ok (.iconst 0, 1) := by decide +kernel
theorem d_Mo_load_52 : decode b_Mo_load 52 = .ok (.putfield 101, 3) := by decide +kernel
theorem d_Mo_load_55 : decode b_Mo_load 55 = .ok (.aload_n 0, 1) := by decide +kernel
theorem d_Mo_load_56 : decode b_Mo_load 56 = .ok (.iconst (-1), 1) := by decide +kernel
theorem d_Mo_load_57 : decode b_Mo_load 57 = .ok (.iconst 1, 1) := by decide +kernel
theorem d_Mo_load_58 : decode b_Mo_load 58 = .ok (.invokevirtual 466, 3) := by decide +kernel
theorem d_Mo_load_61 : decode b_Mo_load 61 = .ok (.aload_n 0, 1) := by decide +kernel
theorem d_Mo_load_62 : decode b_Mo_load 62 = .ok (.getfield 21, 3) := by decide +kernel
theorem d_Mo_load_65 : decode b_Mo_load 65 = .ok (.ifCond .ne 24, 3) := by decide +kernel
theorem d_Mo_load_68 : decode b_Mo_load 68 = .ok (.aload_n 0, 1) := by decide +kernel
theorem d_Mo_load_69 : decode b_Mo_load 69 = .ok (.getfield 104, 3) := by decide +kernel
theorem d_Mo_load_72 : decode b_Mo_load 72 = .ok (.aload_n 0, 1) := by decide +kernel
theorem d_Mo_load_73 : decode b_Mo_load 73 = .ok (.getfield 14, 3) := by decide +kernel
theorem d_Mo_load_76 : decode b_Mo_load 76 = .ok (.if_icmp .eq 13, 3) := by decide +kernel
theorem d_Mo_load_79 : decode b_Mo_load 79 = .ok (.aload_n 0, 1) := by decide +kernel
theorem d_Mo_load_80 : decode b_Mo_load 80 = .ok (.iconst 5, 1) := by decide +kernel
theorem d_Mo_load_81 : decode b_Mo_load 81 = .ok (.aload_n 0, 1) := by decide +kernel
theorem d_Mo_load_82 : decode b_Mo_load 82 = .ok (.getfield 104, 3) := by decide +kernel
theorem d_Mo_load_85 : decode b_Mo_load 85 = .ok (.invokevirtual 449, 3) := by decide +kernel
theorem d_Mo_load_88 : decode b_Mo_load 88 = .ok (.pop, 1) := by decide +kernel
theorem d_Mo_load_89 : decode b_Mo_load 89 = .ok (.aload_n 0, 1) := by decide +kernel
theorem d_Mo_load_90 : decode b_Mo_load 90 = .ok (.getfield 21, 3) := by decide +kernel
theorem d_Mo_load_93 : decode b_Mo_load 93 = .ok (.ifCond .ne 7, 3) := by decide +kernel
theorem d_Mo_load_96 : decode b_Mo_load 96 = .ok (.aload_n 0, 1) := by decide +kernel
theorem d_Mo_load_97 : decode b_Mo_load 97 = .ok (.invokevirtual 660, 3) := by decide +kernel
theorem d_Mo_load_100 : decode b_Mo_load 100 = .ok (.aload_n 0, 1) := by decide +kernel
theorem d_Mo_load_101 : decode b_Mo_load 101 = .ok (.iconst 0, 1) := by decide +kernel
theorem d_Mo_load_102 : decode b_Mo_load 102 = .ok (.putfield 14, 3) := by decide +kernel
theorem d_Mo_load_105 : decode b_Mo_load 105 = .ok (.aload_n 0, 1) := by decide +kernel
theorem d_Mo_load_106 : decode b_Mo_load 106 = .ok (.iconst 1, 1) := by decide +kernel
theorem d_Mo_load_107 : decode b_Mo_load 107 = .ok (.aload_n 0, 1) := by decide +kernel
theorem d_Mo_load_108 : decode b_Mo_load 108 = .ok (.getfield 21, 3) := by decide +kernel
theorem d_Mo_load_111 : decode b_Mo_load 111 = .ok (.ifCond .eq 7, 3) := by decide +kernel
theorem d_Mo_load_114 : decode b_Mo_load 114 = .ok (.iconst 1, 1) := by decide +kernel
theorem d_Mo_load_115 : decode b_Mo_load 115 = .ok (.goto 4, 3) := by decide +kernel
theorem d_Mo_load_118 : decode b_Mo_load 118 = .ok (.iconst 0, 1) := by decide +kernel
theorem d_Mo_load_119 : decode b_Mo_load 119 = .ok (.invokevirtual 445, 3) := by decide +kernel
theorem d_Mo_load_122 : decode b_Mo_load 122 = .ok (.ifCond .eq 5, 3) := by decide +kernel
theorem d_Mo_load_125 : decode b_Mo_load 125 = .ok (.iconst 0, 1) := by decide +kernel
theorem d_Mo_load_126 : decode b_Mo_load 126 = .ok (.ireturn, 1) := by decide +kernel
theorem d_Mo_load_127 : decode b_Mo_load 127 = .ok (.aload_n 0, 1) := by decide +kernel
theorem d_Mo_load_128 : decode b_Mo_load 128 = .ok (.invokevirtual 663, 3) := by decide +kernel
theorem d_Mo_load_131 : decode b_Mo_load 131 = .ok (.aload_n 0, 1) := by decide +kernel
theorem d_Mo_load_132 : decode b_Mo_load 132 = .ok (.iconst 2, 1) := by decide +kernel
theorem d_Mo_load_133 : decode b_Mo_load 133 = .ok (.aload_n 0, 1) := by decide +kernel
theorem d_Mo_load_134 : decode b_Mo_load 134 = .ok (.invokevirtual 666, 3) := by decide +kernel
theorem d_Mo_load_137 : decode b_Mo_load 137 = .ok (.ifCond .ne 7, 3) := by decide +kernel
theorem d_Mo_load_140 : decode b_Mo_load 140 = .ok (.iconst 1, 1) := by decide +kernel
theorem d_Mo_load_141 : decode b_Mo_load 141 = .ok (.goto 4, 3) := by decide +kernel
theorem d_Mo_load_144 : decode b_Mo_load 144 = .ok (.iconst 0, 1) := by decide +kernel
theorem d_Mo_load_145 : decode b_Mo_load 145 = .ok (.invokevirtual 445, 3) := by decide +kernel
theorem d_Mo_load_148 : decode b_Mo_load 148 = .ok (.ifCond .eq 9, 3) := by decide +kernel
theorem d_Mo_load_151 : decode b_Mo_load 151 = .ok (.aload_n 0, 1) := by decide +kernel
theorem d_Mo_load_152 : decode b_Mo_load 152 = .ok (.invokevirtual 663, 3) := by decide +kernel
theorem d_Mo_load_155 : decode b_Mo_load 155 = .ok (.iconst 0, 1) := by decide +kernel
theorem d_Mo_load_156 : decode b_Mo_load 156 = .ok (.ireturn, 1) := by decide +kernel
theorem d_Mo_load_157 : decode b_Mo_load 157 = .ok (.aload_n 0, 1) := by decide +kernel
theorem d_Mo_load_158 : decode b_Mo_load 158 = .ok (.iconst 1, 1) := by decide +kernel
theorem d_Mo_load_159 : decode b_Mo_load 159 = .ok (.putfield 27, 3) := by decide +kernel
theorem d_Mo_load_162 : decode b_Mo_load 162 = .ok (.aload_n 0, 1) := by decide +kernel
theorem d_Mo_load_163 : decode b_Mo_load 163 = .ok (.getfield 89, 3) := by decide +kernel
theorem d_Mo_load_166 : decode b_Mo_load 166 = .ok (.ireturn, 1) := by decide +kernel
abbrev b_Mo_proto : ByteArray := prog_14_method_9_code
def y_Mo_proto : MethodName := ⟨R_Mo, "proto", "(II)V"⟩
abbrev w_Mo_proto : List Cond := .code y_Mo_proto b_Mo_proto 8 none :: wA
set_option maxRecDepth 20000 in
theorem k_Mo_proto : Cond.code y_Mo_proto b_Mo_proto 8 none ∈ wA := kinm (show _ ∈ tables_1 from (List.mem_append_right _ (List.mem_append_right _ (List.mem_append_right _ (List.mem_append_right _ (List.mem_append_right _ (List.mem_append_right _ (List.mem_append_right _ (List.mem_append_right _ (List.mem_append_right _ (List.mem_append_right _ (List.mem_append_left _ (List.mem_of_getElem? (l := tables_1_11) (i := 141) rfl))))))))))))) rfl
theorem d_Mo_proto_0 : decode b_Mo_proto 0 = .ok (.aload_n 0, 1) := by decide +kernel
theorem d_Mo_proto_1 : decode b_Mo_proto 1 = .ok (.getfield 21, 3) := by decide +kernel
theorem d_Mo_proto_4 : decode b_Mo_proto 4 = .ok (.ifCond .eq 4, 3) := by decide +kernel
theorem d_Mo_proto_7 : decode b_Mo_proto 7 = .ok (.return_, 1) := by decide +kernel
theorem d_Mo_proto_8 : decode b_Mo_proto 8 = .ok (.aload_n 0, 1) := by decide +kernel
theorem d_Mo_proto_9 : decode b_Mo_proto 9 = .ok (.getfield 89, 3) := by decide +kernel
theorem d_Mo_proto_12 : decode b_Mo_proto 12 = .ok (.sipush 250, 3) := by decide +kernel
theorem d_Mo_proto_15 : decode b_Mo_proto 15 = .ok (.if_icmp .eq 9, 3) := by decide +kernel
theorem d_Mo_proto_18 : decode b_Mo_proto 18 = .ok (.iload_n 2, 1) := by decide +kernel
theorem d_Mo_proto_19 : decode b_Mo_proto 19 = .ok (.bipush 20, 2) := by decide +kernel
theorem d_Mo_proto_21 : decode b_Mo_proto 21 = .ok (.if_icmp .le 14, 3) := by decide +kernel
theorem d_Mo_proto_24 : decode b_Mo_proto 24 = .ok (.aload_n 0, 1) := by decide +kernel
theorem d_Mo_proto_25 : decode b_Mo_proto 25 = .ok (.iconst 3, 1) := by decide +kernel
theorem d_Mo_proto_26 : decode b_Mo_proto 26 = .ok (.aload_n 0, 1) := by decide +kernel
theorem d_Mo_proto_27 : decode b_Mo_proto 27 = .ok (.getfield 104, 3) := by decide +kernel
theorem d_Mo_proto_30 : decode b_Mo_proto 30 = .ok (.invokevirtual 449, 3) := by decide +kernel
theorem d_Mo_proto_33 : decode b_Mo_proto 33 = .ok (.pop, 1) := by decide +kernel
theorem d_Mo_proto_34 : decode b_Mo_proto 34 = .ok (.return_, 1) := by decide +kernel
theorem d_Mo_proto_35 : decode b_Mo_proto 35 = .ok (.aload_n 0, 1) := by decide +kernel
theorem d_Mo_proto_36 : decode b_Mo_proto 36 = .ok (.dup, 1) := by decide +kernel
theorem d_Mo_proto_37 : decode b_Mo_proto 37 = .ok (.getfield 89, 3) := by decide +kernel
theorem d_Mo_proto_40 : decode b_Mo_proto 40 = .ok (.dup_x1, 1) := by decide +kernel
theorem d_Mo_proto_41 : decode b_Mo_proto 41 = .ok (.iconst 1, 1) := by decide +kernel
theorem d_Mo_proto_42 : decode b_Mo_proto 42 = .ok (.iadd, 1) := by decide +kernel
theorem d_Mo_proto_43 : decode b_Mo_proto 43 = .ok (.putfield 89, 3) := by decide +kernel
theorem d_Mo_proto_46 : decode b_Mo_proto 46 = .ok (.istore_n 3, 1) := by decide +kernel
theorem d_Mo_proto_47 : decode b_Mo_proto 47 = .ok (.aload_n 0, 1) := by decide +kernel
theorem d_Mo_proto_48 : decode b_Mo_proto 48 = .ok (.getfield 31, 3) := by decide +kernel
theorem d_Mo_proto_51 : decode b_Mo_proto 51 = .ok (.iload_n 3, 1) := by decide +kernel
theorem d_Mo_proto_52 : decode b_Mo_proto 52 = .ok (.aload_n 0, 1) := by decide +kernel
theorem d_Mo_proto_53 : decode b_Mo_proto 53 = .ok (.iconst 1, 1) := by decide +kernel
theorem d_Mo_proto_54 : decode b_Mo_proto 54 = .ok (.invokevirtual 453, 3) := by decide +kernel
theorem d_Mo_proto_57 : decode b_Mo_proto 57 = .ok (.l2i, 1) := by decide +kernel
theorem d_Mo_proto_58 : decode b_Mo_proto 58 = .ok (.iastore, 1) := by decide +kernel
theorem d_Mo_proto_59 : decode b_Mo_proto 59 = .ok (.aload_n 0, 1) := by decide +kernel
theorem d_Mo_proto_60 : decode b_Mo_proto 60 = .ok (.getfield 35, 3) := by decide +kernel
theorem d_Mo_proto_63 : decode b_Mo_proto 63 = .ok (.iload_n 3, 1) := by decide +kernel
theorem d_Mo_proto_64 : decode b_Mo_proto 64 = .ok (.aload_n 0, 1) := by decide +kernel
theorem d_Mo_proto_65 : decode b_Mo_proto 65 = .ok (.iconst 1, 1) := by decide +kernel
theorem d_Mo_proto_66 : decode b_Mo_proto 66 = .ok (.invokevirtual 453, 3) := by decide +kernel
theorem d_Mo_proto_69 : decode b_Mo_proto 69 = .ok (.l2i, 1) := by decide +kernel
theorem d_Mo_proto_70 : decode b_Mo_proto 70 = .ok (.iastore, 1) := by decide +kernel
theorem d_Mo_proto_71 : decode b_Mo_proto 71 = .ok (.aload_n 0, 1) := by decide +kernel
theorem d_Mo_proto_72 : decode b_Mo_proto 72 = .ok (.aload_n 0, 1) := by decide +kernel
theorem d_Mo_proto_73 : decode b_Mo_proto 73 = .ok (.getfield 35, 3) := by decide +kernel
theorem d_Mo_proto_76 : decode b_Mo_proto 76 = .ok (.iload_n 3, 1) := by decide +kernel
theorem d_Mo_proto_77 : decode b_Mo_proto 77 = .ok (.iaload, 1) := by decide +kernel
theorem d_Mo_proto_78 : decode b_Mo_proto 78 = .ok (.iconst 2, 1) := by decide +kernel
theorem d_Mo_proto_79 : decode b_Mo_proto 79 = .ok (.if_icmp .ge 21, 3) := by decide +kernel
theorem d_Mo_proto_82 : decode b_Mo_proto 82 = .ok (.iload_n 1, 1) := by decide +kernel
theorem d_Mo_proto_83 : decode b_Mo_proto 83 = .ok (.ifCond .ge 13, 3) := by decide +kernel
theorem d_Mo_proto_86 : decode b_Mo_proto 86 = .ok (.aload_n 0, 1) := by decide +kernel
theorem d_Mo_proto_87 : decode b_Mo_proto 87 = .ok (.getfield 35, 3) := by decide +kernel
theorem d_Mo_proto_90 : decode b_Mo_proto 90 = .ok (.iload_n 3, 1) := by decide +kernel
theorem d_Mo_proto_91 : decode b_Mo_proto 91 = .ok (.iaload, 1) := by decide +kernel
theorem d_Mo_proto_92 : decode b_Mo_proto 92 = .ok (.iconst 1, 1) := by decide +kernel
theorem d_Mo_proto_93 : decode b_Mo_proto 93 = .ok (.if_icmp .ne 7, 3) := by decide +kernel
theorem d_Mo_proto_96 : decode b_Mo_proto 96 = .ok (.iconst 1, 1) := by decide +kernel
theorem d_Mo_proto_97 : decode b_Mo_proto 97 = .ok (.goto 4, 3) := by decide +kernel
theorem d_Mo_proto_100 : decode b_Mo_proto 100 = .ok (.iconst 0, 1) := by decide +kernel
theorem d_Mo_proto_101 : decode b_Mo_proto 101 = .ok (.invokevirtual 456, 3) := by decide +kernel
theorem d_Mo_proto_104 : decode b_Mo_proto 104 = .ok (.aload_n 0, 1) := by decide +kernel
theorem d_Mo_proto_105 : decode b_Mo_proto 105 = .ok (.getfield 38, 3) := by decide +kernel
theorem d_Mo_proto_108 : decode b_Mo_proto 108 = .ok (.iload_n 3, 1) := by decide +kernel
theorem d_Mo_proto_109 : decode b_Mo_proto 109 = .ok (.aload_n 0, 1) := by decide +kernel
theorem d_Mo_proto_110 : decode b_Mo_proto 110 = .ok (.iconst 1, 1) := by decide +kernel
theorem d_Mo_proto_111 : decode b_Mo_proto 111 = .ok (.invokevirtual 453, 3) := by decide +kernel
theorem d_Mo_proto_114 : decode b_Mo_proto 114 = .ok (.l2i, 1) := by decide +kernel
theorem d_Mo_proto_115 : decode b_Mo_proto 115 = .ok (.iastore, 1) := by decide +kernel
theorem d_Mo_proto_116 : decode b_Mo_proto 116 = .ok (.aload_n 0, 1) := by decide +kernel
theorem d_Mo_proto_117 : decode b_Mo_proto 117 = .ok (.aload_n 0, 1) := by decide +kernel
theorem d_Mo_proto_118 : decode b_Mo_proto 118 = .ok (.getfield 38, 3) := by decide +kernel
theorem d_Mo_proto_121 : decode b_Mo_proto 121 = .ok (.iload_n 3, 1) := by decide +kernel
theorem d_Mo_proto_122 : decode b_Mo_proto 122 = .ok (.iaload, 1) := by decide +kernel
theorem d_Mo_proto_123 : decode b_Mo_proto 123 = .ok (.iconst 1, 1) := by decide +kernel
theorem d_Mo_proto_124 : decode b_Mo_proto 124 = .ok (.if_icmp .le 34, 3) := by decide +kernel
theorem d_Mo_proto_127 : decode b_Mo_proto 127 = .ok (.aload_n 0, 1) := by decide +kernel
theorem d_Mo_proto_128 : decode b_Mo_proto 128 = .ok (.getfield 38, 3) := by decide +kernel
theorem d_Mo_proto_131 : decode b_Mo_proto 131 = .ok (.iload_n 3, 1) := by decide +kernel
theorem d_Mo_proto_132 : decode b_Mo_proto 132 = .ok (.iaload, 1) := by decide +kernel
theorem d_Mo_proto_133 : decode b_Mo_proto 133 = .ok (.sipush 251, 3) := by decide +kernel
theorem d_Mo_proto_136 : decode b_Mo_proto 136 = .ok (.if_icmp .ge 22, 3) := by decide +kernel
theorem d_Mo_proto_139 : decode b_Mo_proto 139 = .ok (.aload_n 0, 1) := by decide +kernel
theorem d_Mo_proto_140 : decode b_Mo_proto 140 = .ok (.getfield 38, 3) := by decide +kernel
theorem d_Mo_proto_143 : decode b_Mo_proto 143 = .ok (.iload_n 3, 1) := by decide +kernel
theorem d_Mo_proto_144 : decode b_Mo_proto 144 = .ok (.iaload, 1) := by decide +kernel
theorem d_Mo_proto_145 : decode b_Mo_proto 145 = .ok (.aload_n 0, 1) := by decide +kernel
theorem d_Mo_proto_146 : decode b_Mo_proto 146 = .ok (.getfield 31, 3) := by decide +kernel
theorem d_Mo_proto_149 : decode b_Mo_proto 149 = .ok (.iload_n 3, 1) := by decide +kernel
theorem d_Mo_proto_150 : decode b_Mo_proto 150 = .ok (.iaload, 1) := by decide +kernel
theorem d_Mo_proto_151 : decode b_Mo_proto 151 = .ok (.if_icmp .lt 7, 3) := by decide +kernel
theorem d_Mo_proto_154 : decode b_Mo_proto 154 = .ok (.iconst 1, 1) := by decide +kernel
theorem d_Mo_proto_155 : decode b_Mo_proto 155 = .ok (.goto 4, 3) := by decide +kernel
theorem d_Mo_proto_158 : decode b_Mo_proto 158 = .ok (.iconst 0, 1) := by decide +kernel
theorem d_Mo_proto_159 : decode b_Mo_proto 159 = .ok (.invokevirtual 456, 3) := by decide +kernel
theorem d_Mo_proto_162 : decode b_Mo_proto 162 = .ok (.aload_n 0, 1) := by decide +kernel
theorem d_Mo_proto_163 : decode b_Mo_proto 163 = .ok (.getfield 41, 3) := by decide +kernel
theorem d_Mo_proto_166 : decode b_Mo_proto 166 = .ok (.iload_n 3, 1) := by decide +kernel
theorem d_Mo_proto_167 : decode b_Mo_proto 167 = .ok (.aload_n 0, 1) := by decide +kernel
theorem d_Mo_proto_168 : decode b_Mo_proto 168 = .ok (.iconst 1, 1) := by decide +kernel
theorem d_Mo_proto_169 : decode b_Mo_proto 169 = .ok (.invokevirtual 453, 3) := by decide +kernel
theorem d_Mo_proto_172 : decode b_Mo_proto 172 = .ok (.l2i, 1) := by decide +kernel
theorem d_Mo_proto_173 : decode b_Mo_proto 173 = .ok (.iastore, 1) := by decide +kernel
theorem d_Mo_proto_174 : decode b_Mo_proto 174 = .ok (.aload_n 0, 1) := by decide +kernel
theorem d_Mo_proto_175 : decode b_Mo_proto 175 = .ok (.iload_n 1, 1) := by decide +kernel
theorem d_Mo_proto_176 : decode b_Mo_proto 176 = .ok (.ifCond .lt 22, 3) := by decide +kernel
theorem d_Mo_proto_179 : decode b_Mo_proto 179 = .ok (.aload_n 0, 1) := by decide +kernel
theorem d_Mo_proto_180 : decode b_Mo_proto 180 = .ok (.getfield 41, 3) := by decide +kernel
theorem d_Mo_proto_183 : decode b_Mo_proto 183 = .ok (.iload_n 3, 1) := by decide +kernel
theorem d_Mo_proto_184 : decode b_Mo_proto 184 = .ok (.iaload, 1) := by decide +kernel
theorem d_Mo_proto_185 : decode b_Mo_proto 185 = .ok (.bipush 60, 2) := by decide +kernel
theorem d_Mo_proto_187 : decode b_Mo_proto 187 = .ok (.if_icmp .gt 7, 3) := by decide +kernel
theorem d_Mo_proto_190 : decode b_Mo_proto 190 = .ok (.iconst 1, 1) := by decide +kernel
theorem d_Mo_proto_191 : decode b_Mo_proto 191 = .ok (.goto 22, 3) := by decide +kernel
theorem d_Mo_proto_194 : decode b_Mo_proto 194 = .ok (.iconst 0, 1) := by decide +kernel
theorem d_Mo_proto_195 : decode b_Mo_proto 195 = .ok (.goto 18, 3) := by decide +kernel
theorem d_Mo_proto_198 : decode b_Mo_proto 198 = .ok (.aload_n 0, 1) := by decide +kernel
theorem d_Mo_proto_199 : decode b_Mo_proto 199 = .ok (.getfield 41, 3) := by decide +kernel
theorem d_Mo_proto_202 : decode b_Mo_proto 202 = .ok (.iload_n 3, 1) := by decide +kernel
theorem d_Mo_proto_203 : decode b_Mo_proto 203 = .ok (.iaload, 1) := by decide +kernel
theorem d_Mo_proto_204 : decode b_Mo_proto 204 = .ok (.iconst 1, 1) := by decide +kernel
theorem d_Mo_proto_205 : decode b_Mo_proto 205 = .ok (.if_icmp .ne 7, 3) := by decide +kernel
theorem d_Mo_proto_208 : decode b_Mo_proto 208 = .ok (.iconst 1, 1) := by decide +kernel
theorem d_Mo_proto_209 : decode b_Mo_proto 209 = .ok (.goto 4, 3) := by decide +kernel
theorem d_Mo_proto_212 : decode b_Mo_proto 212 = .ok (.iconst 0, 1) := by decide +kernel
theorem d_Mo_proto_213 : decode b_Mo_proto 213 = .ok (.invokevirtual 456, 3) := by decide +kernel
theorem d_Mo_proto_216 : decode b_Mo_proto 216 = .ok (.aload_n 0, 1) := by decide +kernel
theorem d_Mo_proto_217 : decode b_Mo_proto 217 = .ok (.getfield 21, 3) := by decide +kernel
theorem d_Mo_proto_220 : decode b_Mo_proto 220 = .ok (.ifCond .eq 4, 3) := by decide +kernel
theorem d_Mo_proto_223 : decode b_Mo_proto 223 = .ok (.return_, 1) := by decide +kernel
theorem d_Mo_proto_224 : decode b_Mo_proto 224 = .ok (.aload_n 0, 1) := by decide +kernel
theorem d_Mo_proto_225 : decode b_Mo_proto 225 = .ok (.getfield 44, 3) := by decide +kernel
theorem d_Mo_proto_228 : decode b_Mo_proto 228 = .ok (.iload_n 3, 1) := by decide +kernel
theorem d_Mo_proto_229 : decode b_Mo_proto 229 = .ok (.aload_n 0, 1) := by decide +kernel
theorem d_Mo_proto_230 : decode b_Mo_proto 230 = .ok (.getfield 92, 3) := by decide +kernel
theorem d_Mo_proto_233 : decode b_Mo_proto 233 = .ok (.iastore, 1) := by decide +kernel
theorem d_Mo_proto_234 : decode b_Mo_proto 234 = .ok (.iconst 0, 1) := by decide +kernel
theorem d_Mo_proto_235 : decode b_Mo_proto 235 = .ok (.istore 4, 2) := by decide +kernel
theorem d_Mo_proto_237 : decode b_Mo_proto 237 = .ok (.iload 4, 2) := by decide +kernel
theorem d_Mo_proto_239 : decode b_Mo_proto 239 = .ok (.aload_n 0, 1) := by decide +kernel
theorem d_Mo_proto_240 : decode b_Mo_proto 240 = .ok (.getfield 41, 3) := by decide +kernel
theorem d_Mo_proto_243 : decode b_Mo_proto 243 = .ok (.iload_n 3, 1) := by decide +kernel
theorem d_Mo_proto_244 : decode b_Mo_proto 244 = .ok (.iaload, 1) := by decide +kernel
theorem d_Mo_proto_245 : decode b_Mo_proto 245 = .ok (.if_icmp .ge 14, 3) := by decide +kernel
theorem d_Mo_proto_248 : decode b_Mo_proto 248 = .ok (.aload_n 0, 1) := by decide +kernel
theorem d_Mo_proto_249 : decode b_Mo_proto 249 = .ok (.iload_n 1, 1) := by decide +kernel
theorem d_Mo_proto_250 : decode b_Mo_proto 250 = .ok (.invokevirtual 460, 3) := by decide +kernel
theorem d_Mo_proto_253 : decode b_Mo_proto 253 = .ok (.iinc 4 1, 3) := by decide +kernel
theorem d_Mo_proto_256 : decode b_Mo_proto 256 = .ok (.goto (-19), 3) := by decide +kernel
theorem d_Mo_proto_259 : decode b_Mo_proto 259 = .ok (.aload_n 0, 1) := by decide +kernel
theorem d_Mo_proto_260 : decode b_Mo_proto 260 = .ok (.iload_n 3, 1) := by decide +kernel
theorem d_Mo_proto_261 : decode b_Mo_proto 261 = .ok (.invokevirtual 463, 3) := by decide +kernel
theorem d_Mo_proto_264 : decode b_Mo_proto 264 = .ok (.aload_n 0, 1) := by decide +kernel
theorem d_Mo_proto_265 : decode b_Mo_proto 265 = .ok (.iconst 2, 1) := by decide +kernel
theorem d_Mo_proto_266 : decode b_Mo_proto 266 = .ok (.invokevirtual 453, 3) := by decide +kernel
theorem d_Mo_proto_269 : decode b_Mo_proto 269 = .ok (.l2i, 1) := by decide +kernel
theorem d_Mo_proto_270 : decode b_Mo_proto 270 = .ok (.istore 4, 2) := by decide +kernel
theorem d_Mo_proto_272 : decode b_Mo_proto 272 = .ok (.aload_n 0, 1) := by decide +kernel
theorem d_Mo_proto_273 : decode b_Mo_proto 273 = .ok (.iload 4, 2) := by decide +kernel
theorem d_Mo_proto_275 : decode b_Mo_proto 275 = .ok (.ifCond .le 7, 3) := by decide +kernel
theorem d_Mo_proto_278 : decode b_Mo_proto 278 = .ok (.iconst 1, 1) := by decide +kernel
theorem d_Mo_proto_279 : decode b_Mo_proto 279 = .ok (.goto 4, 3) := by decide +kernel
theorem d_Mo_proto_282 : decode b_Mo_proto 282 = .ok (.iconst 0, 1) := by decide +kernel
theorem d_Mo_proto_283 : decode b_Mo_proto 283 = .ok (.invokevirtual 456, 3) := by decide +kernel
theorem d_Mo_proto_286 : decode b_Mo_proto 286 = .ok (.aload_n 0, 1) := by decide +kernel
theorem d_Mo_proto_287 : decode b_Mo_proto 287 = .ok (.getfield 53, 3) := by decide +kernel
theorem d_Mo_proto_290 : decode b_Mo_proto 290 = .ok (.iload_n 3, 1) := by decide +kernel
theorem d_Mo_proto_291 : decode b_Mo_proto 291 = .ok (.aload_n 0, 1) := by decide +kernel
theorem d_Mo_proto_292 : decode b_Mo_proto 292 = .ok (.getfield 98, 3) := by decide +kernel
theorem d_Mo_proto_295 : decode b_Mo_proto 295 = .ok (.iastore, 1) := by decide +kernel
theorem d_Mo_proto_296 : decode b_Mo_proto 296 = .ok (.aload_n 0, 1) := by decide +kernel
theorem d_Mo_proto_297 : decode b_Mo_proto 297 = .ok (.getfield 56, 3) := by decide +kernel
theorem d_Mo_proto_300 : decode b_Mo_proto 300 = .ok (.iload_n 3, 1) := by decide +kernel
theorem d_Mo_proto_301 : decode b_Mo_proto 301 = .ok (.iload 4, 2) := by decide +kernel
theorem d_Mo_proto_303 : decode b_Mo_proto 303 = .ok (.iastore, 1) := by decide +kernel
theorem d_Mo_proto_304 : decode b_Mo_proto 304 = .ok (.iconst 0, 1) := by decide +kernel
theorem d_Mo_proto_305 : decode b_Mo_proto 305 = .ok (.istore 5, 2) := by decide +kernel
theorem d_Mo_proto_307 : decode b_Mo_proto 307 = .ok (.iload 5, 2) := by decide +kernel
theorem d_Mo_proto_309 : decode b_Mo_proto 309 = .ok (.iload 4, 2) := by decide +kernel
theorem d_Mo_proto_311 : decode b_Mo_proto 311 = .ok (.if_icmp .ge 99, 3) := by decide +kernel
theorem d_Mo_proto_314 : decode b_Mo_proto 314 = .ok (.aload_n 0, 1) := by decide +kernel
theorem d_Mo_proto_315 : decode b_Mo_proto 315 = .ok (.getfield 21, 3) := by decide +kernel
theorem d_Mo_proto_318 : decode b_Mo_proto 318 = .ok (.ifCond .ne 92, 3) := by decide +kernel
theorem d_Mo_proto_321 : decode b_Mo_proto 321 = .ok (.aload_n 0, 1) := by decide +kernel
theorem d_Mo_proto_322 : decode b_Mo_proto 322 = .ok (.getfield 104, 3) := by decide +kernel
theorem d_Mo_proto_325 : decode b_Mo_proto 325 = .ok (.istore 6, 2) := by decide +kernel
theorem d_Mo_proto_327 : decode b_Mo_proto 327 = .ok (.aload_n 0, 1) := by decide +kernel
theorem d_Mo_proto_328 : decode b_Mo_proto 328 = .ok (.iconst 4, 1) := by decide +kernel
theorem d_Mo_proto_329 : decode b_Mo_proto 329 = .ok (.invokevirtual 453, 3) := by decide +kernel
theorem d_Mo_proto_332 : decode b_Mo_proto 332 = .ok (.l2i, 1) := by decide +kernel
theorem d_Mo_proto_333 : decode b_Mo_proto 333 = .ok (.istore 7, 2) := by decide +kernel
theorem d_Mo_proto_335 : decode b_Mo_proto 335 = .ok (.aload_n 0, 1) := by decide +kernel
theorem d_Mo_proto_336 : decode b_Mo_proto 336 = .ok (.getfield 21, 3) := by decide +kernel
theorem d_Mo_proto_339 : decode b_Mo_proto 339 = .ok (.ifCond .ne 26, 3) := by decide +kernel
theorem d_Mo_proto_342 : decode b_Mo_proto 342 = .ok (.aload_n 0, 1) := by decide +kernel
theorem d_Mo_proto_343 : decode b_Mo_proto 343 = .ok (.getfield 95, 3) := by decide +kernel
theorem d_Mo_proto_346 : decode b_Mo_proto 346 = .ok (.aload_n 0, 1) := by decide +kernel
theorem d_Mo_proto_347 : decode b_Mo_proto 347 = .ok (.getfield 98, 3) := by decide +kernel
theorem d_Mo_proto_350 : decode b_Mo_proto 350 = .ok (.iadd, 1) := by decide +kernel
theorem d_Mo_proto_351 : decode b_Mo_proto 351 = .ok (.sipush 20000, 3) := by decide +kernel
theorem d_Mo_proto_354 : decode b_Mo_proto 354 = .ok (.if_icmp .ne 11, 3) := by decide +kernel
theorem d_Mo_proto_357 : decode b_Mo_proto 357 = .ok (.aload_n 0, 1) := by decide +kernel
theorem d_Mo_proto_358 : decode b_Mo_proto 358 = .ok (.iconst 4, 1) := by decide +kernel
theorem d_Mo_proto_359 : decode b_Mo_proto 359 = .ok (.iload 6, 2) := by decide +kernel
theorem d_Mo_proto_361 : decode b_Mo_proto 361 = .ok (.invokevirtual 449, 3) := by decide +kernel
theorem d_Mo_proto_364 : decode b_Mo_proto 364 = .ok (.pop, 1) := by decide +kernel
theorem d_Mo_proto_365 : decode b_Mo_proto 365 = .ok (.aload_n 0, 1) := by decide +kernel
theorem d_Mo_proto_366 : decode b_Mo_proto 366 = .ok (.getfield 21, 3) := by decide +kernel
theorem d_Mo_proto_369 : decode b_Mo_proto 369 = .ok (.ifCond .eq 6, 3) := by decide +kernel
theorem d_Mo_proto_372 : decode b_Mo_proto 372 = .ok (.goto 38, 3) := by decide +kernel
theorem d_Mo_proto_375 : decode b_Mo_proto 375 = .ok (.aload_n 0, 1) := by decide +kernel
theorem d_Mo_proto_376 : decode b_Mo_proto 376 = .ok (.getfield 71, 3) := by decide +kernel
theorem d_Mo_proto_379 : decode b_Mo_proto 379 = .ok (.aload_n 0, 1) := by decide +kernel
theorem d_Mo_proto_380 : decode b_Mo_proto 380 = .ok (.getfield 98, 3) := by decide +kernel
theorem d_Mo_proto_383 : decode b_Mo_proto 383 = .ok (.iload 7, 2) := by decide +kernel
theorem d_Mo_proto_385 : decode b_Mo_proto 385 = .ok (.iastore, 1) := by decide +kernel
theorem d_Mo_proto_386 : decode b_Mo_proto 386 = .ok (.aload_n 0, 1) := by decide +kernel
theorem d_Mo_proto_387 : decode b_Mo_proto 387 = .ok (.getfield 74, 3) := by decide +kernel
theorem d_Mo_proto_390 : decode b_Mo_proto 390 = .ok (.aload_n 0, 1) := by decide +kernel
theorem d_Mo_proto_391 : decode b_Mo_proto 391 = .ok (.dup, 1) := by decide +kernel
theorem d_Mo_proto_392 : decode b_Mo_proto 392 = .ok (.getfield 98, 3) := by decide +kernel
theorem d_Mo_proto_395 : decode b_Mo_proto 395 = .ok (.dup_x1, 1) := by decide +kernel
theorem d_Mo_proto_396 : decode b_Mo_proto 396 = .ok (.iconst 1, 1) := by decide +kernel
theorem d_Mo_proto_397 : decode b_Mo_proto 397 = .ok (.iadd, 1) := by decide +kernel
theorem d_Mo_proto_398 : decode b_Mo_proto 398 = .ok (.putfield 98, 3) := by decide +kernel
theorem d_Mo_proto_401 : decode b_Mo_proto 401 = .ok (.iload 6, 2) := by decide +kernel
theorem d_Mo_proto_403 : decode b_Mo_proto 403 = .ok (.iastore, 1) := by decide +kernel
theorem d_Mo_proto_404 : decode b_Mo_proto 404 = .ok (.iinc 5 1, 3) := by decide +kernel
theorem d_Mo_proto_407 : decode b_Mo_proto 407 = .ok (.goto (-100), 3) := by decide +kernel
theorem d_Mo_proto_410 : decode b_Mo_proto 410 = .ok (.aload_n 0, 1) := by decide +kernel
theorem d_Mo_proto_411 : decode b_Mo_proto 411 = .ok (.iconst 1, 1) := by decide +kernel
theorem d_Mo_proto_412 : decode b_Mo_proto 412 = .ok (.invokevirtual 453, 3) := by decide +kernel
theorem d_Mo_proto_415 : decode b_Mo_proto 415 = .ok (.l2i, 1) := by decide +kernel
theorem d_Mo_proto_416 : decode b_Mo_proto 416 = .ok (.istore 5, 2) := by decide +kernel
theorem d_Mo_proto_418 : decode b_Mo_proto 418 = .ok (.aload_n 0, 1) := by decide +kernel
theorem d_Mo_proto_419 : decode b_Mo_proto 419 = .ok (.getfield 21, 3) := by decide +kernel
theorem d_Mo_proto_422 : decode b_Mo_proto 422 = .ok (.ifCond .eq 4, 3) := by decide +kernel
theorem d_Mo_proto_425 : decode b_Mo_proto 425 = .ok (.return_, 1) := by decide +kernel
theorem d_Mo_proto_426 : decode b_Mo_proto 426 = .ok (.aload_n 0, 1) := by decide +kernel
theorem d_Mo_proto_427 : decode b_Mo_proto 427 = .ok (.getfield 62, 3) := by decide +kernel
theorem d_Mo_proto_430 : decode b_Mo_proto 430 = .ok (.iload_n 3, 1) := by decide +kernel
theorem d_Mo_proto_431 : decode b_Mo_proto 431 = .ok (.iload 5, 2) := by decide +kernel
theorem d_Mo_proto_433 : decode b_Mo_proto 433 = .ok (.iastore, 1) := by decide +kernel
theorem d_Mo_proto_434 : decode b_Mo_proto 434 = .ok (.aload_n 0, 1) := by decide +kernel
theorem d_Mo_proto_435 : decode b_Mo_proto 435 = .ok (.getfield 59, 3) := by decide +kernel
theorem d_Mo_proto_438 : decode b_Mo_proto 438 = .ok (.iload_n 3, 1) := by decide +kernel
theorem d_Mo_proto_439 : decode b_Mo_proto 439 = .ok (.aload_n 0, 1) := by decide +kernel
theorem d_Mo_proto_440 : decode b_Mo_proto 440 = .ok (.getfield 101, 3) := by decide +kernel
theorem d_Mo_proto_443 : decode b_Mo_proto 443 = .ok (.iastore, 1) := by decide +kernel
theorem d_Mo_proto_444 : decode b_Mo_proto 444 = .ok (.aload_n 0, 1) := by decide +kernel
theorem d_Mo_proto_445 : decode b_Mo_proto 445 = .ok (.dup, 1) := by decide +kernel
theorem d_Mo_proto_446 : decode b_Mo_proto 446 = .ok (.getfield 101, 3) := by decide +kernel
theorem d_Mo_proto_449 : decode b_Mo_proto 449 = .ok (.iload 5, 2) := by decide +kernel
theorem d_Mo_proto_451 : decode b_Mo_proto 451 = .ok (.iadd, 1) := by decide +kernel
theorem d_Mo_proto_452 : decode b_Mo_proto 452 = .ok (.putfield 101, 3) := by decide +kernel
theorem d_Mo_proto_455 : decode b_Mo_proto 455 = .ok (.iconst 0, 1) := by decide +kernel
theorem d_Mo_proto_456 : decode b_Mo_proto 456 = .ok (.istore 6, 2) := by decide +kernel
theorem d_Mo_proto_458 : decode b_Mo_proto 458 = .ok (.iload 6, 2) := by decide +kernel
theorem d_Mo_proto_460 : decode b_Mo_proto 460 = .ok (.iload 5, 2) := by decide +kernel
theorem d_Mo_proto_462 : decode b_Mo_proto 462 = .ok (.if_icmp .ge 57, 3) := by decide +kernel
theorem d_Mo_proto_465 : decode b_Mo_proto 465 = .ok (.aload_n 0, 1) := by decide +kernel
theorem d_Mo_proto_466 : decode b_Mo_proto 466 = .ok (.getfield 21, 3) := by decide +kernel
theorem d_Mo_proto_469 : decode b_Mo_proto 469 = .ok (.ifCond .ne 50, 3) := by decide +kernel
theorem d_Mo_proto_472 : decode b_Mo_proto 472 = .ok (.aload_n 0, 1) := by decide +kernel
theorem d_Mo_proto_473 : decode b_Mo_proto 473 = .ok (.getfield 59, 3) := by decide +kernel
theorem d_Mo_proto_476 : decode b_Mo_proto 476 = .ok (.iload_n 3, 1) := by decide +kernel
theorem d_Mo_proto_477 : decode b_Mo_proto 477 = .ok (.iaload, 1) := by decide +kernel
theorem d_Mo_proto_478 : decode b_Mo_proto 478 = .ok (.iload 6, 2) := by decide +kernel
theorem d_Mo_proto_480 : decode b_Mo_proto 480 = .ok (.iadd, 1) := by decide +kernel
theorem d_Mo_proto_481 : decode b_Mo_proto 481 = .ok (.sipush 256, 3) := by decide +kernel
theorem d_Mo_proto_484 : decode b_Mo_proto 484 = .ok (.if_icmp .ge 21, 3) := by decide +kernel
theorem d_Mo_proto_487 : decode b_Mo_proto 487 = .ok (.aload_n 0, 1) := by decide +kernel
theorem d_Mo_proto_488 : decode b_Mo_proto 488 = .ok (.getfield 68, 3) := by decide +kernel
theorem d_Mo_proto_491 : decode b_Mo_proto 491 = .ok (.aload_n 0, 1) := by decide +kernel
theorem d_Mo_proto_492 : decode b_Mo_proto 492 = .ok (.getfield 59, 3) := by decide +kernel
theorem d_Mo_proto_495 : decode b_Mo_proto 495 = .ok (.iload_n 3, 1) := by decide +kernel
theorem d_Mo_proto_496 : decode b_Mo_proto 496 = .ok (.iaload, 1) := by decide +kernel
theorem d_Mo_proto_497 : decode b_Mo_proto 497 = .ok (.iload 6, 2) := by decide +kernel
theorem d_Mo_proto_499 : decode b_Mo_proto 499 = .ok (.iadd, 1) := by decide +kernel
theorem d_Mo_proto_500 : decode b_Mo_proto 500 = .ok (.aload_n 0, 1) := by decide +kernel
theorem d_Mo_proto_501 : decode b_Mo_proto 501 = .ok (.getfield 89, 3) := by decide +kernel
theorem d_Mo_proto_504 : decode b_Mo_proto 504 = .ok (.iastore, 1) := by decide +kernel
theorem d_Mo_proto_505 : decode b_Mo_proto 505 = .ok (.aload_n 0, 1) := by decide +kernel
theorem d_Mo_proto_506 : decode b_Mo_proto 506 = .ok (.iload_n 3, 1) := by decide +kernel
theorem d_Mo_proto_507 : decode b_Mo_proto 507 = .ok (.iload_n 2, 1) := by decide +kernel
theorem d_Mo_proto_508 : decode b_Mo_proto 508 = .ok (.iconst 1, 1) := by decide +kernel
theorem d_Mo_proto_509 : decode b_Mo_proto 509 = .ok (.iadd, 1) := by decide +kernel
theorem d_Mo_proto_510 : decode b_Mo_proto 510 = .ok (.invokevirtual 466, 3) := by decide +kernel
theorem d_Mo_proto_513 : decode b_Mo_proto 513 = .ok (.iinc 6 1, 3) := by decide +kernel
theorem d_Mo_proto_516 : decode b_Mo_proto 516 = .ok (.goto (-58), 3) := by decide +kernel
theorem d_Mo_proto_519 : decode b_Mo_proto 519 = .ok (.return_, 1) := by decide +kernel
abbrev b_Mo_bad : ByteArray := prog_14_method_6_code
def y_Mo_bad : MethodName := ⟨R_Mo, "bad", "(II)Z"⟩
abbrev w_Mo_bad : List Cond := .code y_Mo_bad b_Mo_bad 3 (some .boolean) :: wA
theorem k_Mo_bad : Cond.code y_Mo_bad b_Mo_bad 3 (some .boolean) ∈ wA := kinm (show _ ∈ tables_1 from (List.mem_append_right _ (List.mem_append_right _ (List.mem_append_right _ (List.mem_append_right _ (List.mem_append_right _ (List.mem_append_right _ (List.mem_append_right _ (List.mem_append_right _ (List.mem_append_right _ (List.mem_append_right _ (List.mem_append_left _ (List.mem_of_getElem? (l := tables_1_11) (i := 145) (by decide +kernel)))))))))))))) (by decide +kernel)
theorem d_Mo_bad_0 : decode b_Mo_bad 0 = .ok (.aload_n 0, 1) := by decide +kernel
theorem d_Mo_bad_1 : decode b_Mo_bad 1 = .ok (.getfield 21, 3) := by decide +kernel
theorem d_Mo_bad_4 : decode b_Mo_bad 4 = .ok (.ifCond .ne 13, 3) := by decide +kernel
theorem d_Mo_bad_7 : decode b_Mo_bad 7 = .ok (.aload_n 0, 1) := by decide +kernel
theorem d_Mo_bad_8 : decode b_Mo_bad 8 = .ok (.iload_n 1, 1) := by decide +kernel
theorem d_Mo_bad_9 : decode b_Mo_bad 9 = .ok (.putfield 21, 3) := by decide +kernel
theorem d_Mo_bad_12 : decode b_Mo_bad 12 = .ok (.aload_n 0, 1) := by decide +kernel
theorem d_Mo_bad_13 : decode b_Mo_bad 13 = .ok (.iload_n 2, 1) := by decide +kernel
theorem d_Mo_bad_14 : decode b_Mo_bad 14 = .ok (.putfield 24, 3) := by decide +kernel
theorem d_Mo_bad_17 : decode b_Mo_bad 17 = .ok (.iconst 0, 1) := by decide +kernel
theorem d_Mo_bad_18 : decode b_Mo_bad 18 = .ok (.ireturn, 1) := by decide +kernel
theorem kw_25 : Cond.fieldLink R_Mo 21 "LuaMachineModel" "fault" "I" ∈ wA := kinm (show _ ∈ tables_1 from (List.mem_append_right _ (List.mem_append_right _ (List.mem_append_right _ (List.mem_append_right _ (List.mem_append_right _ (List.mem_append_right _ (List.mem_append_right _ (List.mem_append_right _ (List.mem_append_right _ (List.mem_append_left _ (List.mem_of_getElem? (l := tables_1_10) (i := 57) (by decide +kernel))))))))))))) (by decide +kernel)
theorem kw_26 : Cond.fieldLink R_Mo 24 "LuaMachineModel" "faultAt" "I" ∈ wA := kinm (show _ ∈ tables_1 from (List.mem_append_right _ (List.mem_append_right _ (List.mem_append_right _ (List.mem_append_right _ (List.mem_append_right _ (List.mem_append_right _ (List.mem_append_right _ (List.mem_append_right _ (List.mem_append_right _ (List.mem_append_left _ (List.mem_of_getElem? (l := tables_1_10) (i := 58) (by decide +kernel))))))))))))) (by decide +kernel)
theorem kw_27 : Cond.instanceMethod y_Mo_bad ∈ wA := kinm (show _ ∈ tables_1 from (List.mem_append_right _ (List.mem_append_right _ (List.mem_append_right _ (List.mem_append_right _ (List.mem_append_right _ (List.mem_append_right _ (List.mem_append_right _ (List.mem_append_right _ (List.mem_append_right _ (List.mem_append_right _ (List.mem_append_left _ (List.mem_of_getElem? (l := tables_1_11) (i := 144) (by decide +kernel)))))))))))))) (by decide +kernel)
theorem kw_28 : Cond.selects R_Mo y_Mo_bad y_Mo_bad ∈ wA := kinp 113 (by decide +kernel) (by decide +kernel)
def M_Mo_bad (l1 : Int32) (l2 : Int32) : M (Int32) :=
  oB (oGI 3 0) fun v1 =>
  oC (v1 = 0)
    (oB (oPI 3 0 l1) fun _ =>
    oB (oPI 4 0 l2) fun _ =>
    oR 0)
    (oR 0)

theorem cv_Mo_bad : CV y_Mo_bad b_Mo_bad 3 (some .boolean) 2 := ⟨kw_27, kw_28, kw_17, k_Mo_bad, by decide +kernel⟩
theorem ct_Mo_bad {l : Launch} {P : PP} {q : PL} {s s' : S1} {l1 : Int32} {l2 : Int32} {r : Int32} (h : M_Mo_bad l1 l2 s = some (r, s')) : Ct l y_Mo_bad b_Mo_bad 3 (some .boolean) 0 0 P q s [.ref (q.1 0 0), .int l1, .int l2] (some (.int r)) q s' := by
  refine ct_of (by decide) (Nat.le_of_ble_eq_true rfl) fun X ls eP el g hR hl => ?_
  have hR : Rt X q ((r, s') : Int32 × S1).2 (some (.int ((r, s') : Int32 × S1).1)) := hR
  have hl : lv_has ls 3 [(0, .ref (q.1 0 0)), (1, .int l1), (2, .int l2)] := hl
  generalize (r, s') = o at h hR
  unfold M_Mo_bad at h
  refine ww_aload_n (pc := 0) g.1 d_Mo_bad_0 rfl (lv_at hl 0 rfl) ?_
  refine ww_gI (pc := 1) g (k := 3) cl_Mo (pz rfl (by decide)) (by decide) (Or.inl kw_25) (f := 3) rfl rfl d_Mo_bad_1 h fun v1 h => ?_
  refine ww_if_ne (pc := 4) (tgt := 17) g.1 d_Mo_bad_4 (by decide) h (fun c h => ?_) (fun c h => ?_)
  · refine ww_iconst (pc := 17) g.1 (v := 0) d_Mo_bad_17 (by decide) ?_
    exact ww_zretH (pc := 18) g h hR (Or.inl rfl) d_Mo_bad_18
  · refine ww_aload_n (pc := 7) g.1 d_Mo_bad_7 rfl (lv_at hl 0 rfl) ?_
    refine ww_iload_n (pc := 8) g.1 d_Mo_bad_8 rfl (lv_at hl 1 rfl) ?_
    refine ww_pI (pc := 9) g (k := 3) cl_Mo (pz rfl (by decide)) (by decide) (Or.inl kw_25) rfl (f := 3) rfl rfl rfl rfl d_Mo_bad_9 h fun s hs h => ?_
    refine ww_aload_n (pc := 12) g.1 d_Mo_bad_12 rfl (lv_at hl 0 rfl) ?_
    refine ww_iload_n (pc := 13) g.1 d_Mo_bad_13 rfl (lv_at hl 2 rfl) ?_
    refine ww_pI (pc := 14) g (k := 4) cl_Mo (pz rfl (by decide)) (by decide) (Or.inl kw_26) rfl (f := 4) rfl rfl rfl rfl d_Mo_bad_14 h fun s hs h => ?_
    refine ww_iconst (pc := 17) g.1 (v := 0) d_Mo_bad_17 (by decide) ?_
    exact ww_zretH (pc := 18) g h hR (Or.inl rfl) d_Mo_bad_18

abbrev b_Mo_number : ByteArray := prog_14_method_7_code
def y_Mo_number : MethodName := ⟨R_Mo, "number", "(I)J"⟩
abbrev w_Mo_number : List Cond := .code y_Mo_number b_Mo_number 5 (some .long) :: wA
theorem k_Mo_number : Cond.code y_Mo_number b_Mo_number 5 (some .long) ∈ wA := kinm (show _ ∈ tables_1 from (List.mem_append_right _ (List.mem_append_right _ (List.mem_append_right _ (List.mem_append_right _ (List.mem_append_right _ (List.mem_append_right _ (List.mem_append_right _ (List.mem_append_right _ (List.mem_append_right _ (List.mem_append_right _ (List.mem_append_left _ (List.mem_of_getElem? (l := tables_1_11) (i := 149) (by decide +kernel)))))))))))))) (by decide +kernel)
theorem d_Mo_number_0 : decode b_Mo_number 0 = .ok (.aload_n 0, 1) := by decide +kernel
theorem d_Mo_number_1 : decode b_Mo_number 1 = .ok (.getfield 21, 3) := by decide +kernel
theorem d_Mo_number_4 : decode b_Mo_number 4 = .ok (.ifCond .eq 5, 3) := by decide +kernel
theorem d_Mo_number_7 : decode b_Mo_number 7 = .ok (.lconst 0, 1) := by decide +kernel
theorem d_Mo_number_8 : decode b_Mo_number 8 = .ok (.lreturn, 1) := by decide +kernel
theorem d_Mo_number_9 : decode b_Mo_number 9 = .ok (.aload_n 0, 1) := by decide +kernel
theorem d_Mo_number_10 : decode b_Mo_number 10 = .ok (.aload_n 0, 1) := by decide +kernel
theorem d_Mo_number_11 : decode b_Mo_number 11 = .ok (.getfield 104, 3) := by decide +kernel
theorem d_Mo_number_14 : decode b_Mo_number 14 = .ok (.putfield 107, 3) := by decide +kernel
theorem d_Mo_number_17 : decode b_Mo_number 17 = .ok (.aload_n 0, 1) := by decide +kernel
theorem d_Mo_number_18 : decode b_Mo_number 18 = .ok (.getfield 14, 3) := by decide +kernel
theorem d_Mo_number_21 : decode b_Mo_number 21 = .ok (.aload_n 0, 1) := by decide +kernel
theorem d_Mo_number_22 : decode b_Mo_number 22 = .ok (.getfield 104, 3) := by decide +kernel
theorem d_Mo_number_25 : decode b_Mo_number 25 = .ok (.isub, 1) := by decide +kernel
theorem d_Mo_number_26 : decode b_Mo_number 26 = .ok (.iload_n 1, 1) := by decide +kernel
theorem d_Mo_number_27 : decode b_Mo_number 27 = .ok (.if_icmp .ge 15, 3) := by decide +kernel
theorem d_Mo_number_30 : decode b_Mo_number 30 = .ok (.aload_n 0, 1) := by decide +kernel
theorem d_Mo_number_31 : decode b_Mo_number 31 = .ok (.iconst 1, 1) := by decide +kernel
theorem d_Mo_number_32 : decode b_Mo_number 32 = .ok (.aload_n 0, 1) := by decide +kernel
theorem d_Mo_number_33 : decode b_Mo_number 33 = .ok (.getfield 104, 3) := by decide +kernel
theorem d_Mo_number_36 : decode b_Mo_number 36 = .ok (.invokevirtual 449, 3) := by decide +kernel
theorem d_Mo_number_39 : decode b_Mo_number 39 = .ok (.pop, 1) := by decide +kernel
theorem d_Mo_number_40 : decode b_Mo_number 40 = .ok (.lconst 0, 1) := by decide +kernel
theorem d_Mo_number_41 : decode b_Mo_number 41 = .ok (.lreturn, 1) := by decide +kernel
theorem d_Mo_number_42 : decode b_Mo_number 42 = .ok (.lconst 0, 1) := by decide +kernel
theorem d_Mo_number_43 : decode b_Mo_number 43 = .ok (.lstore_n 2, 1) := by decide +kernel
theorem d_Mo_number_44 : decode b_Mo_number 44 = .ok (.iconst 0, 1) := by decide +kernel
theorem d_Mo_number_45 : decode b_Mo_number 45 = .ok (.istore 4, 2) := by decide +kernel
theorem d_Mo_number_47 : decode b_Mo_number 47 = .ok (.iload 4, 2) := by decide +kernel
theorem d_Mo_number_49 : decode b_Mo_number 49 = .ok (.iload_n 1, 1) := by decide +kernel
theorem d_Mo_number_50 : decode b_Mo_number 50 = .ok (.if_icmp .ge 36, 3) := by decide +kernel
theorem d_Mo_number_53 : decode b_Mo_number 53 = .ok (.lload_n 2, 1) := by decide +kernel
theorem d_Mo_number_54 : decode b_Mo_number 54 = .ok (.bipush 8, 2) := by decide +kernel
theorem d_Mo_number_56 : decode b_Mo_number 56 = .ok (.lshl, 1) := by decide +kernel
theorem d_Mo_number_57 : decode b_Mo_number 57 = .ok (.aload_n 0, 1) := by decide +kernel
theorem d_Mo_number_58 : decode b_Mo_number 58 = .ok (.getfield 8, 3) := by decide +kernel
theorem d_Mo_number_61 : decode b_Mo_number 61 = .ok (.aload_n 0, 1) := by decide +kernel
theorem d_Mo_number_62 : decode b_Mo_number 62 = .ok (.dup, 1) := by decide +kernel
theorem d_Mo_number_63 : decode b_Mo_number 63 = .ok (.getfield 104, 3) := by decide +kernel
theorem d_Mo_number_66 : decode b_Mo_number 66 = .ok (.dup_x1, 1) := by decide +kernel
theorem d_Mo_number_67 : decode b_Mo_number 67 = .ok (.iconst 1, 1) := by decide +kernel
theorem d_Mo_number_68 : decode b_Mo_number 68 = .ok (.iadd, 1) := by decide +kernel
theorem d_Mo_number_69 : decode b_Mo_number 69 = .ok (.putfield 104, 3) := by decide +kernel
theorem d_Mo_number_72 : decode b_Mo_number 72 = .ok (.baload, 1) := by decide +kernel
theorem d_Mo_number_73 : decode b_Mo_number 73 = .ok (.sipush 255, 3) := by decide +kernel
theorem d_Mo_number_76 : decode b_Mo_number 76 = .ok (.iand, 1) := by decide +kernel
theorem d_Mo_number_77 : decode b_Mo_number 77 = .ok (.i2l, 1) := by decide +kernel
theorem d_Mo_number_78 : decode b_Mo_number 78 = .ok (.lor, 1) := by decide +kernel
theorem d_Mo_number_79 : decode b_Mo_number 79 = .ok (.lstore_n 2, 1) := by decide +kernel
theorem d_Mo_number_80 : decode b_Mo_number 80 = .ok (.iinc 4 1, 3) := by decide +kernel
theorem d_Mo_number_83 : decode b_Mo_number 83 = .ok (.goto (-36), 3) := by decide +kernel
theorem d_Mo_number_86 : decode b_Mo_number 86 = .ok (.lload_n 2, 1) := by decide +kernel
theorem d_Mo_number_87 : decode b_Mo_number 87 = .ok (.lreturn, 1) := by decide +kernel
theorem kw_29 : Cond.fieldLink R_Mo 104 "LuaMachineModel" "at" "I" ∈ wA := kinm (show _ ∈ tables_1 from (List.mem_append_right _ (List.mem_append_right _ (List.mem_append_right _ (List.mem_append_right _ (List.mem_append_right _ (List.mem_append_right _ (List.mem_append_right _ (List.mem_append_right _ (List.mem_append_right _ (List.mem_append_left _ (List.mem_of_getElem? (l := tables_1_10) (i := 83) (by decide +kernel))))))))))))) (by decide +kernel)
theorem kw_30 : Cond.fieldLink R_Mo 107 "LuaMachineModel" "last" "I" ∈ wA := kinm (show _ ∈ tables_1 from (List.mem_append_right _ (List.mem_append_right _ (List.mem_append_right _ (List.mem_append_right _ (List.mem_append_right _ (List.mem_append_right _ (List.mem_append_right _ (List.mem_append_right _ (List.mem_append_right _ (List.mem_append_left _ (List.mem_of_getElem? (l := tables_1_10) (i := 84) (by decide +kernel))))))))))))) (by decide +kernel)
theorem kw_31 : Cond.fieldLink R_Mo 8 "LuaMachineModel" "tape" "[B" ∈ wA := kinm (show _ ∈ tables_1 from (List.mem_append_right _ (List.mem_append_right _ (List.mem_append_right _ (List.mem_append_right _ (List.mem_append_right _ (List.mem_append_right _ (List.mem_append_right _ (List.mem_append_right _ (List.mem_append_right _ (List.mem_append_left _ (List.mem_of_getElem? (l := tables_1_10) (i := 54) (by decide +kernel))))))))))))) (by decide +kernel)
theorem kw_32 : Cond.methodLink R_Mo 449 y_Mo_bad ∈ wA := kinm (show _ ∈ tables_1 from (List.mem_append_right _ (List.mem_append_right _ (List.mem_append_right _ (List.mem_append_right _ (List.mem_append_right _ (List.mem_append_right _ (List.mem_append_right _ (List.mem_append_right _ (List.mem_append_right _ (List.mem_append_right _ (List.mem_append_left _ (List.mem_of_getElem? (l := tables_1_11) (i := 142) (by decide +kernel)))))))))))))) (by decide +kernel)
theorem kw_33 : Cond.instanceMethod y_Mo_number ∈ wA := kinm (show _ ∈ tables_1 from (List.mem_append_right _ (List.mem_append_right _ (List.mem_append_right _ (List.mem_append_right _ (List.mem_append_right _ (List.mem_append_right _ (List.mem_append_right _ (List.mem_append_right _ (List.mem_append_right _ (List.mem_append_right _ (List.mem_append_left _ (List.mem_of_getElem? (l := tables_1_11) (i := 148) (by decide +kernel)))))))))))))) (by decide +kernel)
theorem kw_34 : Cond.selects R_Mo y_Mo_number y_Mo_number ∈ wA := kinp 114 (by decide +kernel) (by decide +kernel)
def M_Mo_number_L47 : (Int32 × Int64 × Int32) → M ((Int32 × Int64 × Int32) ⊕ ((Int64))) := fun x =>
  oC (x.1 ≤ x.2.2)
    (oR (Sum.inr x.2.1))
    (oB (oGI 28 0) fun v63 =>
    oB (oPI 28 0 (v63 + 1)) fun _ =>
    oB (oAI 41 65536 0 v63) fun v72 =>
    oL ((x.2.1 <<< ((8 : Int32).toInt64 &&& 63)) ||| ((v72 &&& 255).toInt64)) fun l2_79 =>
    oR (Sum.inl (x.1, l2_79, x.2.2 + 1)))

def M_Mo_number (l1 : Int32) : M (Int64) :=
  oB (oGI 3 0) fun v1 =>
  oC (v1 = 0)
    (oB (oGI 28 0) fun v11 =>
    oB (oPI 29 0 v11) fun _ =>
    oB (oGI 1 0) fun v18 =>
    oB (oGI 28 0) fun v22 =>
    oC (l1 ≤ (v18 - v22))
      (oB (oW M_Mo_number_L47 (l1, 0, 0)) fun e47 =>
      oR e47)
      (oB (oGI 28 0) fun v33 =>
      oB (M_Mo_bad 1 v33) fun v36 =>
      oR 0))
    (oR 0)

theorem cv_Mo_number : CV y_Mo_number b_Mo_number 5 (some .long) 1 := ⟨kw_33, kw_34, kw_17, k_Mo_number, by decide +kernel⟩
theorem lp_Mo_number_L47 {X : Cx} {q : PL} (g : Gd X y_Mo_number b_Mo_number 5 (some .long) 1 22 R_Mo) (x : Int32 × Int64 × Int32) (s : S1) (o : ((Int32 × Int64 × Int32) ⊕ ((Int64))) × S1) (h : M_Mo_number_L47 x s = some o) (hR : (Sum.elim (fun y : Int32 × Int64 × Int32 => ∀ ls : Array Slot, lv_has ls 5 [(0, .ref (q.1 0 0)), (1, .int y.1), (2, .long y.2.1), (4, .int y.2.2)] → WW X q o.2 47 ls []) (fun y : Int64 => ∀ ls : Array Slot, lv_has ls 5 [(2, .long y)] → WW X q o.2 86 ls []) o.1)) : ∀ ls : Array Slot, lv_has ls 5 [(0, .ref (q.1 0 0)), (1, .int x.1), (2, .long x.2.1), (4, .int x.2.2)] → WW X q s 47 ls [] := by
  intro ls hl
  unfold M_Mo_number_L47 at h
  refine ww_iload (pc := 47) g.1 d_Mo_number_47 (lv_at hl 3 rfl) ?_
  refine ww_iload_n (pc := 49) g.1 d_Mo_number_49 rfl (lv_at hl 1 rfl) ?_
  refine ww_icmp_ge (pc := 50) (tgt := 86) g.1 d_Mo_number_50 (by decide) h (fun c h => ?_) (fun c h => ?_)
  · rw [oR_eq h] at hR
    exact hR ls (lv_sub hl [2] rfl)
  · refine ww_lload_n (pc := 53) g.1 d_Mo_number_53 rfl (lv_at hl 2 rfl) ?_
    refine ww_bipush (pc := 54) g.1 (v := 8) d_Mo_number_54 (by decide) ?_
    refine ww_lshl (pc := 56) g.1 (v := x.2.1 <<< ((8 : Int32).toInt64 &&& 63)) d_Mo_number_56 rfl ?_
    refine ww_aload_n (pc := 57) g.1 d_Mo_number_57 rfl (lv_at hl 0 rfl) ?_
    refine ww_gR (pc := 58) g (k := 0) cl_Mo (pz rfl (by decide)) (by decide) (Or.inl kw_31) (f := 0) (t := 41) rfl rfl rfl d_Mo_number_58 ?_
    refine ww_aload_n (pc := 61) g.1 d_Mo_number_61 rfl (lv_at hl 0 rfl) ?_
    refine ww_dup (pc := 62) g.1 d_Mo_number_62 rfl ?_
    refine ww_gI (pc := 63) g (k := 28) cl_Mo (pz rfl (by decide)) (by decide) (Or.inl kw_29) (f := 28) rfl rfl d_Mo_number_63 h fun v63 h => ?_
    refine ww_dup_x1 (pc := 66) g.1 d_Mo_number_66 rfl rfl ?_
    refine ww_iconst (pc := 67) g.1 (v := 1) d_Mo_number_67 (by decide) ?_
    refine ww_iadd (pc := 68) g.1 d_Mo_number_68 ?_
    refine ww_pI (pc := 69) g (k := 28) cl_Mo (pz rfl (by decide)) (by decide) (Or.inl kw_29) rfl (f := 28) rfl rfl rfl rfl d_Mo_number_69 h fun s hs h => ?_
    refine ww_ab (pc := 72) g (pz rfl (by decide)) rfl rfl d_Mo_number_72 h fun v72 h => ?_
    refine ww_sipush (pc := 73) g.1 (v := 255) d_Mo_number_73 (by decide) ?_
    refine ww_iand (pc := 76) g.1 d_Mo_number_76 ?_
    refine ww_i2l (pc := 77) g.1 (v := (v72 &&& 255).toInt64) d_Mo_number_77 rfl ?_
    refine ww_lor (pc := 78) g.1 d_Mo_number_78 ?_
    refine ww_letl h fun l2_79 h => ?_
    refine ww_lstore_n (pc := 79) g.1 (lv' := [(2, .long l2_79), (0, .ref (q.1 0 0)), (1, .int x.1), (4, .int x.2.2)]) d_Mo_number_79 rfl hl (by decide) rfl fun ls hl => ?_
    refine ww_iinc (pc := 80) g.1 (v := x.2.2 + 1) (lv' := [(4, .int (x.2.2 + 1)), (2, .long l2_79), (0, .ref (q.1 0 0)), (1, .int x.1)]) d_Mo_number_80 hl (k := 3) rfl (by rfl) (by decide) rfl fun ls hl => ?_
    refine ww_goto (pc := 83) (tgt := 47) g.1 d_Mo_number_83 (by decide) ?_
    rw [oR_eq h] at hR
    exact hR ls (lv_sub hl [2, 3, 1, 0] rfl)

theorem ct_Mo_number {l : Launch} {P : PP} {q : PL} {s s' : S1} {l1 : Int32} {r : Int64} (h : M_Mo_number l1 s = some (r, s')) : Ct l y_Mo_number b_Mo_number 5 (some .long) 1 22 P q s [.ref (q.1 0 0), .int l1] (some (.long r)) q s' := by
  refine ct_of (by decide) (Nat.le_of_ble_eq_true rfl) fun X ls eP el g hR hl => ?_
  have hR : Rt X q ((r, s') : Int64 × S1).2 (some (.long ((r, s') : Int64 × S1).1)) := hR
  have hl : lv_has ls 5 [(0, .ref (q.1 0 0)), (1, .int l1)] := hl
  generalize (r, s') = o at h hR
  unfold M_Mo_number at h
  refine ww_aload_n (pc := 0) g.1 d_Mo_number_0 rfl (lv_at hl 0 rfl) ?_
  refine ww_gI (pc := 1) g (k := 3) cl_Mo (pz rfl (by decide)) (by decide) (Or.inl kw_25) (f := 3) rfl rfl d_Mo_number_1 h fun v1 h => ?_
  refine ww_if_eq (pc := 4) (tgt := 9) g.1 d_Mo_number_4 (by decide) h (fun c h => ?_) (fun c h => ?_)
  · refine ww_aload_n (pc := 9) g.1 d_Mo_number_9 rfl (lv_at hl 0 rfl) ?_
    refine ww_aload_n (pc := 10) g.1 d_Mo_number_10 rfl (lv_at hl 0 rfl) ?_
    refine ww_gI (pc := 11) g (k := 28) cl_Mo (pz rfl (by decide)) (by decide) (Or.inl kw_29) (f := 28) rfl rfl d_Mo_number_11 h fun v11 h => ?_
    refine ww_pI (pc := 14) g (k := 29) cl_Mo (pz rfl (by decide)) (by decide) (Or.inl kw_30) rfl (f := 29) rfl rfl rfl rfl d_Mo_number_14 h fun s hs h => ?_
    refine ww_aload_n (pc := 17) g.1 d_Mo_number_17 rfl (lv_at hl 0 rfl) ?_
    refine ww_gI (pc := 18) g (k := 1) cl_Mo (pz rfl (by decide)) (by decide) (Or.inl kw_22) (f := 1) rfl rfl d_Mo_number_18 h fun v18 h => ?_
    refine ww_aload_n (pc := 21) g.1 d_Mo_number_21 rfl (lv_at hl 0 rfl) ?_
    refine ww_gI (pc := 22) g (k := 28) cl_Mo (pz rfl (by decide)) (by decide) (Or.inl kw_29) (f := 28) rfl rfl d_Mo_number_22 h fun v22 h => ?_
    refine ww_isub (pc := 25) g.1 d_Mo_number_25 ?_
    refine ww_iload_n (pc := 26) g.1 d_Mo_number_26 rfl (lv_at hl 1 rfl) ?_
    refine ww_icmp_ge (pc := 27) (tgt := 42) g.1 d_Mo_number_27 (by decide) h (fun c h => ?_) (fun c h => ?_)
    · refine ww_lconst (pc := 42) g.1 (v := 0) d_Mo_number_42 (by decide) ?_
      refine ww_lstore_n (pc := 43) g.1 (lv' := [(2, .long 0), (0, .ref (q.1 0 0)), (1, .int l1)]) d_Mo_number_43 rfl hl (by decide) rfl fun ls hl => ?_
      refine ww_iconst (pc := 44) g.1 (v := 0) d_Mo_number_44 (by decide) ?_
      refine ww_istore (pc := 45) g.1 (lv' := [(4, .int 0), (2, .long 0), (0, .ref (q.1 0 0)), (1, .int l1)]) d_Mo_number_45 hl (by decide) rfl fun ls hl => ?_
      obtain ⟨e47, s1, hw, h⟩ := oB_of h
      refine oW_rule (Wh := fun (x : Int32 × Int64 × Int32) (s : S1) => ∀ ls : Array Slot, lv_has ls 5 [(0, .ref (q.1 0 0)), (1, .int x.1), (2, .long x.2.1), (4, .int x.2.2)] → WW X q s 47 ls []) (We := fun (e : (Int64)) (s : S1) => ∀ ls : Array Slot, lv_has ls 5 [(2, .long e)] → WW X q s 86 ls []) (fun x s o hb hc => lp_Mo_number_L47 (q := q) g x s o hb hc) hw ?_ ls (lv_sub hl [2, 3, 1, 0] rfl)
      clear hw hl
      clear ls
      intro ls hl
      generalize s1 = s at h ⊢
      refine ww_lload_n (pc := 86) g.1 d_Mo_number_86 rfl (lv_at hl 0 rfl) ?_
      exact ww_lretH (pc := 87) g h hR d_Mo_number_87
    · refine ww_aload_n (pc := 30) g.1 d_Mo_number_30 rfl (lv_at hl 0 rfl) ?_
      refine ww_iconst (pc := 31) g.1 (v := 1) d_Mo_number_31 (by decide) ?_
      refine ww_aload_n (pc := 32) g.1 d_Mo_number_32 rfl (lv_at hl 0 rfl) ?_
      refine ww_gI (pc := 33) g (k := 28) cl_Mo (pz rfl (by decide)) (by decide) (Or.inl kw_29) (f := 28) rfl rfl d_Mo_number_33 h fun v33 h => ?_
      obtain ⟨v36, s, hc36, h⟩ := oB_of h
      refine ww_callV (pc := 36) (rest := []) g cv_Mo_bad (Or.inl kw_32) cl_Mo (pz rfl (by decide)) (ct_Mo_bad hc36) ⟨by decide, by decide⟩ rfl hl.1 (Nat.le_of_ble_eq_true rfl) d_Mo_number_36 rfl ?_
      refine ww_st (st' := [.int v36]) rfl ?_
      refine ww_pop (pc := 39) g.1 d_Mo_number_39 rfl ?_
      refine ww_lconst (pc := 40) g.1 (v := 0) d_Mo_number_40 (by decide) ?_
      exact ww_lretH (pc := 41) g h hR d_Mo_number_41
  · refine ww_lconst (pc := 7) g.1 (v := 0) d_Mo_number_7 (by decide) ?_
    exact ww_lretH (pc := 8) g h hR d_Mo_number_8

abbrev b_Mo_need : ByteArray := prog_14_method_8_code
def y_Mo_need : MethodName := ⟨R_Mo, "need", "(Z)V"⟩
abbrev w_Mo_need : List Cond := .code y_Mo_need b_Mo_need 2 none :: wA
theorem k_Mo_need : Cond.code y_Mo_need b_Mo_need 2 none ∈ wA := kinm (show _ ∈ tables_1 from (List.mem_append_right _ (List.mem_append_right _ (List.mem_append_right _ (List.mem_append_right _ (List.mem_append_right _ (List.mem_append_right _ (List.mem_append_right _ (List.mem_append_right _ (List.mem_append_right _ (List.mem_append_right _ (List.mem_append_left _ (List.mem_of_getElem? (l := tables_1_11) (i := 153) (by decide +kernel)))))))))))))) (by decide +kernel)
theorem d_Mo_need_0 : decode b_Mo_need 0 = .ok (.iload_n 1, 1) := by decide +kernel
theorem d_Mo_need_1 : decode b_Mo_need 1 = .ok (.ifCond .ne 13, 3) := by decide +kernel
theorem d_Mo_need_4 : decode b_Mo_need 4 = .ok (.aload_n 0, 1) := by decide +kernel
theorem d_Mo_need_5 : decode b_Mo_need 5 = .ok (.iconst 2, 1) := by decide +kernel
theorem d_Mo_need_6 : decode b_Mo_need 6 = .ok (.aload_n 0, 1) := by decide +kernel
theorem d_Mo_need_7 : decode b_Mo_need 7 = .ok (.getfield 107, 3) := by decide +kernel
theorem d_Mo_need_10 : decode b_Mo_need 10 = .ok (.invokevirtual 449, 3) := by decide +kernel
theorem d_Mo_need_13 : decode b_Mo_need 13 = .ok (.pop, 1) := by decide +kernel
theorem d_Mo_need_14 : decode b_Mo_need 14 = .ok (.return_, 1) := by decide +kernel
theorem kw_35 : Cond.instanceMethod y_Mo_need ∈ wA := kinm (show _ ∈ tables_1 from (List.mem_append_right _ (List.mem_append_right _ (List.mem_append_right _ (List.mem_append_right _ (List.mem_append_right _ (List.mem_append_right _ (List.mem_append_right _ (List.mem_append_right _ (List.mem_append_right _ (List.mem_append_right _ (List.mem_append_left _ (List.mem_of_getElem? (l := tables_1_11) (i := 152) (by decide +kernel)))))))))))))) (by decide +kernel)
theorem kw_36 : Cond.selects R_Mo y_Mo_need y_Mo_need ∈ wA := kinp 115 (by decide +kernel) (by decide +kernel)
def M_Mo_need (l1 : Int32) : M (Unit) :=
  oC (l1 = 0)
    (oB (oGI 29 0) fun v7 =>
    oB (M_Mo_bad 2 v7) fun v10 =>
    oR ())
    (oR ())

theorem cv_Mo_need : CV y_Mo_need b_Mo_need 2 none 1 := ⟨kw_35, kw_36, kw_17, k_Mo_need, by decide +kernel⟩
theorem ct_Mo_need {l : Launch} {P : PP} {q : PL} {s s' : S1} {l1 : Int32} {r : Unit} (h : M_Mo_need l1 s = some (r, s')) : Ct l y_Mo_need b_Mo_need 2 none 1 22 P q s [.ref (q.1 0 0), .int l1] none q s' := by
  refine ct_of (by decide) (Nat.le_of_ble_eq_true rfl) fun X ls eP el g hR hl => ?_
  have hR : Rt X q ((r, s') : Unit × S1).2 none := hR
  have hl : lv_has ls 2 [(0, .ref (q.1 0 0)), (1, .int l1)] := hl
  generalize (r, s') = o at h hR
  unfold M_Mo_need at h
  refine ww_iload_n (pc := 0) g.1 d_Mo_need_0 rfl (lv_at hl 1 rfl) ?_
  refine ww_if_ne (pc := 1) (tgt := 14) g.1 d_Mo_need_1 (by decide) h (fun c h => ?_) (fun c h => ?_)
  · exact ww_vretH (pc := 14) g h hR d_Mo_need_14
  · refine ww_aload_n (pc := 4) g.1 d_Mo_need_4 rfl (lv_at hl 0 rfl) ?_
    refine ww_iconst (pc := 5) g.1 (v := 2) d_Mo_need_5 (by decide) ?_
    refine ww_aload_n (pc := 6) g.1 d_Mo_need_6 rfl (lv_at hl 0 rfl) ?_
    refine ww_gI (pc := 7) g (k := 29) cl_Mo (pz rfl (by decide)) (by decide) (Or.inl kw_30) (f := 29) rfl rfl d_Mo_need_7 h fun v7 h => ?_
    obtain ⟨v10, s, hc10, h⟩ := oB_of h
    refine ww_callV (pc := 10) (rest := []) g cv_Mo_bad (Or.inl kw_32) cl_Mo (pz rfl (by decide)) (ct_Mo_bad hc10) ⟨by decide, by decide⟩ rfl hl.1 (Nat.le_of_ble_eq_true rfl) d_Mo_need_10 rfl ?_
    refine ww_st (st' := [.int v10]) rfl ?_
    refine ww_pop (pc := 13) g.1 d_Mo_need_13 rfl ?_
    exact ww_vretH (pc := 14) g h hR d_Mo_need_14

abbrev b_Mo_upvalue : ByteArray := prog_14_method_10_code
def y_Mo_upvalue : MethodName := ⟨R_Mo, "upvalue", "(I)V"⟩
abbrev w_Mo_upvalue : List Cond := .code y_Mo_upvalue b_Mo_upvalue 4 none :: wA
theorem k_Mo_upvalue : Cond.code y_Mo_upvalue b_Mo_upvalue 4 none ∈ wA := kinm (show _ ∈ tables_1 from (List.mem_append_right _ (List.mem_append_right _ (List.mem_append_right _ (List.mem_append_right _ (List.mem_append_right _ (List.mem_append_right _ (List.mem_append_right _ (List.mem_append_right _ (List.mem_append_right _ (List.mem_append_right _ (List.mem_append_left _ (List.mem_of_getElem? (l := tables_1_11) (i := 157) (by decide +kernel)))))))))))))) (by decide +kernel)
theorem d_Mo_upvalue_0 : decode b_Mo_upvalue 0 = .ok (.aload_n 0, 1) := by decide +kernel
theorem d_Mo_upvalue_1 : decode b_Mo_upvalue 1 = .ok (.iconst 1, 1) := by decide +kernel
theorem d_Mo_upvalue_2 : decode b_Mo_upvalue 2 = .ok (.invokevirtual 453, 3) := by decide +kernel
theorem d_Mo_upvalue_5 : decode b_Mo_upvalue 5 = .ok (.l2i, 1) := by decide +kernel
theorem d_Mo_upvalue_6 : decode b_Mo_upvalue 6 = .ok (.istore_n 2, 1) := by decide +kernel
theorem d_Mo_upvalue_7 : decode b_Mo_upvalue 7 = .ok (.iload_n 1, 1) := by decide +kernel
theorem d_Mo_upvalue_8 : decode b_Mo_upvalue 8 = .ok (.ifCond .lt 17, 3) := by decide +kernel
theorem d_Mo_upvalue_11 : decode b_Mo_upvalue 11 = .ok (.aload_n 0, 1) := by decide +kernel
theorem d_Mo_upvalue_12 : decode b_Mo_upvalue 12 = .ok (.iload_n 2, 1) := by decide +kernel
theorem d_Mo_upvalue_13 : decode b_Mo_upvalue 13 = .ok (.iconst 2, 1) := by decide +kernel
theorem d_Mo_upvalue_14 : decode b_Mo_upvalue 14 = .ok (.if_icmp .ge 7, 3) := by decide +kernel
theorem d_Mo_upvalue_17 : decode b_Mo_upvalue 17 = .ok (.iconst 1, 1) := by decide +kernel
theorem d_Mo_upvalue_18 : decode b_Mo_upvalue 18 = .ok (.goto 4, 3) := by decide +kernel
theorem d_Mo_upvalue_21 : decode b_Mo_upvalue 21 = .ok (.iconst 0, 1) := by decide +kernel
theorem d_Mo_upvalue_22 : decode b_Mo_upvalue 22 = .ok (.invokevirtual 456, 3) := by decide +kernel
theorem d_Mo_upvalue_25 : decode b_Mo_upvalue 25 = .ok (.aload_n 0, 1) := by decide +kernel
theorem d_Mo_upvalue_26 : decode b_Mo_upvalue 26 = .ok (.iconst 1, 1) := by decide +kernel
theorem d_Mo_upvalue_27 : decode b_Mo_upvalue 27 = .ok (.invokevirtual 453, 3) := by decide +kernel
theorem d_Mo_upvalue_30 : decode b_Mo_upvalue 30 = .ok (.l2i, 1) := by decide +kernel
theorem d_Mo_upvalue_31 : decode b_Mo_upvalue 31 = .ok (.istore_n 3, 1) := by decide +kernel
theorem d_Mo_upvalue_32 : decode b_Mo_upvalue 32 = .ok (.iload_n 1, 1) := by decide +kernel
theorem d_Mo_upvalue_33 : decode b_Mo_upvalue 33 = .ok (.ifCond .lt 43, 3) := by decide +kernel
theorem d_Mo_upvalue_36 : decode b_Mo_upvalue 36 = .ok (.aload_n 0, 1) := by decide +kernel
theorem d_Mo_upvalue_37 : decode b_Mo_upvalue 37 = .ok (.getfield 21, 3) := by decide +kernel
theorem d_Mo_upvalue_40 : decode b_Mo_upvalue 40 = .ok (.ifCond .ne 36, 3) := by decide +kernel
theorem d_Mo_upvalue_43 : decode b_Mo_upvalue 43 = .ok (.aload_n 0, 1) := by decide +kernel
theorem d_Mo_upvalue_44 : decode b_Mo_upvalue 44 = .ok (.iload_n 3, 1) := by decide +kernel
theorem d_Mo_upvalue_45 : decode b_Mo_upvalue 45 = .ok (.iload_n 2, 1) := by decide +kernel
theorem d_Mo_upvalue_46 : decode b_Mo_upvalue 46 = .ok (.iconst 1, 1) := by decide +kernel
theorem d_Mo_upvalue_47 : decode b_Mo_upvalue 47 = .ok (.if_icmp .ne 12, 3) := by decide +kernel
theorem d_Mo_upvalue_50 : decode b_Mo_upvalue 50 = .ok (.aload_n 0, 1) := by decide +kernel
theorem d_Mo_upvalue_51 : decode b_Mo_upvalue 51 = .ok (.getfield 38, 3) := by decide +kernel
theorem d_Mo_upvalue_54 : decode b_Mo_upvalue 54 = .ok (.iload_n 1, 1) := by decide +kernel
theorem d_Mo_upvalue_55 : decode b_Mo_upvalue 55 = .ok (.iaload, 1) := by decide +kernel
theorem d_Mo_upvalue_56 : decode b_Mo_upvalue 56 = .ok (.goto 9, 3) := by decide +kernel
theorem d_Mo_upvalue_59 : decode b_Mo_upvalue 59 = .ok (.aload_n 0, 1) := by decide +kernel
theorem d_Mo_upvalue_60 : decode b_Mo_upvalue 60 = .ok (.getfield 41, 3) := by decide +kernel
theorem d_Mo_upvalue_63 : decode b_Mo_upvalue 63 = .ok (.iload_n 1, 1) := by decide +kernel
theorem d_Mo_upvalue_64 : decode b_Mo_upvalue 64 = .ok (.iaload, 1) := by decide +kernel
theorem d_Mo_upvalue_65 : decode b_Mo_upvalue 65 = .ok (.if_icmp .ge 7, 3) := by decide +kernel
theorem d_Mo_upvalue_68 : decode b_Mo_upvalue 68 = .ok (.iconst 1, 1) := by decide +kernel
theorem d_Mo_upvalue_69 : decode b_Mo_upvalue 69 = .ok (.goto 4, 3) := by decide +kernel
theorem d_Mo_upvalue_72 : decode b_Mo_upvalue 72 = .ok (.iconst 0, 1) := by decide +kernel
theorem d_Mo_upvalue_73 : decode b_Mo_upvalue 73 = .ok (.invokevirtual 456, 3) := by decide +kernel
theorem d_Mo_upvalue_76 : decode b_Mo_upvalue 76 = .ok (.aload_n 0, 1) := by decide +kernel
theorem d_Mo_upvalue_77 : decode b_Mo_upvalue 77 = .ok (.getfield 21, 3) := by decide +kernel
theorem d_Mo_upvalue_80 : decode b_Mo_upvalue 80 = .ok (.ifCond .eq 4, 3) := by decide +kernel
theorem d_Mo_upvalue_83 : decode b_Mo_upvalue 83 = .ok (.return_, 1) := by decide +kernel
theorem d_Mo_upvalue_84 : decode b_Mo_upvalue 84 = .ok (.aload_n 0, 1) := by decide +kernel
theorem d_Mo_upvalue_85 : decode b_Mo_upvalue 85 = .ok (.getfield 65, 3) := by decide +kernel
theorem d_Mo_upvalue_88 : decode b_Mo_upvalue 88 = .ok (.aload_n 0, 1) := by decide +kernel
theorem d_Mo_upvalue_89 : decode b_Mo_upvalue 89 = .ok (.dup, 1) := by decide +kernel
theorem d_Mo_upvalue_90 : decode b_Mo_upvalue 90 = .ok (.getfield 92, 3) := by decide +kernel
theorem d_Mo_upvalue_93 : decode b_Mo_upvalue 93 = .ok (.dup_x1, 1) := by decide +kernel
theorem d_Mo_upvalue_94 : decode b_Mo_upvalue 94 = .ok (.iconst 1, 1) := by decide +kernel
theorem d_Mo_upvalue_95 : decode b_Mo_upvalue 95 = .ok (.iadd, 1) := by decide +kernel
theorem d_Mo_upvalue_96 : decode b_Mo_upvalue 96 = .ok (.putfield 92, 3) := by decide +kernel
theorem d_Mo_upvalue_99 : decode b_Mo_upvalue 99 = .ok (.sipush 256, 3) := by decide +kernel
theorem d_Mo_upvalue_102 : decode b_Mo_upvalue 102 = .ok (.iload_n 2, 1) := by decide +kernel
theorem d_Mo_upvalue_103 : decode b_Mo_upvalue 103 = .ok (.imul, 1) := by decide +kernel
theorem d_Mo_upvalue_104 : decode b_Mo_upvalue 104 = .ok (.iload_n 3, 1) := by decide +kernel
theorem d_Mo_upvalue_105 : decode b_Mo_upvalue 105 = .ok (.iadd, 1) := by decide +kernel
theorem d_Mo_upvalue_106 : decode b_Mo_upvalue 106 = .ok (.iastore, 1) := by decide +kernel
theorem d_Mo_upvalue_107 : decode b_Mo_upvalue 107 = .ok (.return_, 1) := by decide +kernel
theorem kw_37 : Cond.methodLink R_Mo 453 y_Mo_number ∈ wA := kinm (show _ ∈ tables_1 from (List.mem_append_right _ (List.mem_append_right _ (List.mem_append_right _ (List.mem_append_right _ (List.mem_append_right _ (List.mem_append_right _ (List.mem_append_right _ (List.mem_append_right _ (List.mem_append_right _ (List.mem_append_right _ (List.mem_append_left _ (List.mem_of_getElem? (l := tables_1_11) (i := 146) (by decide +kernel)))))))))))))) (by decide +kernel)
theorem kw_38 : Cond.fieldLink R_Mo 65 "LuaMachineModel" "ups" "[I" ∈ wA := kinm (show _ ∈ tables_1 from (List.mem_append_right _ (List.mem_append_right _ (List.mem_append_right _ (List.mem_append_right _ (List.mem_append_right _ (List.mem_append_right _ (List.mem_append_right _ (List.mem_append_right _ (List.mem_append_right _ (List.mem_append_left _ (List.mem_of_getElem? (l := tables_1_10) (i := 72) (by decide +kernel))))))))))))) (by decide +kernel)
theorem kw_39 : Cond.fieldLink R_Mo 92 "LuaMachineModel" "upCount" "I" ∈ wA := kinm (show _ ∈ tables_1 from (List.mem_append_right _ (List.mem_append_right _ (List.mem_append_right _ (List.mem_append_right _ (List.mem_append_right _ (List.mem_append_right _ (List.mem_append_right _ (List.mem_append_right _ (List.mem_append_right _ (List.mem_append_left _ (List.mem_of_getElem? (l := tables_1_10) (i := 79) (by decide +kernel))))))))))))) (by decide +kernel)
theorem kw_40 : Cond.fieldLink R_Mo 41 "LuaMachineModel" "upvalues" "[I" ∈ wA := kinm (show _ ∈ tables_1 from (List.mem_append_right _ (List.mem_append_right _ (List.mem_append_right _ (List.mem_append_right _ (List.mem_append_right _ (List.mem_append_right _ (List.mem_append_right _ (List.mem_append_right _ (List.mem_append_right _ (List.mem_append_left _ (List.mem_of_getElem? (l := tables_1_10) (i := 64) (by decide +kernel))))))))))))) (by decide +kernel)
theorem kw_41 : Cond.methodLink R_Mo 456 y_Mo_need ∈ wA := kinm (show _ ∈ tables_1 from (List.mem_append_right _ (List.mem_append_right _ (List.mem_append_right _ (List.mem_append_right _ (List.mem_append_right _ (List.mem_append_right _ (List.mem_append_right _ (List.mem_append_right _ (List.mem_append_right _ (List.mem_append_right _ (List.mem_append_left _ (List.mem_of_getElem? (l := tables_1_11) (i := 150) (by decide +kernel)))))))))))))) (by decide +kernel)
theorem kw_42 : Cond.fieldLink R_Mo 38 "LuaMachineModel" "registers" "[I" ∈ wA := kinm (show _ ∈ tables_1 from (List.mem_append_right _ (List.mem_append_right _ (List.mem_append_right _ (List.mem_append_right _ (List.mem_append_right _ (List.mem_append_right _ (List.mem_append_right _ (List.mem_append_right _ (List.mem_append_right _ (List.mem_append_left _ (List.mem_of_getElem? (l := tables_1_10) (i := 62) (by decide +kernel))))))))))))) (by decide +kernel)
theorem kw_43 : Cond.instanceMethod y_Mo_upvalue ∈ wA := kinm (show _ ∈ tables_1 from (List.mem_append_right _ (List.mem_append_right _ (List.mem_append_right _ (List.mem_append_right _ (List.mem_append_right _ (List.mem_append_right _ (List.mem_append_right _ (List.mem_append_right _ (List.mem_append_right _ (List.mem_append_right _ (List.mem_append_left _ (List.mem_of_getElem? (l := tables_1_11) (i := 156) (by decide +kernel)))))))))))))) (by decide +kernel)
theorem kw_44 : Cond.selects R_Mo y_Mo_upvalue y_Mo_upvalue ∈ wA := kinp 116 (by decide +kernel) (by decide +kernel)
def M_Mo_upvalue_j76 (l2 : Int32) (l3 : Int32) : M (Unit) :=
  oB (oGI 3 0) fun v77 =>
  oC (v77 = 0)
    (oB (oGI 24 0) fun v90 =>
    oB (oPI 24 0 (v90 + 1)) fun _ =>
    oB (oSI 53 30200 0 v90 ((256 * l2) + l3)) fun _ =>
    oR ())
    (oR ())

def M_Mo_upvalue_j73 (l2 : Int32) (l3 : Int32) (k0 : Int32) : M (Unit) :=
  oB (M_Mo_need k0) fun _ =>
  M_Mo_upvalue_j76 l2 l3

def M_Mo_upvalue_j65 (l2 : Int32) (l3 : Int32) (k0 : Int32) (k1 : Int32) : M (Unit) :=
  oC (k0 ≤ k1)
    (M_Mo_upvalue_j73 l2 l3 0)
    (M_Mo_upvalue_j73 l2 l3 1)

def M_Mo_upvalue_j25 (l1 : Int32) (l2 : Int32) : M (Unit) :=
  oB (M_Mo_number 1) fun v27 =>
  oC (l1 < 0)
    (M_Mo_upvalue_j76 l2 v27.toInt32)
    (oB (oGI 3 0) fun v37 =>
    oC (v37 = 0)
      (oC (l2 = 1)
        (oB (oAI 44 251 0 l1) fun v55 =>
        M_Mo_upvalue_j65 l2 v27.toInt32 v55 v27.toInt32)
        (oB (oAI 45 251 0 l1) fun v64 =>
        M_Mo_upvalue_j65 l2 v27.toInt32 v64 v27.toInt32))
      (M_Mo_upvalue_j76 l2 v27.toInt32))

def M_Mo_upvalue_j22 (l1 : Int32) (l2 : Int32) (k0 : Int32) : M (Unit) :=
  oB (M_Mo_need k0) fun _ =>
  M_Mo_upvalue_j25 l1 l2

def M_Mo_upvalue (l1 : Int32) : M (Unit) :=
  oB (M_Mo_number 1) fun v2 =>
  oC (l1 < 0)
    (M_Mo_upvalue_j25 l1 v2.toInt32)
    (oC (2 ≤ v2.toInt32)
      (M_Mo_upvalue_j22 l1 v2.toInt32 0)
      (M_Mo_upvalue_j22 l1 v2.toInt32 1))

theorem cv_Mo_upvalue : CV y_Mo_upvalue b_Mo_upvalue 4 none 1 := ⟨kw_43, kw_44, kw_17, k_Mo_upvalue, by decide +kernel⟩
theorem j_Mo_upvalue_j76 {X : Cx} {q : PL} (g : Gd X y_Mo_upvalue b_Mo_upvalue 4 none 2 46 R_Mo) {o : (Unit) × S1} (hR : Rt X q o.2 none) (l2 : Int32) (l3 : Int32) (s : S1) (ls : Array Slot) (hl : lv_has ls 4 [(0, .ref (q.1 0 0)), (2, .int l2), (3, .int l3)]) (h : M_Mo_upvalue_j76 l2 l3 s = some o) : WW X q s 76 ls [] := by
  unfold M_Mo_upvalue_j76 at h
  refine ww_aload_n (pc := 76) g.1 d_Mo_upvalue_76 rfl (lv_at hl 0 rfl) ?_
  refine ww_gI (pc := 77) g (k := 3) cl_Mo (pz rfl (by decide)) (by decide) (Or.inl kw_25) (f := 3) rfl rfl d_Mo_upvalue_77 h fun v77 h => ?_
  refine ww_if_eq (pc := 80) (tgt := 84) g.1 d_Mo_upvalue_80 (by decide) h (fun c h => ?_) (fun c h => ?_)
  · refine ww_aload_n (pc := 84) g.1 d_Mo_upvalue_84 rfl (lv_at hl 0 rfl) ?_
    refine ww_gR (pc := 85) g (k := 17) cl_Mo (pz rfl (by decide)) (by decide) (Or.inl kw_38) (f := 17) (t := 53) rfl rfl rfl d_Mo_upvalue_85 ?_
    refine ww_aload_n (pc := 88) g.1 d_Mo_upvalue_88 rfl (lv_at hl 0 rfl) ?_
    refine ww_dup (pc := 89) g.1 d_Mo_upvalue_89 rfl ?_
    refine ww_gI (pc := 90) g (k := 24) cl_Mo (pz rfl (by decide)) (by decide) (Or.inl kw_39) (f := 24) rfl rfl d_Mo_upvalue_90 h fun v90 h => ?_
    refine ww_dup_x1 (pc := 93) g.1 d_Mo_upvalue_93 rfl rfl ?_
    refine ww_iconst (pc := 94) g.1 (v := 1) d_Mo_upvalue_94 (by decide) ?_
    refine ww_iadd (pc := 95) g.1 d_Mo_upvalue_95 ?_
    refine ww_pI (pc := 96) g (k := 24) cl_Mo (pz rfl (by decide)) (by decide) (Or.inl kw_39) rfl (f := 24) rfl rfl rfl rfl d_Mo_upvalue_96 h fun s hs h => ?_
    refine ww_sipush (pc := 99) g.1 (v := 256) d_Mo_upvalue_99 (by decide) ?_
    refine ww_iload_n (pc := 102) g.1 d_Mo_upvalue_102 rfl (lv_at hl 1 rfl) ?_
    refine ww_imul (pc := 103) g.1 d_Mo_upvalue_103 ?_
    refine ww_iload_n (pc := 104) g.1 d_Mo_upvalue_104 rfl (lv_at hl 2 rfl) ?_
    refine ww_iadd (pc := 105) g.1 d_Mo_upvalue_105 ?_
    refine ww_si (pc := 106) g (pz rfl (by decide)) rfl rfl d_Mo_upvalue_106 h fun s hs h => ?_
    exact ww_vretH (pc := 107) g h hR d_Mo_upvalue_107
  · exact ww_vretH (pc := 83) g h hR d_Mo_upvalue_83

theorem j_Mo_upvalue_j73 {X : Cx} {q : PL} (g : Gd X y_Mo_upvalue b_Mo_upvalue 4 none 2 46 R_Mo) {o : (Unit) × S1} (hR : Rt X q o.2 none) (l2 : Int32) (l3 : Int32) (k0 : Int32) (s : S1) (ls : Array Slot) (hl : lv_has ls 4 [(0, .ref (q.1 0 0)), (2, .int l2), (3, .int l3)]) (h : M_Mo_upvalue_j73 l2 l3 k0 s = some o) : WW X q s 73 ls [.int k0, .ref (q.1 0 0)] := by
  unfold M_Mo_upvalue_j73 at h
  obtain ⟨v73, s, hc73, h⟩ := oB_of h
  refine ww_callV (pc := 73) (rest := []) g cv_Mo_need (Or.inl kw_41) cl_Mo (pz rfl (by decide)) (ct_Mo_need hc73) ⟨by decide, by decide⟩ rfl hl.1 (Nat.le_of_ble_eq_true rfl) d_Mo_upvalue_73 rfl ?_
  refine ww_st (st' := []) rfl ?_
  exact j_Mo_upvalue_j76 g hR l2 l3 s ls (lv_sub hl [0, 1, 2] rfl) h

theorem j_Mo_upvalue_j65 {X : Cx} {q : PL} (g : Gd X y_Mo_upvalue b_Mo_upvalue 4 none 2 46 R_Mo) {o : (Unit) × S1} (hR : Rt X q o.2 none) (l2 : Int32) (l3 : Int32) (k0 : Int32) (k1 : Int32) (s : S1) (ls : Array Slot) (hl : lv_has ls 4 [(0, .ref (q.1 0 0)), (2, .int l2), (3, .int l3)]) (h : M_Mo_upvalue_j65 l2 l3 k0 k1 s = some o) : WW X q s 65 ls [.int k0, .int k1, .ref (q.1 0 0)] := by
  unfold M_Mo_upvalue_j65 at h
  refine ww_icmp_ge (pc := 65) (tgt := 72) g.1 d_Mo_upvalue_65 (by decide) h (fun c h => ?_) (fun c h => ?_)
  · refine ww_iconst (pc := 72) g.1 (v := 0) d_Mo_upvalue_72 (by decide) ?_
    exact j_Mo_upvalue_j73 g hR l2 l3 0 s ls (lv_sub hl [0, 1, 2] rfl) h
  · refine ww_iconst (pc := 68) g.1 (v := 1) d_Mo_upvalue_68 (by decide) ?_
    refine ww_goto (pc := 69) (tgt := 73) g.1 d_Mo_upvalue_69 (by decide) ?_
    exact j_Mo_upvalue_j73 g hR l2 l3 1 s ls (lv_sub hl [0, 1, 2] rfl) h

theorem j_Mo_upvalue_j25 {X : Cx} {q : PL} (g : Gd X y_Mo_upvalue b_Mo_upvalue 4 none 2 46 R_Mo) {o : (Unit) × S1} (hR : Rt X q o.2 none) (l1 : Int32) (l2 : Int32) (s : S1) (ls : Array Slot) (hl : lv_has ls 4 [(0, .ref (q.1 0 0)), (1, .int l1), (2, .int l2)]) (h : M_Mo_upvalue_j25 l1 l2 s = some o) : WW X q s 25 ls [] := by
  unfold M_Mo_upvalue_j25 at h
  refine ww_aload_n (pc := 25) g.1 d_Mo_upvalue_25 rfl (lv_at hl 0 rfl) ?_
  refine ww_iconst (pc := 26) g.1 (v := 1) d_Mo_upvalue_26 (by decide) ?_
  obtain ⟨v27, s, hc27, h⟩ := oB_of h
  refine ww_callV (pc := 27) (rest := []) g cv_Mo_number (Or.inl kw_37) cl_Mo (pz rfl (by decide)) (ct_Mo_number hc27) ⟨by decide, by decide⟩ rfl hl.1 (Nat.le_of_ble_eq_true rfl) d_Mo_upvalue_27 rfl ?_
  refine ww_st (st' := [.long v27]) rfl ?_
  refine ww_l2i (pc := 30) g.1 (v := v27.toInt32) d_Mo_upvalue_30 rfl ?_
  refine ww_istore_n (pc := 31) g.1 (lv' := [(3, .int v27.toInt32), (0, .ref (q.1 0 0)), (1, .int l1), (2, .int l2)]) d_Mo_upvalue_31 rfl hl (by decide) rfl fun ls hl => ?_
  refine ww_iload_n (pc := 32) g.1 d_Mo_upvalue_32 rfl (lv_at hl 2 rfl) ?_
  refine ww_if_lt (pc := 33) (tgt := 76) g.1 d_Mo_upvalue_33 (by decide) h (fun c h => ?_) (fun c h => ?_)
  · exact j_Mo_upvalue_j76 g hR l2 v27.toInt32 s ls (lv_sub hl [1, 3, 0] rfl) h
  · refine ww_aload_n (pc := 36) g.1 d_Mo_upvalue_36 rfl (lv_at hl 1 rfl) ?_
    refine ww_gI (pc := 37) g (k := 3) cl_Mo (pz rfl (by decide)) (by decide) (Or.inl kw_25) (f := 3) rfl rfl d_Mo_upvalue_37 h fun v37 h => ?_
    refine ww_if_ne (pc := 40) (tgt := 76) g.1 d_Mo_upvalue_40 (by decide) h (fun c h => ?_) (fun c h => ?_)
    · exact j_Mo_upvalue_j76 g hR l2 v27.toInt32 s ls (lv_sub hl [1, 3, 0] rfl) h
    · refine ww_aload_n (pc := 43) g.1 d_Mo_upvalue_43 rfl (lv_at hl 1 rfl) ?_
      refine ww_iload_n (pc := 44) g.1 d_Mo_upvalue_44 rfl (lv_at hl 0 rfl) ?_
      refine ww_iload_n (pc := 45) g.1 d_Mo_upvalue_45 rfl (lv_at hl 3 rfl) ?_
      refine ww_iconst (pc := 46) g.1 (v := 1) d_Mo_upvalue_46 (by decide) ?_
      refine ww_icmp_ne (pc := 47) (tgt := 59) g.1 d_Mo_upvalue_47 (by decide) h (fun c h => ?_) (fun c h => ?_)
      · refine ww_aload_n (pc := 59) g.1 d_Mo_upvalue_59 rfl (lv_at hl 1 rfl) ?_
        refine ww_gR (pc := 60) g (k := 9) cl_Mo (pz rfl (by decide)) (by decide) (Or.inl kw_40) (f := 9) (t := 45) rfl rfl rfl d_Mo_upvalue_60 ?_
        refine ww_iload_n (pc := 63) g.1 d_Mo_upvalue_63 rfl (lv_at hl 2 rfl) ?_
        refine ww_ai (pc := 64) g (pz rfl (by decide)) rfl rfl d_Mo_upvalue_64 h fun v64 h => ?_
        exact j_Mo_upvalue_j65 g hR l2 v27.toInt32 v64 v27.toInt32 s ls (lv_sub hl [1, 3, 0] rfl) h
      · refine ww_aload_n (pc := 50) g.1 d_Mo_upvalue_50 rfl (lv_at hl 1 rfl) ?_
        refine ww_gR (pc := 51) g (k := 8) cl_Mo (pz rfl (by decide)) (by decide) (Or.inl kw_42) (f := 8) (t := 44) rfl rfl rfl d_Mo_upvalue_51 ?_
        refine ww_iload_n (pc := 54) g.1 d_Mo_upvalue_54 rfl (lv_at hl 2 rfl) ?_
        refine ww_ai (pc := 55) g (pz rfl (by decide)) rfl rfl d_Mo_upvalue_55 h fun v55 h => ?_
        refine ww_goto (pc := 56) (tgt := 65) g.1 d_Mo_upvalue_56 (by decide) ?_
        exact j_Mo_upvalue_j65 g hR l2 v27.toInt32 v55 v27.toInt32 s ls (lv_sub hl [1, 3, 0] rfl) h

theorem j_Mo_upvalue_j22 {X : Cx} {q : PL} (g : Gd X y_Mo_upvalue b_Mo_upvalue 4 none 2 46 R_Mo) {o : (Unit) × S1} (hR : Rt X q o.2 none) (l1 : Int32) (l2 : Int32) (k0 : Int32) (s : S1) (ls : Array Slot) (hl : lv_has ls 4 [(0, .ref (q.1 0 0)), (1, .int l1), (2, .int l2)]) (h : M_Mo_upvalue_j22 l1 l2 k0 s = some o) : WW X q s 22 ls [.int k0, .ref (q.1 0 0)] := by
  unfold M_Mo_upvalue_j22 at h
  obtain ⟨v22, s, hc22, h⟩ := oB_of h
  refine ww_callV (pc := 22) (rest := []) g cv_Mo_need (Or.inl kw_41) cl_Mo (pz rfl (by decide)) (ct_Mo_need hc22) ⟨by decide, by decide⟩ rfl hl.1 (Nat.le_of_ble_eq_true rfl) d_Mo_upvalue_22 rfl ?_
  refine ww_st (st' := []) rfl ?_
  exact j_Mo_upvalue_j25 g hR l1 l2 s ls (lv_sub hl [0, 1, 2] rfl) h

theorem ct_Mo_upvalue {l : Launch} {P : PP} {q : PL} {s s' : S1} {l1 : Int32} {r : Unit} (h : M_Mo_upvalue l1 s = some (r, s')) : Ct l y_Mo_upvalue b_Mo_upvalue 4 none 2 46 P q s [.ref (q.1 0 0), .int l1] none q s' := by
  refine ct_of (by decide) (Nat.le_of_ble_eq_true rfl) fun X ls eP el g hR hl => ?_
  have hR : Rt X q ((r, s') : Unit × S1).2 none := hR
  have hl : lv_has ls 4 [(0, .ref (q.1 0 0)), (1, .int l1)] := hl
  generalize (r, s') = o at h hR
  unfold M_Mo_upvalue at h
  refine ww_aload_n (pc := 0) g.1 d_Mo_upvalue_0 rfl (lv_at hl 0 rfl) ?_
  refine ww_iconst (pc := 1) g.1 (v := 1) d_Mo_upvalue_1 (by decide) ?_
  obtain ⟨v2, s, hc2, h⟩ := oB_of h
  refine ww_callV (pc := 2) (rest := []) g cv_Mo_number (Or.inl kw_37) cl_Mo (pz rfl (by decide)) (ct_Mo_number hc2) ⟨by decide, by decide⟩ rfl hl.1 (Nat.le_of_ble_eq_true rfl) d_Mo_upvalue_2 rfl ?_
  refine ww_st (st' := [.long v2]) rfl ?_
  refine ww_l2i (pc := 5) g.1 (v := v2.toInt32) d_Mo_upvalue_5 rfl ?_
  refine ww_istore_n (pc := 6) g.1 (lv' := [(2, .int v2.toInt32), (0, .ref (q.1 0 0)), (1, .int l1)]) d_Mo_upvalue_6 rfl hl (by decide) rfl fun ls hl => ?_
  refine ww_iload_n (pc := 7) g.1 d_Mo_upvalue_7 rfl (lv_at hl 2 rfl) ?_
  refine ww_if_lt (pc := 8) (tgt := 25) g.1 d_Mo_upvalue_8 (by decide) h (fun c h => ?_) (fun c h => ?_)
  · exact j_Mo_upvalue_j25 g hR l1 v2.toInt32 s ls (lv_sub hl [1, 2, 0] rfl) h
  · refine ww_aload_n (pc := 11) g.1 d_Mo_upvalue_11 rfl (lv_at hl 1 rfl) ?_
    refine ww_iload_n (pc := 12) g.1 d_Mo_upvalue_12 rfl (lv_at hl 0 rfl) ?_
    refine ww_iconst (pc := 13) g.1 (v := 2) d_Mo_upvalue_13 (by decide) ?_
    refine ww_icmp_ge (pc := 14) (tgt := 21) g.1 d_Mo_upvalue_14 (by decide) h (fun c h => ?_) (fun c h => ?_)
    · refine ww_iconst (pc := 21) g.1 (v := 0) d_Mo_upvalue_21 (by decide) ?_
      exact j_Mo_upvalue_j22 g hR l1 v2.toInt32 0 s ls (lv_sub hl [1, 2, 0] rfl) h
    · refine ww_iconst (pc := 17) g.1 (v := 1) d_Mo_upvalue_17 (by decide) ?_
      refine ww_goto (pc := 18) (tgt := 22) g.1 d_Mo_upvalue_18 (by decide) ?_
      exact j_Mo_upvalue_j22 g hR l1 v2.toInt32 1 s ls (lv_sub hl [1, 2, 0] rfl) h

