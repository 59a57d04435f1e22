abbrev b_Mo_string : ByteArray := prog_14_method_30_code
def y_Mo_string : MethodName := ⟨R_Mo, "string", "([BII)I"⟩
abbrev w_Mo_string : List Cond := .code y_Mo_string b_Mo_string 8 (some .int) :: wA
set_option maxRecDepth 20000 in
theorem k_Mo_string : Cond.code y_Mo_string b_Mo_string 8 (some .int) ∈ wA := kinm (show _ ∈ tables_1 from (List.mem_append_right _ (List.mem_append_right _ (List.mem_append_right _ (List.mem_append_right _ (List.mem_append_right _ (List.mem_append_right _ (List.mem_append_right _ (List.mem_append_right _ (List.mem_append_right _ (List.mem_append_right _ (List.mem_append_right _ (List.mem_append_left _ (List.mem_of_getElem? (l := tables_1_12) (i := 75) rfl)))))))))))))) rfl
theorem d_Mo_string_0 : decode b_Mo_string 0 = .ok (.aload_n 0, 1) := by decide +kernel
theorem d_Mo_string_1 : decode b_Mo_string 1 = .ok (.aload_n 1, 1) := by decide +kernel
theorem d_Mo_string_2 : decode b_Mo_string 2 = .ok (.iload_n 2, 1) := by decide +kernel
theorem d_Mo_string_3 : decode b_Mo_string 3 = .ok (.iload_n 3, 1) := by decide +kernel
theorem d_Mo_string_4 : decode b_Mo_string 4 = .ok (.invokevirtual 523, 3) := by decide +kernel
theorem d_Mo_string_7 : decode b_Mo_string 7 = .ok (.istore 4, 2) := by decide +kernel
theorem d_Mo_string_9 : decode b_Mo_string 9 = .ok (.aload_n 0, 1) := by decide +kernel
theorem d_Mo_string_10 : decode b_Mo_string 10 = .ok (.getfield 190, 3) := by decide +kernel
theorem d_Mo_string_13 : decode b_Mo_string 13 = .ok (.iload 4, 2) := by decide +kernel
theorem d_Mo_string_15 : decode b_Mo_string 15 = .ok (.iaload, 1) := by decide +kernel
theorem d_Mo_string_16 : decode b_Mo_string 16 = .ok (.iconst 1, 1) := by decide +kernel
theorem d_Mo_string_17 : decode b_Mo_string 17 = .ok (.isub, 1) := by decide +kernel
theorem d_Mo_string_18 : decode b_Mo_string 18 = .ok (.istore 5, 2) := by decide +kernel
theorem d_Mo_string_20 : decode b_Mo_string 20 = .ok (.iload 5, 2) := by decide +kernel
theorem d_Mo_string_22 : decode b_Mo_string 22 = .ok (.ifCond .lt 94, 3) := by decide +kernel
theorem d_Mo_string_25 : decode b_Mo_string 25 = .ok (.aload_n 0, 1) := by decide +kernel
theorem d_Mo_string_26 : decode b_Mo_string 26 = .ok (.getfield 171, 3) := by decide +kernel
theorem d_Mo_string_29 : decode b_Mo_string 29 = .ok (.iload 5, 2) := by decide +kernel
theorem d_Mo_string_31 : decode b_Mo_string 31 = .ok (.iaload, 1) := by decide +kernel
theorem d_Mo_string_32 : decode b_Mo_string 32 = .ok (.iload_n 3, 1) := by decide +kernel
theorem d_Mo_string_33 : decode b_Mo_string 33 = .ok (.if_icmp .ne 7, 3) := by decide +kernel
theorem d_Mo_string_36 : decode b_Mo_string 36 = .ok (.iconst 1, 1) := by decide +kernel
theorem d_Mo_string_37 : decode b_Mo_string 37 = .ok (.goto 4, 3) := by decide +kernel
theorem d_Mo_string_40 : decode b_Mo_string 40 = .ok (.iconst 0, 1) := by decide +kernel
theorem d_Mo_string_41 : decode b_Mo_string 41 = .ok (.istore 6, 2) := by decide +kernel
theorem d_Mo_string_43 : decode b_Mo_string 43 = .ok (.iconst 0, 1) := by decide +kernel
theorem d_Mo_string_44 : decode b_Mo_string 44 = .ok (.istore 7, 2) := by decide +kernel
theorem d_Mo_string_46 : decode b_Mo_string 46 = .ok (.iload 6, 2) := by decide +kernel
theorem d_Mo_string_48 : decode b_Mo_string 48 = .ok (.ifCond .eq 46, 3) := by decide +kernel
theorem d_Mo_string_51 : decode b_Mo_string 51 = .ok (.iload 7, 2) := by decide +kernel
theorem d_Mo_string_53 : decode b_Mo_string 53 = .ok (.iload_n 3, 1) := by decide +kernel
theorem d_Mo_string_54 : decode b_Mo_string 54 = .ok (.if_icmp .ge 40, 3) := by decide +kernel
theorem d_Mo_string_57 : decode b_Mo_string 57 = .ok (.aload_n 0, 1) := by decide +kernel
theorem d_Mo_string_58 : decode b_Mo_string 58 = .ok (.getfield 187, 3) := by decide +kernel
theorem d_Mo_string_61 : decode b_Mo_string 61 = .ok (.aload_n 0, 1) := by decide +kernel
theorem d_Mo_string_62 : decode b_Mo_string 62 = .ok (.getfield 168, 3) := by decide +kernel
theorem d_Mo_string_65 : decode b_Mo_string 65 = .ok (.iload 5, 2) := by decide +kernel
theorem d_Mo_string_67 : decode b_Mo_string 67 = .ok (.iaload, 1) := by decide +kernel
theorem d_Mo_string_68 : decode b_Mo_string 68 = .ok (.iload 7, 2) := by decide +kernel
theorem d_Mo_string_70 : decode b_Mo_string 70 = .ok (.iadd, 1) := by decide +kernel
theorem d_Mo_string_71 : decode b_Mo_string 71 = .ok (.baload, 1) := by decide +kernel
theorem d_Mo_string_72 : decode b_Mo_string 72 = .ok (.aload_n 1, 1) := by decide +kernel
theorem d_Mo_string_73 : decode b_Mo_string 73 = .ok (.iload_n 2, 1) := by decide +kernel
theorem d_Mo_string_74 : decode b_Mo_string 74 = .ok (.iload 7, 2) := by decide +kernel
theorem d_Mo_string_76 : decode b_Mo_string 76 = .ok (.iadd, 1) := by decide +kernel
theorem d_Mo_string_77 : decode b_Mo_string 77 = .ok (.baload, 1) := by decide +kernel
theorem d_Mo_string_78 : decode b_Mo_string 78 = .ok (.if_icmp .ne 7, 3) := by decide +kernel
theorem d_Mo_string_81 : decode b_Mo_string 81 = .ok (.iconst 1, 1) := by decide +kernel
theorem d_Mo_string_82 : decode b_Mo_string 82 = .ok (.goto 4, 3) := by decide +kernel
theorem d_Mo_string_85 : decode b_Mo_string 85 = .ok (.iconst 0, 1) := by decide +kernel
theorem d_Mo_string_86 : decode b_Mo_string 86 = .ok (.istore 6, 2) := by decide +kernel
theorem d_Mo_string_88 : decode b_Mo_string 88 = .ok (.iinc 7 1, 3) := by decide +kernel
theorem d_Mo_string_91 : decode b_Mo_string 91 = .ok (.goto (-45), 3) := by decide +kernel
theorem d_Mo_string_94 : decode b_Mo_string 94 = .ok (.iload 6, 2) := by decide +kernel
theorem d_Mo_string_96 : decode b_Mo_string 96 = .ok (.ifCond .eq 6, 3) := by decide +kernel
theorem d_Mo_string_99 : decode b_Mo_string 99 = .ok (.iload 5, 2) := by decide +kernel
theorem d_Mo_string_101 : decode b_Mo_string 101 = .ok (.ireturn, 1) := by decide +kernel
theorem d_Mo_string_102 : decode b_Mo_string 102 = .ok (.aload_n 0, 1) := by decide +kernel
theorem d_Mo_string_103 : decode b_Mo_string 103 = .ok (.getfield 177, 3) := by decide +kernel
theorem d_Mo_string_106 : decode b_Mo_string 106 = .ok (.iload 5, 2) := by decide +kernel
theorem d_Mo_string_108 : decode b_Mo_string 108 = .ok (.iaload, 1) := by decide +kernel
theorem d_Mo_string_109 : decode b_Mo_string 109 = .ok (.iconst 1, 1) := by decide +kernel
theorem d_Mo_string_110 : decode b_Mo_string 110 = .ok (.isub, 1) := by decide +kernel
theorem d_Mo_string_111 : decode b_Mo_string 111 = .ok (.istore 5, 2) := by decide +kernel
theorem d_Mo_string_113 : decode b_Mo_string 113 = .ok (.goto (-93), 3) := by decide +kernel
theorem d_Mo_string_116 : decode b_Mo_string 116 = .ok (.aload_n 0, 1) := by decide +kernel
theorem d_Mo_string_117 : decode b_Mo_string 117 = .ok (.getfield 152, 3) := by decide +kernel
theorem d_Mo_string_120 : decode b_Mo_string 120 = .ok (.iload_n 3, 1) := by decide +kernel
theorem d_Mo_string_121 : decode b_Mo_string 121 = .ok (.iadd, 1) := by decide +kernel
theorem d_Mo_string_122 : decode b_Mo_string 122 = .ok (.ldc 186, 2) := by decide +kernel
theorem d_Mo_string_124 : decode b_Mo_string 124 = .ok (.if_icmp .le 10, 3) := by decide +kernel
theorem d_Mo_string_127 : decode b_Mo_string 127 = .ok (.aload_n 0, 1) := by decide +kernel
theorem d_Mo_string_128 : decode b_Mo_string 128 = .ok (.bipush 11, 2) := by decide +kernel
theorem d_Mo_string_130 : decode b_Mo_string 130 = .ok (.invokevirtual 517, 3) := by decide +kernel
theorem d_Mo_string_133 : decode b_Mo_string 133 = .ok (.ireturn, 1) := by decide +kernel
theorem d_Mo_string_134 : decode b_Mo_string 134 = .ok (.aload_n 0, 1) := by decide +kernel
theorem d_Mo_string_135 : decode b_Mo_string 135 = .ok (.iconst 0, 1) := by decide +kernel
theorem d_Mo_string_136 : decode b_Mo_string 136 = .ok (.invokevirtual 527, 3) := by decide +kernel
theorem d_Mo_string_139 : decode b_Mo_string 139 = .ok (.ifCond .ne 5, 3) := by decide +kernel
theorem d_Mo_string_142 : decode b_Mo_string 142 = .ok (.iconst (-1), 1) := by decide +kernel
theorem d_Mo_string_143 : decode b_Mo_string 143 = .ok (.ireturn, 1) := by decide +kernel
theorem d_Mo_string_144 : decode b_Mo_string 144 = .ok (.aload_n 0, 1) := by decide +kernel
theorem d_Mo_string_145 : decode b_Mo_string 145 = .ok (.iconst 4, 1) := by decide +kernel
theorem d_Mo_string_146 : decode b_Mo_string 146 = .ok (.invokevirtual 531, 3) := by decide +kernel
theorem d_Mo_string_149 : decode b_Mo_string 149 = .ok (.istore 5, 2) := by decide +kernel
theorem d_Mo_string_151 : decode b_Mo_string 151 = .ok (.aload_n 1, 1) := by decide +kernel
theorem d_Mo_string_152 : decode b_Mo_string 152 = .ok (.iload_n 2, 1) := by decide +kernel
theorem d_Mo_string_153 : decode b_Mo_string 153 = .ok (.aload_n 0, 1) := by decide +kernel
theorem d_Mo_string_154 : decode b_Mo_string 154 = .ok (.getfield 187, 3) := by decide +kernel
theorem d_Mo_string_157 : decode b_Mo_string 157 = .ok (.aload_n 0, 1) := by decide +kernel
theorem d_Mo_string_158 : decode b_Mo_string 158 = .ok (.getfield 134, 3) := by decide +kernel
theorem d_Mo_string_161 : decode b_Mo_string 161 = .ok (.iload_n 3, 1) := by decide +kernel
theorem d_Mo_string_162 : decode b_Mo_string 162 = .ok (.invokestatic 534, 3) := by decide +kernel
theorem d_Mo_string_165 : decode b_Mo_string 165 = .ok (.aload_n 0, 1) := by decide +kernel
theorem d_Mo_string_166 : decode b_Mo_string 166 = .ok (.getfield 168, 3) := by decide +kernel
theorem d_Mo_string_169 : decode b_Mo_string 169 = .ok (.iload 5, 2) := by decide +kernel
theorem d_Mo_string_171 : decode b_Mo_string 171 = .ok (.aload_n 0, 1) := by decide +kernel
theorem d_Mo_string_172 : decode b_Mo_string 172 = .ok (.getfield 134, 3) := by decide +kernel
theorem d_Mo_string_175 : decode b_Mo_string 175 = .ok (.iastore, 1) := by decide +kernel
theorem d_Mo_string_176 : decode b_Mo_string 176 = .ok (.aload_n 0, 1) := by decide +kernel
theorem d_Mo_string_177 : decode b_Mo_string 177 = .ok (.getfield 171, 3) := by decide +kernel
theorem d_Mo_string_180 : decode b_Mo_string 180 = .ok (.iload 5, 2) := by decide +kernel
theorem d_Mo_string_182 : decode b_Mo_string 182 = .ok (.iload_n 3, 1) := by decide +kernel
theorem d_Mo_string_183 : decode b_Mo_string 183 = .ok (.iastore, 1) := by decide +kernel
theorem d_Mo_string_184 : decode b_Mo_string 184 = .ok (.aload_n 0, 1) := by decide +kernel
theorem d_Mo_string_185 : decode b_Mo_string 185 = .ok (.dup, 1) := by decide +kernel
theorem d_Mo_string_186 : decode b_Mo_string 186 = .ok (.getfield 134, 3) := by decide +kernel
theorem d_Mo_string_189 : decode b_Mo_string 189 = .ok (.iload_n 3, 1) := by decide +kernel
theorem d_Mo_string_190 : decode b_Mo_string 190 = .ok (.iadd, 1) := by decide +kernel
theorem d_Mo_string_191 : decode b_Mo_string 191 = .ok (.putfield 134, 3) := by decide +kernel
theorem d_Mo_string_194 : decode b_Mo_string 194 = .ok (.aload_n 0, 1) := by decide +kernel
theorem d_Mo_string_195 : decode b_Mo_string 195 = .ok (.dup, 1) := by decide +kernel
theorem d_Mo_string_196 : decode b_Mo_string 196 = .ok (.getfield 152, 3) := by decide +kernel
theorem d_Mo_string_199 : decode b_Mo_string 199 = .ok (.iload_n 3, 1) := by decide +kernel
theorem d_Mo_string_200 : decode b_Mo_string 200 = .ok (.iadd, 1) := by decide +kernel
theorem d_Mo_string_201 : decode b_Mo_string 201 = .ok (.putfield 152, 3) := by decide +kernel
theorem d_Mo_string_204 : decode b_Mo_string 204 = .ok (.aload_n 0, 1) := by decide +kernel
theorem d_Mo_string_205 : decode b_Mo_string 205 = .ok (.getfield 177, 3) := by decide +kernel
theorem d_Mo_string_208 : decode b_Mo_string 208 = .ok (.iload 5, 2) := by decide +kernel
theorem d_Mo_string_210 : decode b_Mo_string 210 = .ok (.aload_n 0, 1) := by decide +kernel
theorem d_Mo_string_211 : decode b_Mo_string 211 = .ok (.getfield 190, 3) := by decide +kernel
theorem d_Mo_string_214 : decode b_Mo_string 214 = .ok (.iload 4, 2) := by decide +kernel
theorem d_Mo_string_216 : decode b_Mo_string 216 = .ok (.iaload, 1) := by decide +kernel
theorem d_Mo_string_217 : decode b_Mo_string 217 = .ok (.iastore, 1) := by decide +kernel
theorem d_Mo_string_218 : decode b_Mo_string 218 = .ok (.aload_n 0, 1) := by decide +kernel
theorem d_Mo_string_219 : decode b_Mo_string 219 = .ok (.getfield 190, 3) := by decide +kernel
theorem d_Mo_string_222 : decode b_Mo_string 222 = .ok (.iload 4, 2) := by decide +kernel
theorem d_Mo_string_224 : decode b_Mo_string 224 = .ok (.iload 5, 2) := by decide +kernel
theorem d_Mo_string_226 : decode b_Mo_string 226 = .ok (.iconst 1, 1) := by decide +kernel
theorem d_Mo_string_227 : decode b_Mo_string 227 = .ok (.iadd, 1) := by decide +kernel
theorem d_Mo_string_228 : decode b_Mo_string 228 = .ok (.iastore, 1) := by decide +kernel
theorem d_Mo_string_229 : decode b_Mo_string 229 = .ok (.iload 5, 2) := by decide +kernel
theorem d_Mo_string_231 : decode b_Mo_string 231 = .ok (.ireturn, 1) := by decide +kernel
theorem kw_509 : Cond.constant R_Mo 186 400000 ∈ wA := kinm (show _ ∈ tables_1 from (List.mem_append_right _ (List.mem_append_right _ (List.mem_append_right _ (List.mem_append_right _ (List.mem_append_right _ (List.mem_append_right _ (List.mem_append_right _ (List.mem_append_right _ (List.mem_append_left _ (List.mem_of_getElem? (l := tables_1_9) (i := 136) (by decide +kernel)))))))))))) (by decide +kernel)
theorem kw_510 : Cond.fieldLink R_Mo 152 "LuaMachineModel" "textAll" "I" ∈ wA := kinm (show _ ∈ tables_1 from (List.mem_append_right _ (List.mem_append_right _ (List.mem_append_right _ (List.mem_append_right _ (List.mem_append_right _ (List.mem_append_right _ (List.mem_append_right _ (List.mem_append_right _ (List.mem_append_right _ (List.mem_append_left _ (List.mem_of_getElem? (l := tables_1_10) (i := 99) (by decide +kernel))))))))))))) (by decide +kernel)
theorem kw_511 : Cond.methodLink R_Mo 534 y_ARRCOPY ∈ wA := kinm (show _ ∈ tables_1 from (List.mem_append_right _ (List.mem_append_right _ (List.mem_append_right _ (List.mem_append_right _ (List.mem_append_right _ (List.mem_append_right _ (List.mem_append_right _ (List.mem_append_right _ (List.mem_append_right _ (List.mem_append_right _ (List.mem_append_right _ (List.mem_append_left _ (List.mem_of_getElem? (l := tables_1_12) (i := 76) (by decide +kernel))))))))))))))) (by decide +kernel)
theorem kw_512 : Cond.native y_ARRCOPY ∈ wA := kinm (show _ ∈ tables_1 from (List.mem_append_right _ (List.mem_append_right _ (List.mem_append_right _ (List.mem_append_left _ (List.mem_of_getElem? (l := tables_1_4) (i := 159) (by decide +kernel))))))) (by decide +kernel)
theorem kw_513 : Cond.static y_ARRCOPY ∈ wA := kinm (show _ ∈ tables_1 from (List.mem_append_right _ (List.mem_append_right _ (List.mem_append_right _ (List.mem_append_left _ (List.mem_of_getElem? (l := tables_1_4) (i := 158) (by decide +kernel))))))) (by decide +kernel)
theorem kw_514 : Cond.initialized "java/lang/System" ∈ wA := kinm (show _ ∈ tables_1 from (List.mem_append_left _ (List.mem_of_getElem? (l := tables_1_1) (i := 28) (by decide +kernel)))) (by decide +kernel)
theorem kw_515 : Cond.instanceMethod y_Mo_string ∈ wA := kinm (show _ ∈ tables_1 from (List.mem_append_right _ (List.mem_append_right _ (List.mem_append_right _ (List.mem_append_right _ (List.mem_append_right _ (List.mem_append_right _ (List.mem_append_right _ (List.mem_append_right _ (List.mem_append_right _ (List.mem_append_right _ (List.mem_append_right _ (List.mem_append_left _ (List.mem_of_getElem? (l := tables_1_12) (i := 74) (by decide +kernel))))))))))))))) (by decide +kernel)
theorem kw_516 : Cond.selects R_Mo y_Mo_string y_Mo_string ∈ wA := kinp 144 (by decide +kernel) (by decide +kernel)
theorem cv_Mo_string : CV y_Mo_string b_Mo_string 8 (some .int) 3 := ⟨kw_515, kw_516, kw_17, k_Mo_string, by decide +kernel⟩
theorem j_Mo_string_j86 {X : Cx} {q : PL} (g : Gd X y_Mo_string b_Mo_string 8 (some .int) 7 154 R_Mo) {o : ((Nat × Int32 × Int32 × Int32 × Int32 × Int32 × Int32 × Int32) ⊕ ((Nat × Int32 × Int32 × Int32 × Int32 × Int32 × Int32))) × S1} (hR : (Sum.elim (fun y : Nat × Int32 × Int32 × Int32 × Int32 × Int32 × Int32 × Int32 => ∀ ls : Array Slot, (AK 2 y.1) → (prs o.2 y.1 y.2.1) → lv_has ls 8 [(0, .ref (q.1 0 0)), (1, .ref (q.1 y.1 y.2.1)), (2, .int y.2.2.1), (3, .int y.2.2.2.1), (4, .int y.2.2.2.2.1), (5, .int y.2.2.2.2.2.1), (6, .int y.2.2.2.2.2.2.1), (7, .int y.2.2.2.2.2.2.2)] → WW X q o.2 46 ls []) (fun y : Nat × Int32 × Int32 × Int32 × Int32 × Int32 × Int32 => ∀ ls : Array Slot, (AK 2 y.1) → (prs o.2 y.1 y.2.1) → lv_has ls 8 [(0, .ref (q.1 0 0)), (1, .ref (q.1 y.1 y.2.1)), (2, .int y.2.2.1), (3, .int y.2.2.2.1), (4, .int y.2.2.2.2.1), (5, .int y.2.2.2.2.2.1), (6, .int y.2.2.2.2.2.2)] → WW X q o.2 94 ls []) o.1)) (l1r : Nat) (l1 : Int32) (l2 : Int32) (l3 : Int32) (l4 : Int32) (l5 : Int32) (l7 : Int32) (k0 : Int32) (s : S1) (hp0 : AK 2 l1r) (hp1 : prs s l1r l1) (ls : Array Slot) (hl : lv_has ls 8 [(0, .ref (q.1 0 0)), (1, .ref (q.1 l1r l1)), (2, .int l2), (3, .int l3), (4, .int l4), (5, .int l5), (7, .int l7)]) (h : M_Mo_string_j86 l1r l1 l2 l3 l4 l5 l7 k0 s = some o) : WW X q s 86 ls [.int k0] := by
  unfold M_Mo_string_j86 at h
  refine ww_istore (pc := 86) (i := 6) g.1 (lv' := [(6, .int k0), (0, .ref (q.1 0 0)), (1, .ref (q.1 l1r l1)), (2, .int l2), (3, .int l3), (4, .int l4), (5, .int l5), (7, .int l7)]) d_Mo_string_86 hl (by decide) rfl fun ls hl => ?_
  refine ww_iinc (pc := 88) g.1 (v := l7 + 1) (lv' := [(7, .int (l7 + 1)), (6, .int k0), (0, .ref (q.1 0 0)), (1, .ref (q.1 l1r l1)), (2, .int l2), (3, .int l3), (4, .int l4), (5, .int l5)]) d_Mo_string_88 hl (k := 7) rfl (by rfl) (by decide) rfl fun ls hl => ?_
  refine ww_goto (pc := 91) (tgt := 46) g.1 d_Mo_string_91 (by decide) ?_
  rw [oR_eq h] at hR
  exact hR ls hp0 hp1 (lv_sub hl [2, 3, 4, 5, 6, 7, 1, 0] rfl)

theorem lp_Mo_string_L46 {X : Cx} {q : PL} (g : Gd X y_Mo_string b_Mo_string 8 (some .int) 7 154 R_Mo) (x : Nat × Int32 × Int32 × Int32 × Int32 × Int32 × Int32 × Int32) (s : S1) (o : ((Nat × Int32 × Int32 × Int32 × Int32 × Int32 × Int32 × Int32) ⊕ ((Nat × Int32 × Int32 × Int32 × Int32 × Int32 × Int32))) × S1) (h : M_Mo_string_L46 x s = some o) (hR : (Sum.elim (fun y : Nat × Int32 × Int32 × Int32 × Int32 × Int32 × Int32 × Int32 => ∀ ls : Array Slot, (AK 2 y.1) → (prs o.2 y.1 y.2.1) → lv_has ls 8 [(0, .ref (q.1 0 0)), (1, .ref (q.1 y.1 y.2.1)), (2, .int y.2.2.1), (3, .int y.2.2.2.1), (4, .int y.2.2.2.2.1), (5, .int y.2.2.2.2.2.1), (6, .int y.2.2.2.2.2.2.1), (7, .int y.2.2.2.2.2.2.2)] → WW X q o.2 46 ls []) (fun y : Nat × Int32 × Int32 × Int32 × Int32 × Int32 × Int32 => ∀ ls : Array Slot, (AK 2 y.1) → (prs o.2 y.1 y.2.1) → lv_has ls 8 [(0, .ref (q.1 0 0)), (1, .ref (q.1 y.1 y.2.1)), (2, .int y.2.2.1), (3, .int y.2.2.2.1), (4, .int y.2.2.2.2.1), (5, .int y.2.2.2.2.2.1), (6, .int y.2.2.2.2.2.2)] → WW X q o.2 94 ls []) o.1)) : ∀ ls : Array Slot, (AK 2 x.1) → (prs s x.1 x.2.1) → lv_has ls 8 [(0, .ref (q.1 0 0)), (1, .ref (q.1 x.1 x.2.1)), (2, .int x.2.2.1), (3, .int x.2.2.2.1), (4, .int x.2.2.2.2.1), (5, .int x.2.2.2.2.2.1), (6, .int x.2.2.2.2.2.2.1), (7, .int x.2.2.2.2.2.2.2)] → WW X q s 46 ls [] := by
  intro ls hp0 hp1 hl
  unfold M_Mo_string_L46 at h
  refine ww_iload (pc := 46) g.1 d_Mo_string_46 (lv_at hl 6 rfl) ?_
  refine ww_if_eq (pc := 48) (tgt := 94) g.1 d_Mo_string_48 (by decide) h (fun c h => ?_) (fun c h => ?_)
  · rw [oR_eq h] at hR
    exact hR ls hp0 hp1 (lv_sub hl [0, 1, 2, 3, 4, 5, 6] rfl)
  · refine ww_iload (pc := 51) g.1 d_Mo_string_51 (lv_at hl 7 rfl) ?_
    refine ww_iload_n (pc := 53) g.1 d_Mo_string_53 rfl (lv_at hl 3 rfl) ?_
    refine ww_icmp_ge (pc := 54) (tgt := 94) g.1 d_Mo_string_54 (by decide) h (fun c h => ?_) (fun c h => ?_)
    · rw [oR_eq h] at hR
      exact hR ls hp0 hp1 (lv_sub hl [0, 1, 2, 3, 4, 5, 6] rfl)
    · refine ww_aload_n (pc := 57) g.1 d_Mo_string_57 rfl (lv_at hl 0 rfl) ?_
      refine ww_gR (pc := 58) g (k := 55) cl_Mo (pz rfl (by decide)) (by decide) (Or.inl kw_200) (f := 55) (t := 67) rfl rfl rfl d_Mo_string_58 ?_
      refine ww_aload_n (pc := 61) g.1 d_Mo_string_61 rfl (lv_at hl 0 rfl) ?_
      refine ww_gR (pc := 62) g (k := 49) cl_Mo (pz rfl (by decide)) (by decide) (Or.inl kw_87) (f := 49) (t := 62) rfl rfl rfl d_Mo_string_62 ?_
      refine ww_iload (pc := 65) g.1 d_Mo_string_65 (lv_at hl 5 rfl) ?_
      refine ww_ai (pc := 67) g (pz rfl (by decide)) rfl rfl d_Mo_string_67 h fun v67 h => ?_
      refine ww_iload (pc := 68) g.1 d_Mo_string_68 (lv_at hl 7 rfl) ?_
      refine ww_iadd (pc := 70) g.1 d_Mo_string_70 ?_
      refine ww_ab (pc := 71) g (pz rfl (by decide)) rfl rfl d_Mo_string_71 h fun v71 h => ?_
      refine ww_aload_n (pc := 72) g.1 d_Mo_string_72 rfl (lv_at hl 1 rfl) ?_
      refine ww_iload_n (pc := 73) g.1 d_Mo_string_73 rfl (lv_at hl 2 rfl) ?_
      refine ww_iload (pc := 74) g.1 d_Mo_string_74 (lv_at hl 7 rfl) ?_
      refine ww_iadd (pc := 76) g.1 d_Mo_string_76 ?_
      refine ww_ab (pc := 77) g hp1 hp0.1 (ak_n hp0) d_Mo_string_77 h fun v77 h => ?_
      refine ww_icmp_ne (pc := 78) (tgt := 85) g.1 d_Mo_string_78 (by decide) h (fun c h => ?_) (fun c h => ?_)
      · refine ww_iconst (pc := 85) g.1 (v := 0) d_Mo_string_85 (by decide) ?_
        exact j_Mo_string_j86 g hR x.1 x.2.1 x.2.2.1 x.2.2.2.1 x.2.2.2.2.1 x.2.2.2.2.2.1 x.2.2.2.2.2.2.2 0 s hp0 hp1 ls (lv_sub hl [0, 1, 2, 3, 4, 5, 7] rfl) h
      · refine ww_iconst (pc := 81) g.1 (v := 1) d_Mo_string_81 (by decide) ?_
        refine ww_goto (pc := 82) (tgt := 86) g.1 d_Mo_string_82 (by decide) ?_
        exact j_Mo_string_j86 g hR x.1 x.2.1 x.2.2.1 x.2.2.2.1 x.2.2.2.2.1 x.2.2.2.2.2.1 x.2.2.2.2.2.2.2 1 s hp0 hp1 ls (lv_sub hl [0, 1, 2, 3, 4, 5, 7] rfl) h

theorem j_Mo_string_j94 {X : Cx} {q : PL} (g : Gd X y_Mo_string b_Mo_string 8 (some .int) 7 154 R_Mo) {o : ((Nat × Int32 × Int32 × Int32 × Int32 × Int32) ⊕ ((Int32) ⊕ (Nat × Int32 × Int32 × Int32 × Int32))) × S1} (hR : (Sum.elim (fun y : Nat × Int32 × Int32 × Int32 × Int32 × Int32 => ∀ ls : Array Slot, (AK 2 y.1) → (prs o.2 y.1 y.2.1) → lv_has ls 8 [(0, .ref (q.1 0 0)), (1, .ref (q.1 y.1 y.2.1)), (2, .int y.2.2.1), (3, .int y.2.2.2.1), (4, .int y.2.2.2.2.1), (5, .int y.2.2.2.2.2)] → WW X q o.2 20 ls []) (Sum.elim (fun y : Int32 => ∀ ls : Array Slot, lv_has ls 8 [(5, .int y)] → WW X q o.2 99 ls []) (fun y : Nat × Int32 × Int32 × Int32 × Int32 => ∀ ls : Array Slot, (AK 2 y.1) → (prs o.2 y.1 y.2.1) → lv_has ls 8 [(0, .ref (q.1 0 0)), (1, .ref (q.1 y.1 y.2.1)), (2, .int y.2.2.1), (3, .int y.2.2.2.1), (4, .int y.2.2.2.2)] → WW X q o.2 116 ls [])) o.1)) (l1r : Nat) (l1 : Int32) (l2 : Int32) (l3 : Int32) (l4 : Int32) (l5 : Int32) (l6 : Int32) (s : S1) (hp0 : AK 2 l1r) (hp1 : prs s l1r l1) (ls : Array Slot) (hl : lv_has ls 8 [(0, .ref (q.1 0 0)), (1, .ref (q.1 l1r l1)), (2, .int l2), (3, .int l3), (4, .int l4), (5, .int l5), (6, .int l6)]) (h : M_Mo_string_j94 l1r l1 l2 l3 l4 l5 l6 s = some o) : WW X q s 94 ls [] := by
  unfold M_Mo_string_j94 at h
  refine ww_iload (pc := 94) g.1 d_Mo_string_94 (lv_at hl 6 rfl) ?_
  refine ww_if_eq (pc := 96) (tgt := 102) g.1 d_Mo_string_96 (by decide) h (fun c h => ?_) (fun c h => ?_)
  · refine ww_aload_n (pc := 102) g.1 d_Mo_string_102 rfl (lv_at hl 0 rfl) ?_
    refine ww_gR (pc := 103) g (k := 52) cl_Mo (pz rfl (by decide)) (by decide) (Or.inl kw_341) (f := 52) (t := 65) rfl rfl rfl d_Mo_string_103 ?_
    refine ww_iload (pc := 106) g.1 d_Mo_string_106 (lv_at hl 5 rfl) ?_
    refine ww_ai (pc := 108) g (pz rfl (by decide)) rfl rfl d_Mo_string_108 h fun v108 h => ?_
    refine ww_iconst (pc := 109) g.1 (v := 1) d_Mo_string_109 (by decide) ?_
    refine ww_isub (pc := 110) g.1 d_Mo_string_110 ?_
    refine ww_leti h fun l5_111 h => ?_
    refine ww_istore (pc := 111) (i := 5) g.1 (lv' := [(5, .int l5_111), (0, .ref (q.1 0 0)), (1, .ref (q.1 l1r l1)), (2, .int l2), (3, .int l3), (4, .int l4), (6, .int l6)]) d_Mo_string_111 hl (by decide) rfl fun ls hl => ?_
    refine ww_goto (pc := 113) (tgt := 20) g.1 d_Mo_string_113 (by decide) ?_
    rw [oR_eq h] at hR
    exact hR ls hp0 hp1 (lv_sub hl [1, 2, 3, 4, 5, 0] rfl)
  · rw [oR_eq h] at hR
    exact hR ls (lv_sub hl [5] rfl)

theorem j_Mo_string_j41 {X : Cx} {q : PL} (g : Gd X y_Mo_string b_Mo_string 8 (some .int) 7 154 R_Mo) {o : ((Nat × Int32 × Int32 × Int32 × Int32 × Int32) ⊕ ((Int32) ⊕ (Nat × Int32 × Int32 × Int32 × Int32))) × S1} (hR : (Sum.elim (fun y : Nat × Int32 × Int32 × Int32 × Int32 × Int32 => ∀ ls : Array Slot, (AK 2 y.1) → (prs o.2 y.1 y.2.1) → lv_has ls 8 [(0, .ref (q.1 0 0)), (1, .ref (q.1 y.1 y.2.1)), (2, .int y.2.2.1), (3, .int y.2.2.2.1), (4, .int y.2.2.2.2.1), (5, .int y.2.2.2.2.2)] → WW X q o.2 20 ls []) (Sum.elim (fun y : Int32 => ∀ ls : Array Slot, lv_has ls 8 [(5, .int y)] → WW X q o.2 99 ls []) (fun y : Nat × Int32 × Int32 × Int32 × Int32 => ∀ ls : Array Slot, (AK 2 y.1) → (prs o.2 y.1 y.2.1) → lv_has ls 8 [(0, .ref (q.1 0 0)), (1, .ref (q.1 y.1 y.2.1)), (2, .int y.2.2.1), (3, .int y.2.2.2.1), (4, .int y.2.2.2.2)] → WW X q o.2 116 ls [])) o.1)) (l1r : Nat) (l1 : Int32) (l2 : Int32) (l3 : Int32) (l4 : Int32) (l5 : Int32) (k0 : Int32) (s : S1) (hp0 : AK 2 l1r) (hp1 : prs s l1r l1) (ls : Array Slot) (hl : lv_has ls 8 [(0, .ref (q.1 0 0)), (1, .ref (q.1 l1r l1)), (2, .int l2), (3, .int l3), (4, .int l4), (5, .int l5)]) (h : M_Mo_string_j41 l1r l1 l2 l3 l4 l5 k0 s = some o) : WW X q s 41 ls [.int k0] := by
  unfold M_Mo_string_j41 at h
  refine ww_istore (pc := 41) (i := 6) g.1 (lv' := [(6, .int k0), (0, .ref (q.1 0 0)), (1, .ref (q.1 l1r l1)), (2, .int l2), (3, .int l3), (4, .int l4), (5, .int l5)]) d_Mo_string_41 hl (by decide) rfl fun ls hl => ?_
  refine ww_iconst (pc := 43) g.1 (v := 0) d_Mo_string_43 (by decide) ?_
  refine ww_istore (pc := 44) (i := 7) g.1 (lv' := [(7, .int 0), (6, .int k0), (0, .ref (q.1 0 0)), (1, .ref (q.1 l1r l1)), (2, .int l2), (3, .int l3), (4, .int l4), (5, .int l5)]) d_Mo_string_44 hl (by decide) rfl fun ls hl => ?_
  obtain ⟨e46, s1, hw, h⟩ := oB_of h
  refine oW_rule (Wh := fun (x : Nat × Int32 × Int32 × Int32 × Int32 × Int32 × Int32 × Int32) (s : S1) => ∀ ls : Array Slot, (AK 2 x.1) → (prs s x.1 x.2.1) → lv_has ls 8 [(0, .ref (q.1 0 0)), (1, .ref (q.1 x.1 x.2.1)), (2, .int x.2.2.1), (3, .int x.2.2.2.1), (4, .int x.2.2.2.2.1), (5, .int x.2.2.2.2.2.1), (6, .int x.2.2.2.2.2.2.1), (7, .int x.2.2.2.2.2.2.2)] → WW X q s 46 ls []) (We := fun (e : (Nat × Int32 × Int32 × Int32 × Int32 × Int32 × Int32)) (s : S1) => ∀ ls : Array Slot, (AK 2 e.1) → (prs s e.1 e.2.1) → lv_has ls 8 [(0, .ref (q.1 0 0)), (1, .ref (q.1 e.1 e.2.1)), (2, .int e.2.2.1), (3, .int e.2.2.2.1), (4, .int e.2.2.2.2.1), (5, .int e.2.2.2.2.2.1), (6, .int e.2.2.2.2.2.2)] → WW X q s 94 ls []) (fun x s o hb hc => lp_Mo_string_L46 (q := q) g x s o hb hc) hw ?_ ls hp0 hp1 (lv_sub hl [2, 3, 4, 5, 6, 7, 1, 0] rfl)
  clear hw hl
  clear ls
  generalize s1 = s at h ⊢
  intro ls hq46_0 hq46_1 hl
  exact j_Mo_string_j94 g hR e46.1 e46.2.1 e46.2.2.1 e46.2.2.2.1 e46.2.2.2.2.1 e46.2.2.2.2.2.1 e46.2.2.2.2.2.2 s hq46_0 hq46_1 ls (lv_sub hl [0, 1, 2, 3, 4, 5, 6] rfl) h

theorem lp_Mo_string_L20 {X : Cx} {q : PL} (g : Gd X y_Mo_string b_Mo_string 8 (some .int) 7 154 R_Mo) (x : Nat × Int32 × Int32 × Int32 × Int32 × Int32) (s : S1) (o : ((Nat × Int32 × Int32 × Int32 × Int32 × Int32) ⊕ ((Int32) ⊕ (Nat × Int32 × Int32 × Int32 × Int32))) × S1) (h : M_Mo_string_L20 x s = some o) (hR : (Sum.elim (fun y : Nat × Int32 × Int32 × Int32 × Int32 × Int32 => ∀ ls : Array Slot, (AK 2 y.1) → (prs o.2 y.1 y.2.1) → lv_has ls 8 [(0, .ref (q.1 0 0)), (1, .ref (q.1 y.1 y.2.1)), (2, .int y.2.2.1), (3, .int y.2.2.2.1), (4, .int y.2.2.2.2.1), (5, .int y.2.2.2.2.2)] → WW X q o.2 20 ls []) (Sum.elim (fun y : Int32 => ∀ ls : Array Slot, lv_has ls 8 [(5, .int y)] → WW X q o.2 99 ls []) (fun y : Nat × Int32 × Int32 × Int32 × Int32 => ∀ ls : Array Slot, (AK 2 y.1) → (prs o.2 y.1 y.2.1) → lv_has ls 8 [(0, .ref (q.1 0 0)), (1, .ref (q.1 y.1 y.2.1)), (2, .int y.2.2.1), (3, .int y.2.2.2.1), (4, .int y.2.2.2.2)] → WW X q o.2 116 ls [])) o.1)) : ∀ ls : Array Slot, (AK 2 x.1) → (prs s x.1 x.2.1) → lv_has ls 8 [(0, .ref (q.1 0 0)), (1, .ref (q.1 x.1 x.2.1)), (2, .int x.2.2.1), (3, .int x.2.2.2.1), (4, .int x.2.2.2.2.1), (5, .int x.2.2.2.2.2)] → WW X q s 20 ls [] := by
  intro ls hp0 hp1 hl
  unfold M_Mo_string_L20 at h
  refine ww_iload (pc := 20) g.1 d_Mo_string_20 (lv_at hl 5 rfl) ?_
  refine ww_if_lt (pc := 22) (tgt := 116) g.1 d_Mo_string_22 (by decide) h (fun c h => ?_) (fun c h => ?_)
  · rw [oR_eq h] at hR
    exact hR ls hp0 hp1 (lv_sub hl [0, 1, 2, 3, 4] rfl)
  · refine ww_aload_n (pc := 25) g.1 d_Mo_string_25 rfl (lv_at hl 0 rfl) ?_
    refine ww_gR (pc := 26) g (k := 50) cl_Mo (pz rfl (by decide)) (by decide) (Or.inl kw_91) (f := 50) (t := 63) rfl rfl rfl d_Mo_string_26 ?_
    refine ww_iload (pc := 29) g.1 d_Mo_string_29 (lv_at hl 5 rfl) ?_
    refine ww_ai (pc := 31) g (pz rfl (by decide)) rfl rfl d_Mo_string_31 h fun v31 h => ?_
    refine ww_iload_n (pc := 32) g.1 d_Mo_string_32 rfl (lv_at hl 3 rfl) ?_
    refine ww_icmp_ne (pc := 33) (tgt := 40) g.1 d_Mo_string_33 (by decide) h (fun c h => ?_) (fun c h => ?_)
    · refine ww_iconst (pc := 40) g.1 (v := 0) d_Mo_string_40 (by decide) ?_
      exact j_Mo_string_j41 g hR x.1 x.2.1 x.2.2.1 x.2.2.2.1 x.2.2.2.2.1 x.2.2.2.2.2 0 s hp0 hp1 ls (lv_sub hl [0, 1, 2, 3, 4, 5] rfl) h
    · refine ww_iconst (pc := 36) g.1 (v := 1) d_Mo_string_36 (by decide) ?_
      refine ww_goto (pc := 37) (tgt := 41) g.1 d_Mo_string_37 (by decide) ?_
      exact j_Mo_string_j41 g hR x.1 x.2.1 x.2.2.1 x.2.2.2.1 x.2.2.2.2.1 x.2.2.2.2.2 1 s hp0 hp1 ls (lv_sub hl [0, 1, 2, 3, 4, 5] rfl) h

theorem ct_Mo_string {l : Launch} {P : PP} {q : PL} {s s' : S1} {l1r : Nat} {l1 : Int32} {l2 : Int32} {l3 : Int32} (hp0 : AK 2 l1r) (hp1 : prs s l1r l1) {r : Int32} (h : M_Mo_string l1r l1 l2 l3 s = some (r, s')) : Ct l y_Mo_string b_Mo_string 8 (some .int) 7 154 P q s [.ref (q.1 0 0), .ref (q.1 l1r l1), .int l2, .int l3] (some (.int r)) q s' := by
  refine ct_of (by decide) (Nat.le_of_ble_eq_true rfl) fun X ls eP el g hR hl => ?_
  subst eP
  have hR : Rt X q ((r, s') : Int32 × S1).2 (some (.int ((r, s') : Int32 × S1).1)) := hR
  have hl : lv_has ls 8 [(0, .ref (q.1 0 0)), (1, .ref (q.1 l1r l1)), (2, .int l2), (3, .int l3)] := hl
  generalize (r, s') = o at h hR
  unfold M_Mo_string at h
  refine ww_aload_n (pc := 0) g.1 d_Mo_string_0 rfl (lv_at hl 0 rfl) ?_
  refine ww_aload_n (pc := 1) g.1 d_Mo_string_1 rfl (lv_at hl 1 rfl) ?_
  refine ww_iload_n (pc := 2) g.1 d_Mo_string_2 rfl (lv_at hl 2 rfl) ?_
  refine ww_iload_n (pc := 3) g.1 d_Mo_string_3 rfl (lv_at hl 3 rfl) ?_
  obtain ⟨v4, s, hc4, h⟩ := oB_of h
  refine ww_callV (pc := 4) (rest := []) g cv_Mo_hash (Or.inl kw_339) cl_Mo (pz rfl (by decide)) (ct_Mo_hash hp0 hp1 hc4) ⟨by decide, by decide⟩ rfl hl.1 (Nat.le_of_ble_eq_true rfl) d_Mo_string_4 rfl ?_
  refine ww_st (st' := [.int v4]) rfl ?_
  refine ww_pr h fun hp1 h => ?_
  refine ww_istore (pc := 7) (i := 4) g.1 (lv' := [(4, .int v4), (0, .ref (q.1 0 0)), (1, .ref (q.1 l1r l1)), (2, .int l2), (3, .int l3)]) d_Mo_string_7 hl (by decide) rfl fun ls hl => ?_
  refine ww_aload_n (pc := 9) g.1 d_Mo_string_9 rfl (lv_at hl 1 rfl) ?_
  refine ww_gR (pc := 10) g (k := 56) cl_Mo (pz rfl (by decide)) (by decide) (Or.inl kw_340) (f := 56) (t := 68) rfl rfl rfl d_Mo_string_10 ?_
  refine ww_iload (pc := 13) g.1 d_Mo_string_13 (lv_at hl 0 rfl) ?_
  refine ww_ai (pc := 15) g (pz rfl (by decide)) rfl rfl d_Mo_string_15 h fun v15 h => ?_
  refine ww_iconst (pc := 16) g.1 (v := 1) d_Mo_string_16 (by decide) ?_
  refine ww_isub (pc := 17) g.1 d_Mo_string_17 ?_
  refine ww_leti h fun l5_18 h => ?_
  refine ww_istore (pc := 18) (i := 5) g.1 (lv' := [(5, .int l5_18), (4, .int v4), (0, .ref (q.1 0 0)), (1, .ref (q.1 l1r l1)), (2, .int l2), (3, .int l3)]) d_Mo_string_18 hl (by decide) rfl fun ls hl => ?_
  obtain ⟨e20, s1, hw, h⟩ := oB_of h
  refine oW_rule (Wh := fun (x : Nat × Int32 × Int32 × Int32 × Int32 × Int32) (s : S1) => ∀ ls : Array Slot, (AK 2 x.1) → (prs s x.1 x.2.1) → lv_has ls 8 [(0, .ref (q.1 0 0)), (1, .ref (q.1 x.1 x.2.1)), (2, .int x.2.2.1), (3, .int x.2.2.2.1), (4, .int x.2.2.2.2.1), (5, .int x.2.2.2.2.2)] → WW X q s 20 ls []) (We := fun (e : (Int32) ⊕ (Nat × Int32 × Int32 × Int32 × Int32)) (s : S1) => (Sum.elim (fun y : Int32 => ∀ ls : Array Slot, lv_has ls 8 [(5, .int y)] → WW X q s 99 ls []) (fun y : Nat × Int32 × Int32 × Int32 × Int32 => ∀ ls : Array Slot, (AK 2 y.1) → (prs s y.1 y.2.1) → lv_has ls 8 [(0, .ref (q.1 0 0)), (1, .ref (q.1 y.1 y.2.1)), (2, .int y.2.2.1), (3, .int y.2.2.2.1), (4, .int y.2.2.2.2)] → WW X q s 116 ls [])) e) (fun x s o hb hc => lp_Mo_string_L20 (q := q) g x s o hb hc) hw ?_ ls hp0 hp1 (lv_sub hl [2, 3, 4, 5, 1, 0] rfl)
  clear hw hl
  clear ls
  generalize s1 = s at h ⊢
  rcases e20 with y20_99 | y20_116
  · intro ls hl
    dsimp only [Sum.elim_inl, Sum.elim_inr] at h
    refine ww_iload (pc := 99) g.1 d_Mo_string_99 (lv_at hl 0 rfl) ?_
    exact ww_iretH (pc := 101) g h hR d_Mo_string_101
  · intro ls hq20_0 hq20_1 hl
    dsimp only [Sum.elim_inl, Sum.elim_inr] at h
    refine ww_aload_n (pc := 116) g.1 d_Mo_string_116 rfl (lv_at hl 0 rfl) ?_
    refine ww_gI (pc := 117) g (k := 44) cl_Mo (pz rfl (by decide)) (by decide) (Or.inl kw_510) (f := 44) rfl rfl d_Mo_string_117 h fun v117 h => ?_
    refine ww_iload_n (pc := 120) g.1 d_Mo_string_120 rfl (lv_at hl 3 rfl) ?_
    refine ww_iadd (pc := 121) g.1 d_Mo_string_121 ?_
    refine ww_ldc (pc := 122) g (v := 400000) kw_509 d_Mo_string_122 ?_
    refine ww_icmp_le (pc := 124) (tgt := 134) g.1 d_Mo_string_124 (by decide) h (fun c h => ?_) (fun c h => ?_)
    · refine ww_aload_n (pc := 134) g.1 d_Mo_string_134 rfl (lv_at hl 0 rfl) ?_
      refine ww_iconst (pc := 135) g.1 (v := 0) d_Mo_string_135 (by decide) ?_
      obtain ⟨v136, s, hc136, h⟩ := oB_of h
      refine ww_callV (pc := 136) (rest := []) g cv_Mo_may (Or.inl kw_461) cl_Mo (pz rfl (by decide)) (ct_Mo_may hc136) ⟨by decide, by decide⟩ rfl hl.1 (Nat.le_of_ble_eq_true rfl) d_Mo_string_136 rfl ?_
      refine ww_st (st' := [.int v136]) rfl ?_
      refine ww_pr h fun hq20_1 h => ?_
      refine ww_if_ne (pc := 139) (tgt := 144) g.1 d_Mo_string_139 (by decide) h (fun c h => ?_) (fun c h => ?_)
      · refine ww_aload_n (pc := 144) g.1 d_Mo_string_144 rfl (lv_at hl 0 rfl) ?_
        refine ww_iconst (pc := 145) g.1 (v := 4) d_Mo_string_145 (by decide) ?_
        obtain ⟨v146, s, hc146, h⟩ := oB_of h
        refine ww_callV (pc := 146) (rest := []) g cv_Mo_object (Or.inl kw_462) cl_Mo (pz rfl (by decide)) (ct_Mo_object hc146) ⟨by decide, by decide⟩ rfl hl.1 (Nat.le_of_ble_eq_true rfl) d_Mo_string_146 rfl ?_
        refine ww_st (st' := [.int v146]) rfl ?_
        refine ww_pr h fun hq20_1 h => ?_
        refine ww_istore (pc := 149) (i := 5) g.1 (lv' := [(5, .int v146), (0, .ref (q.1 0 0)), (1, .ref (q.1 y20_116.1 y20_116.2.1)), (2, .int y20_116.2.2.1), (3, .int y20_116.2.2.2.1), (4, .int y20_116.2.2.2.2)]) d_Mo_string_149 hl (by decide) rfl fun ls hl => ?_
        refine ww_aload_n (pc := 151) g.1 d_Mo_string_151 rfl (lv_at hl 2 rfl) ?_
        refine ww_iload_n (pc := 152) g.1 d_Mo_string_152 rfl (lv_at hl 3 rfl) ?_
        refine ww_aload_n (pc := 153) g.1 d_Mo_string_153 rfl (lv_at hl 1 rfl) ?_
        refine ww_gR (pc := 154) g (k := 55) cl_Mo (pz rfl (by decide)) (by decide) (Or.inl kw_200) (f := 55) (t := 67) rfl rfl rfl d_Mo_string_154 ?_
        refine ww_aload_n (pc := 157) g.1 d_Mo_string_157 rfl (lv_at hl 1 rfl) ?_
        refine ww_gI (pc := 158) g (k := 38) cl_Mo (pz rfl (by decide)) (by decide) (Or.inl kw_301) (f := 38) rfl rfl d_Mo_string_158 h fun v158 h => ?_
        refine ww_iload_n (pc := 161) g.1 d_Mo_string_161 rfl (lv_at hl 4 rfl) ?_
        refine ww_ci (pc := 162) g hq20_1 (pz rfl (by decide)) (hq20_0.1.trans ((rfl : rkF 67 = 2)).symm) (Or.inr hq20_0.1) (ak_n hq20_0) rfl kw_511 kw_512 kw_513 kw_514 ⟨by decide, by decide⟩ hl.1 (Nat.le_of_ble_eq_true rfl) d_Mo_string_162 h fun s hs h => ?_
        have hq20_1 : prs s y20_116.1 y20_116.2.1 := hs ▸ hq20_1
        refine ww_aload_n (pc := 165) g.1 d_Mo_string_165 rfl (lv_at hl 1 rfl) ?_
        refine ww_gR (pc := 166) g (k := 49) cl_Mo (pz rfl (by decide)) (by decide) (Or.inl kw_87) (f := 49) (t := 62) rfl rfl rfl d_Mo_string_166 ?_
        refine ww_iload (pc := 169) g.1 d_Mo_string_169 (lv_at hl 0 rfl) ?_
        refine ww_aload_n (pc := 171) g.1 d_Mo_string_171 rfl (lv_at hl 1 rfl) ?_
        refine ww_gI (pc := 172) g (k := 38) cl_Mo (pz rfl (by decide)) (by decide) (Or.inl kw_301) (f := 38) rfl rfl d_Mo_string_172 h fun v172 h => ?_
        refine ww_si (pc := 175) g (pz rfl (by decide)) rfl rfl d_Mo_string_175 h fun s hs h => ?_
        have hq20_1 : prs s y20_116.1 y20_116.2.1 := hs ▸ hq20_1
        refine ww_aload_n (pc := 176) g.1 d_Mo_string_176 rfl (lv_at hl 1 rfl) ?_
        refine ww_gR (pc := 177) g (k := 50) cl_Mo (pz rfl (by decide)) (by decide) (Or.inl kw_91) (f := 50) (t := 63) rfl rfl rfl d_Mo_string_177 ?_
        refine ww_iload (pc := 180) g.1 d_Mo_string_180 (lv_at hl 0 rfl) ?_
        refine ww_iload_n (pc := 182) g.1 d_Mo_string_182 rfl (lv_at hl 4 rfl) ?_
        refine ww_si (pc := 183) g (pz rfl (by decide)) rfl rfl d_Mo_string_183 h fun s hs h => ?_
        have hq20_1 : prs s y20_116.1 y20_116.2.1 := hs ▸ hq20_1
        refine ww_aload_n (pc := 184) g.1 d_Mo_string_184 rfl (lv_at hl 1 rfl) ?_
        refine ww_dup (pc := 185) g.1 d_Mo_string_185 rfl ?_
        refine ww_gI (pc := 186) g (k := 38) cl_Mo (pz rfl (by decide)) (by decide) (Or.inl kw_301) (f := 38) rfl rfl d_Mo_string_186 h fun v186 h => ?_
        refine ww_iload_n (pc := 189) g.1 d_Mo_string_189 rfl (lv_at hl 4 rfl) ?_
        refine ww_iadd (pc := 190) g.1 d_Mo_string_190 ?_
        refine ww_pI (pc := 191) g (k := 38) cl_Mo (pz rfl (by decide)) (by decide) (Or.inl kw_301) rfl (f := 38) rfl rfl rfl rfl d_Mo_string_191 h fun s hs h => ?_
        have hq20_1 : prs s y20_116.1 y20_116.2.1 := prs_kI (r := 0) (k := 38) (by decide) hs hq20_1
        refine ww_aload_n (pc := 194) g.1 d_Mo_string_194 rfl (lv_at hl 1 rfl) ?_
        refine ww_dup (pc := 195) g.1 d_Mo_string_195 rfl ?_
        refine ww_gI (pc := 196) g (k := 44) cl_Mo (pz rfl (by decide)) (by decide) (Or.inl kw_510) (f := 44) rfl rfl d_Mo_string_196 h fun v196 h => ?_
        refine ww_iload_n (pc := 199) g.1 d_Mo_string_199 rfl (lv_at hl 4 rfl) ?_
        refine ww_iadd (pc := 200) g.1 d_Mo_string_200 ?_
        refine ww_pI (pc := 201) g (k := 44) cl_Mo (pz rfl (by decide)) (by decide) (Or.inl kw_510) rfl (f := 44) rfl rfl rfl rfl d_Mo_string_201 h fun s hs h => ?_
        have hq20_1 : prs s y20_116.1 y20_116.2.1 := prs_kI (r := 0) (k := 44) (by decide) hs hq20_1
        refine ww_aload_n (pc := 204) g.1 d_Mo_string_204 rfl (lv_at hl 1 rfl) ?_
        refine ww_gR (pc := 205) g (k := 52) cl_Mo (pz rfl (by decide)) (by decide) (Or.inl kw_341) (f := 52) (t := 65) rfl rfl rfl d_Mo_string_205 ?_
        refine ww_iload (pc := 208) g.1 d_Mo_string_208 (lv_at hl 0 rfl) ?_
        refine ww_aload_n (pc := 210) g.1 d_Mo_string_210 rfl (lv_at hl 1 rfl) ?_
        refine ww_gR (pc := 211) g (k := 56) cl_Mo (pz rfl (by decide)) (by decide) (Or.inl kw_340) (f := 56) (t := 68) rfl rfl rfl d_Mo_string_211 ?_
        refine ww_iload (pc := 214) g.1 d_Mo_string_214 (lv_at hl 5 rfl) ?_
        refine ww_ai (pc := 216) g (pz rfl (by decide)) rfl rfl d_Mo_string_216 h fun v216 h => ?_
        refine ww_si (pc := 217) g (pz rfl (by decide)) rfl rfl d_Mo_string_217 h fun s hs h => ?_
        have hq20_1 : prs s y20_116.1 y20_116.2.1 := hs ▸ hq20_1
        refine ww_aload_n (pc := 218) g.1 d_Mo_string_218 rfl (lv_at hl 1 rfl) ?_
        refine ww_gR (pc := 219) g (k := 56) cl_Mo (pz rfl (by decide)) (by decide) (Or.inl kw_340) (f := 56) (t := 68) rfl rfl rfl d_Mo_string_219 ?_
        refine ww_iload (pc := 222) g.1 d_Mo_string_222 (lv_at hl 5 rfl) ?_
        refine ww_iload (pc := 224) g.1 d_Mo_string_224 (lv_at hl 0 rfl) ?_
        refine ww_iconst (pc := 226) g.1 (v := 1) d_Mo_string_226 (by decide) ?_
        refine ww_iadd (pc := 227) g.1 d_Mo_string_227 ?_
        refine ww_si (pc := 228) g (pz rfl (by decide)) rfl rfl d_Mo_string_228 h fun s hs h => ?_
        have hq20_1 : prs s y20_116.1 y20_116.2.1 := hs ▸ hq20_1
        refine ww_iload (pc := 229) g.1 d_Mo_string_229 (lv_at hl 0 rfl) ?_
        exact ww_iretH (pc := 231) g h hR d_Mo_string_231
      · refine ww_iconst (pc := 142) g.1 (v := (-1)) d_Mo_string_142 (by decide) ?_
        exact ww_iretH (pc := 143) g h hR d_Mo_string_143
    · refine ww_aload_n (pc := 127) g.1 d_Mo_string_127 rfl (lv_at hl 0 rfl) ?_
      refine ww_bipush (pc := 128) g.1 (v := 11) d_Mo_string_128 (by decide) ?_
      obtain ⟨v130, s, hc130, h⟩ := oB_of h
      refine ww_callV (pc := 130) (rest := []) g cv_Mo_raise (Or.inl kw_157) cl_Mo (pz rfl (by decide)) (ct_Mo_raise hc130) ⟨by decide, by decide⟩ rfl hl.1 (Nat.le_of_ble_eq_true rfl) d_Mo_string_130 rfl ?_
      refine ww_st (st' := [.int v130]) rfl ?_
      refine ww_pr h fun hq20_1 h => ?_
      exact ww_iretH (pc := 133) g h hR d_Mo_string_133

abbrev b_Mo_say_ : ByteArray := prog_14_method_104_code
def y_Mo_say_ : MethodName := ⟨R_Mo, "say", "(II)V"⟩
abbrev w_Mo_say_ : List Cond := .code y_Mo_say_ b_Mo_say_ 3 none :: wA
theorem k_Mo_say_ : Cond.code y_Mo_say_ b_Mo_say_ 3 none ∈ wA := kinm (show _ ∈ tables_1 from (List.mem_append_right _ (List.mem_append_right _ (List.mem_append_right _ (List.mem_append_right _ (List.mem_append_right _ (List.mem_append_right _ (List.mem_append_right _ (List.mem_append_right _ (List.mem_append_right _ (List.mem_append_right _ (List.mem_append_right _ (List.mem_append_left _ (List.mem_of_getElem? (l := tables_1_12) (i := 204) (by decide +kernel))))))))))))))) (by decide +kernel)
theorem d_Mo_say__0 : decode b_Mo_say_ 0 = .ok (.aload_n 0, 1) := by decide +kernel
theorem d_Mo_say__1 : decode b_Mo_say_ 1 = .ok (.getfield 187, 3) := by decide +kernel
theorem d_Mo_say__4 : decode b_Mo_say_ 4 = .ok (.iload_n 1, 1) := by decide +kernel
theorem d_Mo_say__5 : decode b_Mo_say_ 5 = .ok (.aload_n 0, 1) := by decide +kernel
theorem d_Mo_say__6 : decode b_Mo_say_ 6 = .ok (.getfield 422, 3) := by decide +kernel
theorem d_Mo_say__9 : decode b_Mo_say_ 9 = .ok (.aload_n 0, 1) := by decide +kernel
theorem d_Mo_say__10 : decode b_Mo_say_ 10 = .ok (.getfield 431, 3) := by decide +kernel
theorem d_Mo_say__13 : decode b_Mo_say_ 13 = .ok (.iload_n 2, 1) := by decide +kernel
theorem d_Mo_say__14 : decode b_Mo_say_ 14 = .ok (.invokestatic 534, 3) := by decide +kernel
theorem d_Mo_say__17 : decode b_Mo_say_ 17 = .ok (.aload_n 0, 1) := by decide +kernel
theorem d_Mo_say__18 : decode b_Mo_say_ 18 = .ok (.dup, 1) := by decide +kernel
theorem d_Mo_say__19 : decode b_Mo_say_ 19 = .ok (.getfield 431, 3) := by decide +kernel
theorem d_Mo_say__22 : decode b_Mo_say_ 22 = .ok (.iload_n 2, 1) := by decide +kernel
theorem d_Mo_say__23 : decode b_Mo_say_ 23 = .ok (.iadd, 1) := by decide +kernel
theorem d_Mo_say__24 : decode b_Mo_say_ 24 = .ok (.putfield 431, 3) := by decide +kernel
theorem d_Mo_say__27 : decode b_Mo_say_ 27 = .ok (.return_, 1) := by decide +kernel
theorem kw_517 : Cond.instanceMethod y_Mo_say_ ∈ wA := kinm (show _ ∈ tables_1 from (List.mem_append_right _ (List.mem_append_right _ (List.mem_append_right _ (List.mem_append_right _ (List.mem_append_right _ (List.mem_append_right _ (List.mem_append_right _ (List.mem_append_right _ (List.mem_append_right _ (List.mem_append_right _ (List.mem_append_right _ (List.mem_append_left _ (List.mem_of_getElem? (l := tables_1_12) (i := 203) (by decide +kernel))))))))))))))) (by decide +kernel)
theorem kw_518 : Cond.selects R_Mo y_Mo_say_ y_Mo_say_ ∈ wA := kinp 166 (by decide +kernel) (by decide +kernel)
theorem cv_Mo_say_ : CV y_Mo_say_ b_Mo_say_ 3 none 2 := ⟨kw_517, kw_518, kw_17, k_Mo_say_, by decide +kernel⟩
theorem ct_Mo_say_ {l : Launch} {P : PP} {q : PL} {s s' : S1} {l1 : Int32} {l2 : Int32} {r : Unit} (h : M_Mo_say_ l1 l2 s = some (r, s')) : Ct l y_Mo_say_ b_Mo_say_ 3 none 1 26 P q s [.ref (q.1 0 0), .int l1, .int l2] none q s' := by
  refine ct_of (by decide) (Nat.le_of_ble_eq_true rfl) fun X ls eP el g hR hl => ?_
  subst eP
  have hR : Rt X q ((r, s') : Unit × S1).2 none := hR
  have hl : lv_has ls 3 [(0, .ref (q.1 0 0)), (1, .int l1), (2, .int l2)] := hl
  generalize (r, s') = o at h hR
  unfold M_Mo_say_ at h
  refine ww_aload_n (pc := 0) g.1 d_Mo_say__0 rfl (lv_at hl 0 rfl) ?_
  refine ww_gR (pc := 1) g (k := 55) cl_Mo (pz rfl (by decide)) (by decide) (Or.inl kw_200) (f := 55) (t := 67) rfl rfl rfl d_Mo_say__1 ?_
  refine ww_iload_n (pc := 4) g.1 d_Mo_say__4 rfl (lv_at hl 1 rfl) ?_
  refine ww_aload_n (pc := 5) g.1 d_Mo_say__5 rfl (lv_at hl 0 rfl) ?_
  refine ww_gR (pc := 6) g (k := 93) cl_Mo (pz rfl (by decide)) (by decide) (Or.inl kw_167) (f := 93) (t := 87) rfl rfl rfl d_Mo_say__6 ?_
  refine ww_aload_n (pc := 9) g.1 d_Mo_say__9 rfl (lv_at hl 0 rfl) ?_
  refine ww_gI (pc := 10) g (k := 96) cl_Mo (pz rfl (by decide)) (by decide) (Or.inl kw_168) (f := 96) rfl rfl d_Mo_say__10 h fun v10 h => ?_
  refine ww_iload_n (pc := 13) g.1 d_Mo_say__13 rfl (lv_at hl 2 rfl) ?_
  refine ww_ci (pc := 14) g (pz rfl (by decide)) (pz rfl (by decide)) rfl (Or.inr rfl) rfl rfl kw_511 kw_512 kw_513 kw_514 ⟨by decide, by decide⟩ hl.1 (Nat.le_of_ble_eq_true rfl) d_Mo_say__14 h fun s hs h => ?_
  refine ww_aload_n (pc := 17) g.1 d_Mo_say__17 rfl (lv_at hl 0 rfl) ?_
  refine ww_dup (pc := 18) g.1 d_Mo_say__18 rfl ?_
  refine ww_gI (pc := 19) g (k := 96) cl_Mo (pz rfl (by decide)) (by decide) (Or.inl kw_168) (f := 96) rfl rfl d_Mo_say__19 h fun v19 h => ?_
  refine ww_iload_n (pc := 22) g.1 d_Mo_say__22 rfl (lv_at hl 2 rfl) ?_
  refine ww_iadd (pc := 23) g.1 d_Mo_say__23 ?_
  refine ww_pI (pc := 24) g (k := 96) cl_Mo (pz rfl (by decide)) (by decide) (Or.inl kw_168) rfl (f := 96) rfl rfl rfl rfl d_Mo_say__24 h fun s hs h => ?_
  exact ww_vretH (pc := 27) g h hR d_Mo_say__27

abbrev b_Mo_sub : ByteArray := prog_14_method_96_code
def y_Mo_sub : MethodName := ⟨R_Mo, "sub", "()V"⟩
abbrev w_Mo_sub : List Cond := .code y_Mo_sub b_Mo_sub 8 none :: wA
set_option maxRecDepth 20000 in
theorem k_Mo_sub : Cond.code y_Mo_sub b_Mo_sub 8 none ∈ wA := kinm (show _ ∈ tables_1 from (List.mem_append_right _ (List.mem_append_right _ (List.mem_append_right _ (List.mem_append_right _ (List.mem_append_right _ (List.mem_append_right _ (List.mem_append_right _ (List.mem_append_right _ (List.mem_append_right _ (List.mem_append_right _ (List.mem_append_right _ (List.mem_append_right _ (List.mem_append_left _ (List.mem_of_getElem? (l := tables_1_13) (i := 33) rfl))))))))))))))) rfl
theorem d_Mo_sub_0 : decode b_Mo_sub 0 = .ok (.aload_n 0, 1) := by decide +kernel
theorem d_Mo_sub_1 : decode b_Mo_sub 1 = .ok (.iconst 0, 1) := by decide +kernel
theorem d_Mo_sub_2 : decode b_Mo_sub 2 = .ok (.iconst 4, 1) := by decide +kernel
theorem d_Mo_sub_3 : decode b_Mo_sub 3 = .ok (.invokevirtual 833, 3) := by decide +kernel
theorem d_Mo_sub_6 : decode b_Mo_sub 6 = .ok (.ifCond .eq 19, 3) := by decide +kernel
theorem d_Mo_sub_9 : decode b_Mo_sub 9 = .ok (.aload_n 0, 1) := by decide +kernel
theorem d_Mo_sub_10 : decode b_Mo_sub 10 = .ok (.iconst 1, 1) := by decide +kernel
theorem d_Mo_sub_11 : decode b_Mo_sub 11 = .ok (.invokevirtual 856, 3) := by decide +kernel
theorem d_Mo_sub_14 : decode b_Mo_sub 14 = .ok (.ifCond .eq 11, 3) := by decide +kernel
theorem d_Mo_sub_17 : decode b_Mo_sub 17 = .ok (.aload_n 0, 1) := by decide +kernel
theorem d_Mo_sub_18 : decode b_Mo_sub 18 = .ok (.iconst 2, 1) := by decide +kernel
theorem d_Mo_sub_19 : decode b_Mo_sub 19 = .ok (.invokevirtual 856, 3) := by decide +kernel
theorem d_Mo_sub_22 : decode b_Mo_sub 22 = .ok (.ifCond .ne 10, 3) := by decide +kernel
theorem d_Mo_sub_25 : decode b_Mo_sub 25 = .ok (.aload_n 0, 1) := by decide +kernel
theorem d_Mo_sub_26 : decode b_Mo_sub 26 = .ok (.iconst 3, 1) := by decide +kernel
theorem d_Mo_sub_27 : decode b_Mo_sub 27 = .ok (.invokevirtual 517, 3) := by decide +kernel
theorem d_Mo_sub_30 : decode b_Mo_sub 30 = .ok (.pop, 1) := by decide +kernel
theorem d_Mo_sub_31 : decode b_Mo_sub 31 = .ok (.return_, 1) := by decide +kernel
theorem d_Mo_sub_32 : decode b_Mo_sub 32 = .ok (.aload_n 0, 1) := by decide +kernel
theorem d_Mo_sub_33 : decode b_Mo_sub 33 = .ok (.iconst 0, 1) := by decide +kernel
theorem d_Mo_sub_34 : decode b_Mo_sub 34 = .ok (.invokevirtual 807, 3) := by decide +kernel
theorem d_Mo_sub_37 : decode b_Mo_sub 37 = .ok (.l2i, 1) := by decide +kernel
theorem d_Mo_sub_38 : decode b_Mo_sub 38 = .ok (.istore_n 1, 1) := by decide +kernel
theorem d_Mo_sub_39 : decode b_Mo_sub 39 = .ok (.aload_n 0, 1) := by decide +kernel
theorem d_Mo_sub_40 : decode b_Mo_sub 40 = .ok (.getfield 171, 3) := by decide +kernel
theorem d_Mo_sub_43 : decode b_Mo_sub 43 = .ok (.iload_n 1, 1) := by decide +kernel
theorem d_Mo_sub_44 : decode b_Mo_sub 44 = .ok (.iaload, 1) := by decide +kernel
theorem d_Mo_sub_45 : decode b_Mo_sub 45 = .ok (.istore_n 2, 1) := by decide +kernel
theorem d_Mo_sub_46 : decode b_Mo_sub 46 = .ok (.lconst 1, 1) := by decide +kernel
theorem d_Mo_sub_47 : decode b_Mo_sub 47 = .ok (.aload_n 0, 1) := by decide +kernel
theorem d_Mo_sub_48 : decode b_Mo_sub 48 = .ok (.iconst 1, 1) := by decide +kernel
theorem d_Mo_sub_49 : decode b_Mo_sub 49 = .ok (.iconst 0, 1) := by decide +kernel
theorem d_Mo_sub_50 : decode b_Mo_sub 50 = .ok (.invokevirtual 833, 3) := by decide +kernel
theorem d_Mo_sub_53 : decode b_Mo_sub 53 = .ok (.ifCond .eq 7, 3) := by decide +kernel
theorem d_Mo_sub_56 : decode b_Mo_sub 56 = .ok (.lconst 1, 1) := by decide +kernel
theorem d_Mo_sub_57 : decode b_Mo_sub 57 = .ok (.goto 8, 3) := by decide +kernel
theorem d_Mo_sub_60 : decode b_Mo_sub 60 = .ok (.aload_n 0, 1) := by decide +kernel
theorem d_Mo_sub_61 : decode b_Mo_sub 61 = .ok (.iconst 1, 1) := by decide +kernel
theorem d_Mo_sub_62 : decode b_Mo_sub 62 = .ok (.invokevirtual 807, 3) := by decide +kernel
theorem d_Mo_sub_65 : decode b_Mo_sub 65 = .ok (.iload_n 2, 1) := by decide +kernel
theorem d_Mo_sub_66 : decode b_Mo_sub 66 = .ok (.invokestatic 859, 3) := by decide +kernel
theorem d_Mo_sub_69 : decode b_Mo_sub 69 = .ok (.invokestatic 863, 3) := by decide +kernel
theorem d_Mo_sub_72 : decode b_Mo_sub 72 = .ok (.lstore_n 3, 1) := by decide +kernel
theorem d_Mo_sub_73 : decode b_Mo_sub 73 = .ok (.iload_n 2, 1) := by decide +kernel
theorem d_Mo_sub_74 : decode b_Mo_sub 74 = .ok (.i2l, 1) := by decide +kernel
theorem d_Mo_sub_75 : decode b_Mo_sub 75 = .ok (.aload_n 0, 1) := by decide +kernel
theorem d_Mo_sub_76 : decode b_Mo_sub 76 = .ok (.iconst 2, 1) := by decide +kernel
theorem d_Mo_sub_77 : decode b_Mo_sub 77 = .ok (.iconst 0, 1) := by decide +kernel
theorem d_Mo_sub_78 : decode b_Mo_sub 78 = .ok (.invokevirtual 833, 3) := by decide +kernel
theorem d_Mo_sub_81 : decode b_Mo_sub 81 = .ok (.ifCond .eq 9, 3) := by decide +kernel
theorem d_Mo_sub_84 : decode b_Mo_sub 84 = .ok (.ldc2_w 722, 3) := by decide +kernel
theorem d_Mo_sub_87 : decode b_Mo_sub 87 = .ok (.goto 8, 3) := by decide +kernel
theorem d_Mo_sub_90 : decode b_Mo_sub 90 = .ok (.aload_n 0, 1) := by decide +kernel
theorem d_Mo_sub_91 : decode b_Mo_sub 91 = .ok (.iconst 2, 1) := by decide +kernel
theorem d_Mo_sub_92 : decode b_Mo_sub 92 = .ok (.invokevirtual 807, 3) := by decide +kernel
theorem d_Mo_sub_95 : decode b_Mo_sub 95 = .ok (.iload_n 2, 1) := by decide +kernel
theorem d_Mo_sub_96 : decode b_Mo_sub 96 = .ok (.invokestatic 859, 3) := by decide +kernel
theorem d_Mo_sub_99 : decode b_Mo_sub 99 = .ok (.invokestatic 865, 3) := by decide +kernel
theorem d_Mo_sub_102 : decode b_Mo_sub 102 = .ok (.lstore 5, 2) := by decide +kernel
theorem d_Mo_sub_104 : decode b_Mo_sub 104 = .ok (.lload_n 3, 1) := by decide +kernel
theorem d_Mo_sub_105 : decode b_Mo_sub 105 = .ok (.lload 5, 2) := by decide +kernel
theorem d_Mo_sub_107 : decode b_Mo_sub 107 = .ok (.lcmp, 1) := by decide +kernel
theorem d_Mo_sub_108 : decode b_Mo_sub 108 = .ok (.ifCond .le 16, 3) := by decide +kernel
theorem d_Mo_sub_111 : decode b_Mo_sub 111 = .ok (.aload_n 0, 1) := by decide +kernel
theorem d_Mo_sub_112 : decode b_Mo_sub 112 = .ok (.aload_n 0, 1) := by decide +kernel
theorem d_Mo_sub_113 : decode b_Mo_sub 113 = .ok (.getfield 187, 3) := by decide +kernel
theorem d_Mo_sub_116 : decode b_Mo_sub 116 = .ok (.iconst 0, 1) := by decide +kernel
theorem d_Mo_sub_117 : decode b_Mo_sub 117 = .ok (.iconst 0, 1) := by decide +kernel
theorem d_Mo_sub_118 : decode b_Mo_sub 118 = .ok (.invokevirtual 655, 3) := by decide +kernel
theorem d_Mo_sub_121 : decode b_Mo_sub 121 = .ok (.goto 29, 3) := by decide +kernel
theorem d_Mo_sub_124 : decode b_Mo_sub 124 = .ok (.aload_n 0, 1) := by decide +kernel
theorem d_Mo_sub_125 : decode b_Mo_sub 125 = .ok (.aload_n 0, 1) := by decide +kernel
theorem d_Mo_sub_126 : decode b_Mo_sub 126 = .ok (.getfield 187, 3) := by decide +kernel
theorem d_Mo_sub_129 : decode b_Mo_sub 129 = .ok (.aload_n 0, 1) := by decide +kernel
theorem d_Mo_sub_130 : decode b_Mo_sub 130 = .ok (.getfield 168, 3) := by decide +kernel
theorem d_Mo_sub_133 : decode b_Mo_sub 133 = .ok (.iload_n 1, 1) := by decide +kernel
theorem d_Mo_sub_134 : decode b_Mo_sub 134 = .ok (.iaload, 1) := by decide +kernel
theorem d_Mo_sub_135 : decode b_Mo_sub 135 = .ok (.lload_n 3, 1) := by decide +kernel
theorem d_Mo_sub_136 : decode b_Mo_sub 136 = .ok (.l2i, 1) := by decide +kernel
theorem d_Mo_sub_137 : decode b_Mo_sub 137 = .ok (.iadd, 1) := by decide +kernel
theorem d_Mo_sub_138 : decode b_Mo_sub 138 = .ok (.iconst 1, 1) := by decide +kernel
theorem d_Mo_sub_139 : decode b_Mo_sub 139 = .ok (.isub, 1) := by decide +kernel
theorem d_Mo_sub_140 : decode b_Mo_sub 140 = .ok (.lload 5, 2) := by decide +kernel
theorem d_Mo_sub_142 : decode b_Mo_sub 142 = .ok (.lload_n 3, 1) := by decide +kernel
theorem d_Mo_sub_143 : decode b_Mo_sub 143 = .ok (.lsub, 1) := by decide +kernel
theorem d_Mo_sub_144 : decode b_Mo_sub 144 = .ok (.lconst 1, 1) := by decide +kernel
theorem d_Mo_sub_145 : decode b_Mo_sub 145 = .ok (.ladd, 1) := by decide +kernel
theorem d_Mo_sub_146 : decode b_Mo_sub 146 = .ok (.l2i, 1) := by decide +kernel
theorem d_Mo_sub_147 : decode b_Mo_sub 147 = .ok (.invokevirtual 655, 3) := by decide +kernel
theorem d_Mo_sub_150 : decode b_Mo_sub 150 = .ok (.istore 7, 2) := by decide +kernel
theorem d_Mo_sub_152 : decode b_Mo_sub 152 = .ok (.iload 7, 2) := by decide +kernel
theorem d_Mo_sub_154 : decode b_Mo_sub 154 = .ok (.ifCond .lt 11, 3) := by decide +kernel
theorem d_Mo_sub_157 : decode b_Mo_sub 157 = .ok (.aload_n 0, 1) := by decide +kernel
theorem d_Mo_sub_158 : decode b_Mo_sub 158 = .ok (.iconst 4, 1) := by decide +kernel
theorem d_Mo_sub_159 : decode b_Mo_sub 159 = .ok (.iload 7, 2) := by decide +kernel
theorem d_Mo_sub_161 : decode b_Mo_sub 161 = .ok (.i2l, 1) := by decide +kernel
theorem d_Mo_sub_162 : decode b_Mo_sub 162 = .ok (.invokevirtual 804, 3) := by decide +kernel
theorem d_Mo_sub_165 : decode b_Mo_sub 165 = .ok (.return_, 1) := by decide +kernel
theorem kw_519 : Cond.methodLink R_Mo 863 y_Mth_max_ ∈ wA := kinm (show _ ∈ tables_1 from (List.mem_append_right _ (List.mem_append_right _ (List.mem_append_right _ (List.mem_append_right _ (List.mem_append_right _ (List.mem_append_right _ (List.mem_append_right _ (List.mem_append_right _ (List.mem_append_right _ (List.mem_append_right _ (List.mem_append_right _ (List.mem_append_right _ (List.mem_append_left _ (List.mem_of_getElem? (l := tables_1_13) (i := 41) (by decide +kernel)))))))))))))))) (by decide +kernel)
theorem kw_520 : Cond.methodLink R_Mo 865 y_Mth_min_ ∈ wA := kinm (show _ ∈ tables_1 from (List.mem_append_right _ (List.mem_append_right _ (List.mem_append_right _ (List.mem_append_right _ (List.mem_append_right _ (List.mem_append_right _ (List.mem_append_right _ (List.mem_append_right _ (List.mem_append_right _ (List.mem_append_right _ (List.mem_append_right _ (List.mem_append_right _ (List.mem_append_left _ (List.mem_of_getElem? (l := tables_1_13) (i := 42) (by decide +kernel)))))))))))))))) (by decide +kernel)
theorem kw_521 : Cond.methodLink R_Mo 655 y_Mo_string ∈ wA := kinm (show _ ∈ tables_1 from (List.mem_append_right _ (List.mem_append_right _ (List.mem_append_right _ (List.mem_append_right _ (List.mem_append_right _ (List.mem_append_right _ (List.mem_append_right _ (List.mem_append_right _ (List.mem_append_right _ (List.mem_append_right _ (List.mem_append_right _ (List.mem_append_left _ (List.mem_of_getElem? (l := tables_1_12) (i := 72) (by decide +kernel))))))))))))))) (by decide +kernel)
theorem kw_522 : Cond.instanceMethod y_Mo_sub ∈ wA := kinm (show _ ∈ tables_1 from (List.mem_append_right _ (List.mem_append_right _ (List.mem_append_right _ (List.mem_append_right _ (List.mem_append_right _ (List.mem_append_right _ (List.mem_append_right _ (List.mem_append_right _ (List.mem_append_right _ (List.mem_append_right _ (List.mem_append_right _ (List.mem_append_right _ (List.mem_append_left _ (List.mem_of_getElem? (l := tables_1_13) (i := 32) (by decide +kernel)))))))))))))))) (by decide +kernel)
theorem kw_523 : Cond.selects R_Mo y_Mo_sub y_Mo_sub ∈ wA := kinp 181 (by decide +kernel) (by decide +kernel)
theorem cv_Mo_sub : CV y_Mo_sub b_Mo_sub 8 none 0 := ⟨kw_522, kw_523, kw_17, k_Mo_sub, by decide +kernel⟩
theorem j_Mo_sub_j25 {X : Cx} {q : PL} (g : Gd X y_Mo_sub b_Mo_sub 8 none 8 181 R_Mo) {o : (Unit) × S1} (hR : Rt X q o.2 none)  (s : S1) (ls : Array Slot) (hl : lv_has ls 8 [(0, .ref (q.1 0 0))]) (h : M_Mo_sub_j25 s = some o) : WW X q s 25 ls [] := by
  unfold M_Mo_sub_j25 at h
  refine ww_aload_n (pc := 25) g.1 d_Mo_sub_25 rfl (lv_at hl 0 rfl) ?_
  refine ww_iconst (pc := 26) g.1 (v := 3) d_Mo_sub_26 (by decide) ?_
  obtain ⟨v27, s, hc27, h⟩ := oB_of h
  refine ww_callV (pc := 27) (rest := []) g cv_Mo_raise (Or.inl kw_157) cl_Mo (pz rfl (by decide)) (ct_Mo_raise hc27) ⟨by decide, by decide⟩ rfl hl.1 (Nat.le_of_ble_eq_true rfl) d_Mo_sub_27 rfl ?_
  refine ww_st (st' := [.int v27]) rfl ?_
  refine ww_pop (pc := 30) g.1 d_Mo_sub_30 rfl ?_
  exact ww_vretH (pc := 31) g h hR d_Mo_sub_31

theorem j_Mo_sub_j150 {X : Cx} {q : PL} (g : Gd X y_Mo_sub b_Mo_sub 8 none 8 181 R_Mo) {o : (Unit) × S1} (hR : Rt X q o.2 none) (k0 : Int32) (s : S1) (ls : Array Slot) (hl : lv_has ls 8 [(0, .ref (q.1 0 0))]) (h : M_Mo_sub_j150 k0 s = some o) : WW X q s 150 ls [.int k0] := by
  unfold M_Mo_sub_j150 at h
  refine ww_istore (pc := 150) (i := 7) g.1 (lv' := [(7, .int k0), (0, .ref (q.1 0 0))]) d_Mo_sub_150 hl (by decide) rfl fun ls hl => ?_
  refine ww_iload (pc := 152) g.1 d_Mo_sub_152 (lv_at hl 0 rfl) ?_
  refine ww_if_lt (pc := 154) (tgt := 165) g.1 d_Mo_sub_154 (by decide) h (fun c h => ?_) (fun c h => ?_)
  · exact ww_vretH (pc := 165) g h hR d_Mo_sub_165
  · refine ww_aload_n (pc := 157) g.1 d_Mo_sub_157 rfl (lv_at hl 1 rfl) ?_
    refine ww_iconst (pc := 158) g.1 (v := 4) d_Mo_sub_158 (by decide) ?_
    refine ww_iload (pc := 159) g.1 d_Mo_sub_159 (lv_at hl 0 rfl) ?_
    refine ww_i2l (pc := 161) g.1 (v := k0.toInt64) d_Mo_sub_161 rfl ?_
    obtain ⟨v162, s, hc162, h⟩ := oB_of h
    refine ww_callV (pc := 162) (rest := []) g cv_Mo_give (Or.inl kw_212) cl_Mo (pz rfl (by decide)) (ct_Mo_give hc162) ⟨by decide, by decide⟩ rfl hl.1 (Nat.le_of_ble_eq_true rfl) d_Mo_sub_162 rfl ?_
    refine ww_st (st' := []) rfl ?_
    exact ww_vretH (pc := 165) g h hR d_Mo_sub_165

theorem j_Mo_sub_j95 {X : Cx} {q : PL} (g : Gd X y_Mo_sub b_Mo_sub 8 none 8 181 R_Mo) {o : (Unit) × S1} (hR : Rt X q o.2 none) (l1 : Int32) (l2 : Int32) (l3 : Int64) (k0 : Int64) (k1 : Int64) (s : S1) (ls : Array Slot) (hl : lv_has ls 8 [(0, .ref (q.1 0 0)), (1, .int l1), (2, .int l2), (3, .long l3)]) (h : M_Mo_sub_j95 l1 l2 l3 k0 k1 s = some o) : WW X q s 95 ls [.long k0, .long k1] := by
  unfold M_Mo_sub_j95 at h
  refine ww_iload_n (pc := 95) g.1 d_Mo_sub_95 rfl (lv_at hl 2 rfl) ?_
  obtain ⟨v96, s, hc96, h⟩ := oB_of h
  refine ww_callS (pc := 96) (rest := [.long k1]) g cs_Mo_from (Or.inl kw_211) (ct_Mo_from hc96) ⟨by decide, by decide⟩ rfl hl.1 (Nat.le_of_ble_eq_true rfl) d_Mo_sub_96 rfl ?_
  refine ww_st (st' := [.long v96, .long k1]) rfl ?_
  obtain ⟨v99, s, hc99, h⟩ := oB_of h
  refine ww_callS (pc := 99) (rest := []) g cs_Mth_min_ (Or.inl kw_520) (ct_Mth_min_ hc99) ⟨by decide, by decide⟩ rfl hl.1 (Nat.le_of_ble_eq_true rfl) d_Mo_sub_99 rfl ?_
  refine ww_st (st' := [.long v99]) rfl ?_
  refine ww_lstore (pc := 102) (i := 5) g.1 (lv' := [(5, .long v99), (0, .ref (q.1 0 0)), (1, .int l1), (2, .int l2), (3, .long l3)]) d_Mo_sub_102 hl (by decide) rfl fun ls hl => ?_
  refine ww_lload_n (pc := 104) g.1 d_Mo_sub_104 rfl (lv_at hl 4 rfl) ?_
  refine ww_lload (pc := 105) g.1 d_Mo_sub_105 (lv_at hl 0 rfl) ?_
  refine ww_lcmp (pc := 107) g.1 d_Mo_sub_107 ?_
  refine ww_if_le (pc := 108) (tgt := 124) g.1 d_Mo_sub_108 (by decide) h (fun c h => ?_) (fun c h => ?_)
  · refine ww_aload_n (pc := 124) g.1 d_Mo_sub_124 rfl (lv_at hl 1 rfl) ?_
    refine ww_aload_n (pc := 125) g.1 d_Mo_sub_125 rfl (lv_at hl 1 rfl) ?_
    refine ww_gR (pc := 126) g (k := 55) cl_Mo (pz rfl (by decide)) (by decide) (Or.inl kw_200) (f := 55) (t := 67) rfl rfl rfl d_Mo_sub_126 ?_
    refine ww_aload_n (pc := 129) g.1 d_Mo_sub_129 rfl (lv_at hl 1 rfl) ?_
    refine ww_gR (pc := 130) g (k := 49) cl_Mo (pz rfl (by decide)) (by decide) (Or.inl kw_87) (f := 49) (t := 62) rfl rfl rfl d_Mo_sub_130 ?_
    refine ww_iload_n (pc := 133) g.1 d_Mo_sub_133 rfl (lv_at hl 2 rfl) ?_
    refine ww_ai (pc := 134) g (pz rfl (by decide)) rfl rfl d_Mo_sub_134 h fun v134 h => ?_
    refine ww_lload_n (pc := 135) g.1 d_Mo_sub_135 rfl (lv_at hl 4 rfl) ?_
    refine ww_l2i (pc := 136) g.1 (v := l3.toInt32) d_Mo_sub_136 rfl ?_
    refine ww_iadd (pc := 137) g.1 d_Mo_sub_137 ?_
    refine ww_iconst (pc := 138) g.1 (v := 1) d_Mo_sub_138 (by decide) ?_
    refine ww_isub (pc := 139) g.1 d_Mo_sub_139 ?_
    refine ww_lload (pc := 140) g.1 d_Mo_sub_140 (lv_at hl 0 rfl) ?_
    refine ww_lload_n (pc := 142) g.1 d_Mo_sub_142 rfl (lv_at hl 4 rfl) ?_
    refine ww_lsub (pc := 143) g.1 d_Mo_sub_143 ?_
    refine ww_lconst (pc := 144) g.1 (v := 1) d_Mo_sub_144 (by decide) ?_
    refine ww_ladd (pc := 145) g.1 d_Mo_sub_145 ?_
    refine ww_l2i (pc := 146) g.1 (v := ((v99 - l3) + 1).toInt32) d_Mo_sub_146 rfl ?_
    obtain ⟨v147, s, hc147, h⟩ := oB_of h
    refine ww_callV (pc := 147) (rest := []) g cv_Mo_string (Or.inl kw_521) cl_Mo (pz rfl (by decide)) (ct_Mo_string ⟨rfl, by decide, by decide⟩ (pz rfl (by decide)) hc147) ⟨by decide, by decide⟩ rfl hl.1 (Nat.le_of_ble_eq_true rfl) d_Mo_sub_147 rfl ?_
    refine ww_st (st' := [.int v147]) rfl ?_
    exact j_Mo_sub_j150 g hR v147 s ls (lv_sub hl [1] rfl) h
  · refine ww_aload_n (pc := 111) g.1 d_Mo_sub_111 rfl (lv_at hl 1 rfl) ?_
    refine ww_aload_n (pc := 112) g.1 d_Mo_sub_112 rfl (lv_at hl 1 rfl) ?_
    refine ww_gR (pc := 113) g (k := 55) cl_Mo (pz rfl (by decide)) (by decide) (Or.inl kw_200) (f := 55) (t := 67) rfl rfl rfl d_Mo_sub_113 ?_
    refine ww_iconst (pc := 116) g.1 (v := 0) d_Mo_sub_116 (by decide) ?_
    refine ww_iconst (pc := 117) g.1 (v := 0) d_Mo_sub_117 (by decide) ?_
    obtain ⟨v118, s, hc118, h⟩ := oB_of h
    refine ww_callV (pc := 118) (rest := []) g cv_Mo_string (Or.inl kw_521) cl_Mo (pz rfl (by decide)) (ct_Mo_string ⟨rfl, by decide, by decide⟩ (pz rfl (by decide)) hc118) ⟨by decide, by decide⟩ rfl hl.1 (Nat.le_of_ble_eq_true rfl) d_Mo_sub_118 rfl ?_
    refine ww_st (st' := [.int v118]) rfl ?_
    refine ww_goto (pc := 121) (tgt := 150) g.1 d_Mo_sub_121 (by decide) ?_
    exact j_Mo_sub_j150 g hR v118 s ls (lv_sub hl [1] rfl) h

theorem j_Mo_sub_j65 {X : Cx} {q : PL} (g : Gd X y_Mo_sub b_Mo_sub 8 none 8 181 R_Mo) {o : (Unit) × S1} (hR : Rt X q o.2 none) (l1 : Int32) (l2 : Int32) (k0 : Int64) (k1 : Int64) (s : S1) (ls : Array Slot) (hl : lv_has ls 8 [(0, .ref (q.1 0 0)), (1, .int l1), (2, .int l2)]) (h : M_Mo_sub_j65 l1 l2 k0 k1 s = some o) : WW X q s 65 ls [.long k0, .long k1] := by
  unfold M_Mo_sub_j65 at h
  refine ww_iload_n (pc := 65) g.1 d_Mo_sub_65 rfl (lv_at hl 2 rfl) ?_
  obtain ⟨v66, s, hc66, h⟩ := oB_of h
  refine ww_callS (pc := 66) (rest := [.long k1]) g cs_Mo_from (Or.inl kw_211) (ct_Mo_from hc66) ⟨by decide, by decide⟩ rfl hl.1 (Nat.le_of_ble_eq_true rfl) d_Mo_sub_66 rfl ?_
  refine ww_st (st' := [.long v66, .long k1]) rfl ?_
  obtain ⟨v69, s, hc69, h⟩ := oB_of h
  refine ww_callS (pc := 69) (rest := []) g cs_Mth_max_ (Or.inl kw_519) (ct_Mth_max_ hc69) ⟨by decide, by decide⟩ rfl hl.1 (Nat.le_of_ble_eq_true rfl) d_Mo_sub_69 rfl ?_
  refine ww_st (st' := [.long v69]) rfl ?_
  refine ww_lstore_n (pc := 72) (i := 3) g.1 (lv' := [(3, .long v69), (0, .ref (q.1 0 0)), (1, .int l1), (2, .int l2)]) d_Mo_sub_72 rfl hl (by decide) rfl fun ls hl => ?_
  refine ww_iload_n (pc := 73) g.1 d_Mo_sub_73 rfl (lv_at hl 3 rfl) ?_
  refine ww_i2l (pc := 74) g.1 (v := l2.toInt64) d_Mo_sub_74 rfl ?_
  refine ww_aload_n (pc := 75) g.1 d_Mo_sub_75 rfl (lv_at hl 1 rfl) ?_
  refine ww_iconst (pc := 76) g.1 (v := 2) d_Mo_sub_76 (by decide) ?_
  refine ww_iconst (pc := 77) g.1 (v := 0) d_Mo_sub_77 (by decide) ?_
  obtain ⟨v78, s, hc78, h⟩ := oB_of h
  refine ww_callV (pc := 78) (rest := [.long l2.toInt64]) g cv_Mo_is (Or.inl kw_206) cl_Mo (pz rfl (by decide)) (ct_Mo_is hc78) ⟨by decide, by decide⟩ rfl hl.1 (Nat.le_of_ble_eq_true rfl) d_Mo_sub_78 rfl ?_
  refine ww_st (st' := [.int v78, .long l2.toInt64]) rfl ?_
  refine ww_if_eq (pc := 81) (tgt := 90) g.1 d_Mo_sub_81 (by decide) h (fun c h => ?_) (fun c h => ?_)
  · refine ww_aload_n (pc := 90) g.1 d_Mo_sub_90 rfl (lv_at hl 1 rfl) ?_
    refine ww_iconst (pc := 91) g.1 (v := 2) d_Mo_sub_91 (by decide) ?_
    obtain ⟨v92, s, hc92, h⟩ := oB_of h
    refine ww_callV (pc := 92) (rest := [.long l2.toInt64]) g cv_Mo_av (Or.inl kw_193) cl_Mo (pz rfl (by decide)) (ct_Mo_av hc92) ⟨by decide, by decide⟩ rfl hl.1 (Nat.le_of_ble_eq_true rfl) d_Mo_sub_92 rfl ?_
    refine ww_st (st' := [.long v92, .long l2.toInt64]) rfl ?_
    exact j_Mo_sub_j95 g hR l1 l2 v69 v92 l2.toInt64 s ls (lv_sub hl [1, 2, 3, 0] rfl) h
  · refine ww_ldc2 (pc := 84) g (v := (-1)) kw_286 d_Mo_sub_84 ?_
    refine ww_goto (pc := 87) (tgt := 95) g.1 d_Mo_sub_87 (by decide) ?_
    exact j_Mo_sub_j95 g hR l1 l2 v69 (-1) l2.toInt64 s ls (lv_sub hl [1, 2, 3, 0] rfl) h

theorem ct_Mo_sub {l : Launch} {P : PP} {q : PL} {s s' : S1}  {r : Unit} (h : M_Mo_sub s = some (r, s')) : Ct l y_Mo_sub b_Mo_sub 8 none 8 181 P q s [.ref (q.1 0 0)] none q s' := by
  refine ct_of (by decide) (Nat.le_of_ble_eq_true rfl) fun X ls eP el g hR hl => ?_
  subst eP
  have hR : Rt X q ((r, s') : Unit × S1).2 none := hR
  have hl : lv_has ls 8 [(0, .ref (q.1 0 0))] := hl
  generalize (r, s') = o at h hR
  unfold M_Mo_sub at h
  refine ww_aload_n (pc := 0) g.1 d_Mo_sub_0 rfl (lv_at hl 0 rfl) ?_
  refine ww_iconst (pc := 1) g.1 (v := 0) d_Mo_sub_1 (by decide) ?_
  refine ww_iconst (pc := 2) g.1 (v := 4) d_Mo_sub_2 (by decide) ?_
  obtain ⟨v3, s, hc3, h⟩ := oB_of h
  refine ww_callV (pc := 3) (rest := []) g cv_Mo_is (Or.inl kw_206) cl_Mo (pz rfl (by decide)) (ct_Mo_is hc3) ⟨by decide, by decide⟩ rfl hl.1 (Nat.le_of_ble_eq_true rfl) d_Mo_sub_3 rfl ?_
  refine ww_st (st' := [.int v3]) rfl ?_
  refine ww_if_eq (pc := 6) (tgt := 25) g.1 d_Mo_sub_6 (by decide) h (fun c h => ?_) (fun c h => ?_)
  · exact j_Mo_sub_j25 g hR s ls (lv_sub hl [0] rfl) h
  · refine ww_aload_n (pc := 9) g.1 d_Mo_sub_9 rfl (lv_at hl 0 rfl) ?_
    refine ww_iconst (pc := 10) g.1 (v := 1) d_Mo_sub_10 (by decide) ?_
    obtain ⟨v11, s, hc11, h⟩ := oB_of h
    refine ww_callV (pc := 11) (rest := []) g cv_Mo_integer (Or.inl kw_210) cl_Mo (pz rfl (by decide)) (ct_Mo_integer hc11) ⟨by decide, by decide⟩ rfl hl.1 (Nat.le_of_ble_eq_true rfl) d_Mo_sub_11 rfl ?_
    refine ww_st (st' := [.int v11]) rfl ?_
    refine ww_if_eq (pc := 14) (tgt := 25) g.1 d_Mo_sub_14 (by decide) h (fun c h => ?_) (fun c h => ?_)
    · exact j_Mo_sub_j25 g hR s ls (lv_sub hl [0] rfl) h
    · refine ww_aload_n (pc := 17) g.1 d_Mo_sub_17 rfl (lv_at hl 0 rfl) ?_
      refine ww_iconst (pc := 18) g.1 (v := 2) d_Mo_sub_18 (by decide) ?_
      obtain ⟨v19, s, hc19, h⟩ := oB_of h
      refine ww_callV (pc := 19) (rest := []) g cv_Mo_integer (Or.inl kw_210) cl_Mo (pz rfl (by decide)) (ct_Mo_integer hc19) ⟨by decide, by decide⟩ rfl hl.1 (Nat.le_of_ble_eq_true rfl) d_Mo_sub_19 rfl ?_
      refine ww_st (st' := [.int v19]) rfl ?_
      refine ww_if_ne (pc := 22) (tgt := 32) g.1 d_Mo_sub_22 (by decide) h (fun c h => ?_) (fun c h => ?_)
      · refine ww_aload_n (pc := 32) g.1 d_Mo_sub_32 rfl (lv_at hl 0 rfl) ?_
        refine ww_iconst (pc := 33) g.1 (v := 0) d_Mo_sub_33 (by decide) ?_
        obtain ⟨v34, s, hc34, h⟩ := oB_of h
        refine ww_callV (pc := 34) (rest := []) g cv_Mo_av (Or.inl kw_193) cl_Mo (pz rfl (by decide)) (ct_Mo_av hc34) ⟨by decide, by decide⟩ rfl hl.1 (Nat.le_of_ble_eq_true rfl) d_Mo_sub_34 rfl ?_
        refine ww_st (st' := [.long v34]) rfl ?_
        refine ww_l2i (pc := 37) g.1 (v := v34.toInt32) d_Mo_sub_37 rfl ?_
        refine ww_istore_n (pc := 38) (i := 1) g.1 (lv' := [(1, .int v34.toInt32), (0, .ref (q.1 0 0))]) d_Mo_sub_38 rfl hl (by decide) rfl fun ls hl => ?_
        refine ww_aload_n (pc := 39) g.1 d_Mo_sub_39 rfl (lv_at hl 1 rfl) ?_
        refine ww_gR (pc := 40) g (k := 50) cl_Mo (pz rfl (by decide)) (by decide) (Or.inl kw_91) (f := 50) (t := 63) rfl rfl rfl d_Mo_sub_40 ?_
        refine ww_iload_n (pc := 43) g.1 d_Mo_sub_43 rfl (lv_at hl 0 rfl) ?_
        refine ww_ai (pc := 44) g (pz rfl (by decide)) rfl rfl d_Mo_sub_44 h fun v44 h => ?_
        refine ww_istore_n (pc := 45) (i := 2) g.1 (lv' := [(2, .int v44), (1, .int v34.toInt32), (0, .ref (q.1 0 0))]) d_Mo_sub_45 rfl hl (by decide) rfl fun ls hl => ?_
        refine ww_lconst (pc := 46) g.1 (v := 1) d_Mo_sub_46 (by decide) ?_
        refine ww_aload_n (pc := 47) g.1 d_Mo_sub_47 rfl (lv_at hl 2 rfl) ?_
        refine ww_iconst (pc := 48) g.1 (v := 1) d_Mo_sub_48 (by decide) ?_
        refine ww_iconst (pc := 49) g.1 (v := 0) d_Mo_sub_49 (by decide) ?_
        obtain ⟨v50, s, hc50, h⟩ := oB_of h
        refine ww_callV (pc := 50) (rest := [.long 1]) g cv_Mo_is (Or.inl kw_206) cl_Mo (pz rfl (by decide)) (ct_Mo_is hc50) ⟨by decide, by decide⟩ rfl hl.1 (Nat.le_of_ble_eq_true rfl) d_Mo_sub_50 rfl ?_
        refine ww_st (st' := [.int v50, .long 1]) rfl ?_
        refine ww_if_eq (pc := 53) (tgt := 60) g.1 d_Mo_sub_53 (by decide) h (fun c h => ?_) (fun c h => ?_)
        · refine ww_aload_n (pc := 60) g.1 d_Mo_sub_60 rfl (lv_at hl 2 rfl) ?_
          refine ww_iconst (pc := 61) g.1 (v := 1) d_Mo_sub_61 (by decide) ?_
          obtain ⟨v62, s, hc62, h⟩ := oB_of h
          refine ww_callV (pc := 62) (rest := [.long 1]) g cv_Mo_av (Or.inl kw_193) cl_Mo (pz rfl (by decide)) (ct_Mo_av hc62) ⟨by decide, by decide⟩ rfl hl.1 (Nat.le_of_ble_eq_true rfl) d_Mo_sub_62 rfl ?_
          refine ww_st (st' := [.long v62, .long 1]) rfl ?_
          exact j_Mo_sub_j65 g hR v34.toInt32 v44 v62 1 s ls (lv_sub hl [2, 1, 0] rfl) h
        · refine ww_lconst (pc := 56) g.1 (v := 1) d_Mo_sub_56 (by decide) ?_
          refine ww_goto (pc := 57) (tgt := 65) g.1 d_Mo_sub_57 (by decide) ?_
          exact j_Mo_sub_j65 g hR v34.toInt32 v44 1 1 s ls (lv_sub hl [2, 1, 0] rfl) h
      · exact j_Mo_sub_j25 g hR s ls (lv_sub hl [0] rfl) h


