abbrev b_Mo_goesOn : ByteArray := prog_14_method_80_code
def y_Mo_goesOn : MethodName := ⟨R_Mo, "goesOn", "(LLuaMachineModel$Thread_;IIII)V"⟩
abbrev w_Mo_goesOn : List Cond := .code y_Mo_goesOn b_Mo_goesOn 7 none :: wA
set_option maxRecDepth 20000 in
theorem k_Mo_goesOn : Cond.code y_Mo_goesOn b_Mo_goesOn 7 none ∈ wA := kinm (show _ ∈ tables_1 from (List.mem_append_right _ (List.mem_append_right _ (List.mem_append_right _ (List.mem_append_right _ (List.mem_append_right _ (List.mem_append_right _ (List.mem_append_right _ (List.mem_append_right _ (List.mem_append_right _ (List.mem_append_right _ (List.mem_append_right _ (List.mem_append_right _ (List.mem_append_left _ (List.mem_of_getElem? (l := tables_1_13) (i := 63) rfl))))))))))))))) rfl
theorem d_Mo_goesOn_0 : decode b_Mo_goesOn 0 = .ok (.aload_n 1, 1) := by decide +kernel
theorem d_Mo_goesOn_1 : decode b_Mo_goesOn 1 = .ok (.getfield 615, 3) := by decide +kernel
theorem d_Mo_goesOn_4 : decode b_Mo_goesOn 4 = .ok (.iload_n 2, 1) := by decide +kernel
theorem d_Mo_goesOn_5 : decode b_Mo_goesOn 5 = .ok (.if_icmp .ne 20, 3) := by decide +kernel
theorem d_Mo_goesOn_8 : decode b_Mo_goesOn 8 = .ok (.aload_n 1, 1) := by decide +kernel
theorem d_Mo_goesOn_9 : decode b_Mo_goesOn 9 = .ok (.getfield 694, 3) := by decide +kernel
theorem d_Mo_goesOn_12 : decode b_Mo_goesOn 12 = .ok (.ifCond .ne 13, 3) := by decide +kernel
theorem d_Mo_goesOn_15 : decode b_Mo_goesOn 15 = .ok (.aload_n 1, 1) := by decide +kernel
theorem d_Mo_goesOn_16 : decode b_Mo_goesOn 16 = .ok (.aload_n 0, 1) := by decide +kernel
theorem d_Mo_goesOn_17 : decode b_Mo_goesOn 17 = .ok (.getfield 239, 3) := by decide +kernel
theorem d_Mo_goesOn_20 : decode b_Mo_goesOn 20 = .ok (.iconst 0, 1) := by decide +kernel
theorem d_Mo_goesOn_21 : decode b_Mo_goesOn 21 = .ok (.aaload, 1) := by decide +kernel
theorem d_Mo_goesOn_22 : decode b_Mo_goesOn 22 = .ok (.if_acmp .ne 58, 3) := by decide +kernel
theorem d_Mo_goesOn_25 : decode b_Mo_goesOn 25 = .ok (.aload_n 0, 1) := by decide +kernel
theorem d_Mo_goesOn_26 : decode b_Mo_goesOn 26 = .ok (.getfield 259, 3) := by decide +kernel
theorem d_Mo_goesOn_29 : decode b_Mo_goesOn 29 = .ok (.iconst 0, 1) := by decide +kernel
theorem d_Mo_goesOn_30 : decode b_Mo_goesOn 30 = .ok (.putfield 569, 3) := by decide +kernel
theorem d_Mo_goesOn_33 : decode b_Mo_goesOn 33 = .ok (.iload_n 3, 1) := by decide +kernel
theorem d_Mo_goesOn_34 : decode b_Mo_goesOn 34 = .ok (.iconst 3, 1) := by decide +kernel
theorem d_Mo_goesOn_35 : decode b_Mo_goesOn 35 = .ok (.if_icmp .ne 11, 3) := by decide +kernel
theorem d_Mo_goesOn_38 : decode b_Mo_goesOn 38 = .ok (.aload_n 0, 1) := by decide +kernel
theorem d_Mo_goesOn_39 : decode b_Mo_goesOn 39 = .ok (.bipush 9, 2) := by decide +kernel
theorem d_Mo_goesOn_41 : decode b_Mo_goesOn 41 = .ok (.invokevirtual 517, 3) := by decide +kernel
theorem d_Mo_goesOn_44 : decode b_Mo_goesOn 44 = .ok (.pop, 1) := by decide +kernel
theorem d_Mo_goesOn_45 : decode b_Mo_goesOn 45 = .ok (.return_, 1) := by decide +kernel
theorem d_Mo_goesOn_46 : decode b_Mo_goesOn 46 = .ok (.aload_n 0, 1) := by decide +kernel
theorem d_Mo_goesOn_47 : decode b_Mo_goesOn 47 = .ok (.getfield 262, 3) := by decide +kernel
theorem d_Mo_goesOn_50 : decode b_Mo_goesOn 50 = .ok (.iconst 0, 1) := by decide +kernel
theorem d_Mo_goesOn_51 : decode b_Mo_goesOn 51 = .ok (.putfield 569, 3) := by decide +kernel
theorem d_Mo_goesOn_54 : decode b_Mo_goesOn 54 = .ok (.aload_n 0, 1) := by decide +kernel
theorem d_Mo_goesOn_55 : decode b_Mo_goesOn 55 = .ok (.getfield 262, 3) := by decide +kernel
theorem d_Mo_goesOn_58 : decode b_Mo_goesOn 58 = .ok (.iconst 1, 1) := by decide +kernel
theorem d_Mo_goesOn_59 : decode b_Mo_goesOn 59 = .ok (.lconst 0, 1) := by decide +kernel
theorem d_Mo_goesOn_60 : decode b_Mo_goesOn 60 = .ok (.invokevirtual 572, 3) := by decide +kernel
theorem d_Mo_goesOn_63 : decode b_Mo_goesOn 63 = .ok (.aload_n 0, 1) := by decide +kernel
theorem d_Mo_goesOn_64 : decode b_Mo_goesOn 64 = .ok (.getfield 262, 3) := by decide +kernel
theorem d_Mo_goesOn_67 : decode b_Mo_goesOn 67 = .ok (.iconst 3, 1) := by decide +kernel
theorem d_Mo_goesOn_68 : decode b_Mo_goesOn 68 = .ok (.ldc2_w 792, 3) := by decide +kernel
theorem d_Mo_goesOn_71 : decode b_Mo_goesOn 71 = .ok (.invokevirtual 572, 3) := by decide +kernel
theorem d_Mo_goesOn_74 : decode b_Mo_goesOn 74 = .ok (.aload_n 0, 1) := by decide +kernel
theorem d_Mo_goesOn_75 : decode b_Mo_goesOn 75 = .ok (.iconst 2, 1) := by decide +kernel
theorem d_Mo_goesOn_76 : decode b_Mo_goesOn 76 = .ok (.putfield 247, 3) := by decide +kernel
theorem d_Mo_goesOn_79 : decode b_Mo_goesOn 79 = .ok (.return_, 1) := by decide +kernel
theorem d_Mo_goesOn_80 : decode b_Mo_goesOn 80 = .ok (.aload_n 0, 1) := by decide +kernel
theorem d_Mo_goesOn_81 : decode b_Mo_goesOn 81 = .ok (.iload_n 3, 1) := by decide +kernel
theorem d_Mo_goesOn_82 : decode b_Mo_goesOn 82 = .ok (.iload 4, 2) := by decide +kernel
theorem d_Mo_goesOn_84 : decode b_Mo_goesOn 84 = .ok (.invokevirtual 755, 3) := by decide +kernel
theorem d_Mo_goesOn_87 : decode b_Mo_goesOn 87 = .ok (.ifCond .ne 12, 3) := by decide +kernel
theorem d_Mo_goesOn_90 : decode b_Mo_goesOn 90 = .ok (.aload_n 0, 1) := by decide +kernel
theorem d_Mo_goesOn_91 : decode b_Mo_goesOn 91 = .ok (.getfield 259, 3) := by decide +kernel
theorem d_Mo_goesOn_94 : decode b_Mo_goesOn 94 = .ok (.iconst 0, 1) := by decide +kernel
theorem d_Mo_goesOn_95 : decode b_Mo_goesOn 95 = .ok (.putfield 569, 3) := by decide +kernel
theorem d_Mo_goesOn_98 : decode b_Mo_goesOn 98 = .ok (.return_, 1) := by decide +kernel
theorem d_Mo_goesOn_99 : decode b_Mo_goesOn 99 = .ok (.aload_n 1, 1) := by decide +kernel
theorem d_Mo_goesOn_100 : decode b_Mo_goesOn 100 = .ok (.aload_n 0, 1) := by decide +kernel
theorem d_Mo_goesOn_101 : decode b_Mo_goesOn 101 = .ok (.getfield 243, 3) := by decide +kernel
theorem d_Mo_goesOn_104 : decode b_Mo_goesOn 104 = .ok (.putfield 617, 3) := by decide +kernel
theorem d_Mo_goesOn_107 : decode b_Mo_goesOn 107 = .ok (.aload_n 0, 1) := by decide +kernel
theorem d_Mo_goesOn_108 : decode b_Mo_goesOn 108 = .ok (.getfield 243, 3) := by decide +kernel
theorem d_Mo_goesOn_111 : decode b_Mo_goesOn 111 = .ok (.iconst 2, 1) := by decide +kernel
theorem d_Mo_goesOn_112 : decode b_Mo_goesOn 112 = .ok (.putfield 694, 3) := by decide +kernel
theorem d_Mo_goesOn_115 : decode b_Mo_goesOn 115 = .ok (.aload_n 1, 1) := by decide +kernel
theorem d_Mo_goesOn_116 : decode b_Mo_goesOn 116 = .ok (.iconst 1, 1) := by decide +kernel
theorem d_Mo_goesOn_117 : decode b_Mo_goesOn 117 = .ok (.putfield 694, 3) := by decide +kernel
theorem d_Mo_goesOn_120 : decode b_Mo_goesOn 120 = .ok (.aload_n 0, 1) := by decide +kernel
theorem d_Mo_goesOn_121 : decode b_Mo_goesOn 121 = .ok (.aload_n 1, 1) := by decide +kernel
theorem d_Mo_goesOn_122 : decode b_Mo_goesOn 122 = .ok (.putfield 243, 3) := by decide +kernel
theorem d_Mo_goesOn_125 : decode b_Mo_goesOn 125 = .ok (.aload_n 1, 1) := by decide +kernel
theorem d_Mo_goesOn_126 : decode b_Mo_goesOn 126 = .ok (.getfield 697, 3) := by decide +kernel
theorem d_Mo_goesOn_129 : decode b_Mo_goesOn 129 = .ok (.ifCond .eq 60, 3) := by decide +kernel
theorem d_Mo_goesOn_132 : decode b_Mo_goesOn 132 = .ok (.aload_n 0, 1) := by decide +kernel
theorem d_Mo_goesOn_133 : decode b_Mo_goesOn 133 = .ok (.getfield 262, 3) := by decide +kernel
theorem d_Mo_goesOn_136 : decode b_Mo_goesOn 136 = .ok (.iconst 0, 1) := by decide +kernel
theorem d_Mo_goesOn_137 : decode b_Mo_goesOn 137 = .ok (.putfield 569, 3) := by decide +kernel
theorem d_Mo_goesOn_140 : decode b_Mo_goesOn 140 = .ok (.iload 5, 2) := by decide +kernel
theorem d_Mo_goesOn_142 : decode b_Mo_goesOn 142 = .ok (.istore 6, 2) := by decide +kernel
theorem d_Mo_goesOn_144 : decode b_Mo_goesOn 144 = .ok (.iload 6, 2) := by decide +kernel
theorem d_Mo_goesOn_146 : decode b_Mo_goesOn 146 = .ok (.aload_n 0, 1) := by decide +kernel
theorem d_Mo_goesOn_147 : decode b_Mo_goesOn 147 = .ok (.getfield 259, 3) := by decide +kernel
theorem d_Mo_goesOn_150 : decode b_Mo_goesOn 150 = .ok (.getfield 569, 3) := by decide +kernel
theorem d_Mo_goesOn_153 : decode b_Mo_goesOn 153 = .ok (.if_icmp .ge 22, 3) := by decide +kernel
theorem d_Mo_goesOn_156 : decode b_Mo_goesOn 156 = .ok (.aload_n 0, 1) := by decide +kernel
theorem d_Mo_goesOn_157 : decode b_Mo_goesOn 157 = .ok (.getfield 262, 3) := by decide +kernel
theorem d_Mo_goesOn_160 : decode b_Mo_goesOn 160 = .ok (.aload_n 0, 1) := by decide +kernel
theorem d_Mo_goesOn_161 : decode b_Mo_goesOn 161 = .ok (.getfield 259, 3) := by decide +kernel
theorem d_Mo_goesOn_164 : decode b_Mo_goesOn 164 = .ok (.iload 6, 2) := by decide +kernel
theorem d_Mo_goesOn_166 : decode b_Mo_goesOn 166 = .ok (.invokevirtual 770, 3) := by decide +kernel
theorem d_Mo_goesOn_169 : decode b_Mo_goesOn 169 = .ok (.iinc 6 1, 3) := by decide +kernel
theorem d_Mo_goesOn_172 : decode b_Mo_goesOn 172 = .ok (.goto (-28), 3) := by decide +kernel
theorem d_Mo_goesOn_175 : decode b_Mo_goesOn 175 = .ok (.aload_n 0, 1) := by decide +kernel
theorem d_Mo_goesOn_176 : decode b_Mo_goesOn 176 = .ok (.getfield 259, 3) := by decide +kernel
theorem d_Mo_goesOn_179 : decode b_Mo_goesOn 179 = .ok (.iconst 0, 1) := by decide +kernel
theorem d_Mo_goesOn_180 : decode b_Mo_goesOn 180 = .ok (.putfield 569, 3) := by decide +kernel
theorem d_Mo_goesOn_183 : decode b_Mo_goesOn 183 = .ok (.aload_n 0, 1) := by decide +kernel
theorem d_Mo_goesOn_184 : decode b_Mo_goesOn 184 = .ok (.iconst 2, 1) := by decide +kernel
theorem d_Mo_goesOn_185 : decode b_Mo_goesOn 185 = .ok (.putfield 247, 3) := by decide +kernel
theorem d_Mo_goesOn_188 : decode b_Mo_goesOn 188 = .ok (.return_, 1) := by decide +kernel
theorem d_Mo_goesOn_189 : decode b_Mo_goesOn 189 = .ok (.aload_n 1, 1) := by decide +kernel
theorem d_Mo_goesOn_190 : decode b_Mo_goesOn 190 = .ok (.iconst 1, 1) := by decide +kernel
theorem d_Mo_goesOn_191 : decode b_Mo_goesOn 191 = .ok (.putfield 697, 3) := by decide +kernel
theorem d_Mo_goesOn_194 : decode b_Mo_goesOn 194 = .ok (.aload_n 0, 1) := by decide +kernel
theorem d_Mo_goesOn_195 : decode b_Mo_goesOn 195 = .ok (.aload_n 1, 1) := by decide +kernel
theorem d_Mo_goesOn_196 : decode b_Mo_goesOn 196 = .ok (.getfield 794, 3) := by decide +kernel
theorem d_Mo_goesOn_199 : decode b_Mo_goesOn 199 = .ok (.getfield 585, 3) := by decide +kernel
theorem d_Mo_goesOn_202 : decode b_Mo_goesOn 202 = .ok (.iconst 0, 1) := by decide +kernel
theorem d_Mo_goesOn_203 : decode b_Mo_goesOn 203 = .ok (.baload, 1) := by decide +kernel
theorem d_Mo_goesOn_204 : decode b_Mo_goesOn 204 = .ok (.putfield 253, 3) := by decide +kernel
theorem d_Mo_goesOn_207 : decode b_Mo_goesOn 207 = .ok (.aload_n 0, 1) := by decide +kernel
theorem d_Mo_goesOn_208 : decode b_Mo_goesOn 208 = .ok (.aload_n 1, 1) := by decide +kernel
theorem d_Mo_goesOn_209 : decode b_Mo_goesOn 209 = .ok (.getfield 794, 3) := by decide +kernel
theorem d_Mo_goesOn_212 : decode b_Mo_goesOn 212 = .ok (.getfield 588, 3) := by decide +kernel
theorem d_Mo_goesOn_215 : decode b_Mo_goesOn 215 = .ok (.iconst 0, 1) := by decide +kernel
theorem d_Mo_goesOn_216 : decode b_Mo_goesOn 216 = .ok (.laload, 1) := by decide +kernel
theorem d_Mo_goesOn_217 : decode b_Mo_goesOn 217 = .ok (.putfield 256, 3) := by decide +kernel
theorem d_Mo_goesOn_220 : decode b_Mo_goesOn 220 = .ok (.aload_n 1, 1) := by decide +kernel
theorem d_Mo_goesOn_221 : decode b_Mo_goesOn 221 = .ok (.getfield 794, 3) := by decide +kernel
theorem d_Mo_goesOn_224 : decode b_Mo_goesOn 224 = .ok (.iconst 0, 1) := by decide +kernel
theorem d_Mo_goesOn_225 : decode b_Mo_goesOn 225 = .ok (.putfield 569, 3) := by decide +kernel
theorem d_Mo_goesOn_228 : decode b_Mo_goesOn 228 = .ok (.iload 5, 2) := by decide +kernel
theorem d_Mo_goesOn_230 : decode b_Mo_goesOn 230 = .ok (.istore 6, 2) := by decide +kernel
theorem d_Mo_goesOn_232 : decode b_Mo_goesOn 232 = .ok (.iload 6, 2) := by decide +kernel
theorem d_Mo_goesOn_234 : decode b_Mo_goesOn 234 = .ok (.aload_n 0, 1) := by decide +kernel
theorem d_Mo_goesOn_235 : decode b_Mo_goesOn 235 = .ok (.getfield 259, 3) := by decide +kernel
theorem d_Mo_goesOn_238 : decode b_Mo_goesOn 238 = .ok (.getfield 569, 3) := by decide +kernel
theorem d_Mo_goesOn_241 : decode b_Mo_goesOn 241 = .ok (.if_icmp .ge 27, 3) := by decide +kernel
theorem d_Mo_goesOn_244 : decode b_Mo_goesOn 244 = .ok (.aload_n 0, 1) := by decide +kernel
theorem d_Mo_goesOn_245 : decode b_Mo_goesOn 245 = .ok (.getfield 259, 3) := by decide +kernel
theorem d_Mo_goesOn_248 : decode b_Mo_goesOn 248 = .ok (.iload 6, 2) := by decide +kernel
theorem d_Mo_goesOn_250 : decode b_Mo_goesOn 250 = .ok (.iload 5, 2) := by decide +kernel
theorem d_Mo_goesOn_252 : decode b_Mo_goesOn 252 = .ok (.isub, 1) := by decide +kernel
theorem d_Mo_goesOn_253 : decode b_Mo_goesOn 253 = .ok (.aload_n 0, 1) := by decide +kernel
theorem d_Mo_goesOn_254 : decode b_Mo_goesOn 254 = .ok (.getfield 259, 3) := by decide +kernel
theorem d_Mo_goesOn_257 : decode b_Mo_goesOn 257 = .ok (.iload 6, 2) := by decide +kernel
theorem d_Mo_goesOn_259 : decode b_Mo_goesOn 259 = .ok (.invokevirtual 719, 3) := by decide +kernel
theorem d_Mo_goesOn_262 : decode b_Mo_goesOn 262 = .ok (.iinc 6 1, 3) := by decide +kernel
theorem d_Mo_goesOn_265 : decode b_Mo_goesOn 265 = .ok (.goto (-33), 3) := by decide +kernel
theorem d_Mo_goesOn_268 : decode b_Mo_goesOn 268 = .ok (.aload_n 0, 1) := by decide +kernel
theorem d_Mo_goesOn_269 : decode b_Mo_goesOn 269 = .ok (.getfield 259, 3) := by decide +kernel
theorem d_Mo_goesOn_272 : decode b_Mo_goesOn 272 = .ok (.dup, 1) := by decide +kernel
theorem d_Mo_goesOn_273 : decode b_Mo_goesOn 273 = .ok (.getfield 569, 3) := by decide +kernel
theorem d_Mo_goesOn_276 : decode b_Mo_goesOn 276 = .ok (.iload 5, 2) := by decide +kernel
theorem d_Mo_goesOn_278 : decode b_Mo_goesOn 278 = .ok (.isub, 1) := by decide +kernel
theorem d_Mo_goesOn_279 : decode b_Mo_goesOn 279 = .ok (.putfield 569, 3) := by decide +kernel
theorem d_Mo_goesOn_282 : decode b_Mo_goesOn 282 = .ok (.aload_n 0, 1) := by decide +kernel
theorem d_Mo_goesOn_283 : decode b_Mo_goesOn 283 = .ok (.iconst 1, 1) := by decide +kernel
theorem d_Mo_goesOn_284 : decode b_Mo_goesOn 284 = .ok (.putfield 247, 3) := by decide +kernel
theorem d_Mo_goesOn_287 : decode b_Mo_goesOn 287 = .ok (.return_, 1) := by decide +kernel
theorem kw_215 : Cond.constantLong R_Mo 792 9 ∈ wA := kinm (show _ ∈ tables_1 from (List.mem_append_right _ (List.mem_append_right _ (List.mem_append_right _ (List.mem_append_right _ (List.mem_append_right _ (List.mem_append_right _ (List.mem_append_right _ (List.mem_append_right _ (List.mem_append_right _ (List.mem_append_right _ (List.mem_append_right _ (List.mem_append_right _ (List.mem_append_left _ (List.mem_of_getElem? (l := tables_1_13) (i := 64) (by decide +kernel)))))))))))))))) (by decide +kernel)
theorem kw_216 : Cond.fieldLink R_Mo 615 "LuaMachineModel$Thread_" "place" "I" ∈ wA := kinm (show _ ∈ tables_1 from (List.mem_append_right _ (List.mem_append_right _ (List.mem_append_right _ (List.mem_append_right _ (List.mem_append_right _ (List.mem_append_right _ (List.mem_append_right _ (List.mem_append_right _ (List.mem_append_left _ (List.mem_of_getElem? (l := tables_1_9) (i := 206) (by decide +kernel)))))))))))) (by decide +kernel)
theorem kw_217 : Cond.fieldLink R_Mo 694 "LuaMachineModel$Thread_" "state" "I" ∈ wA := kinm (show _ ∈ tables_1 from (List.mem_append_right _ (List.mem_append_right _ (List.mem_append_right _ (List.mem_append_right _ (List.mem_append_right _ (List.mem_append_right _ (List.mem_append_right _ (List.mem_append_right _ (List.mem_append_left _ (List.mem_of_getElem? (l := tables_1_9) (i := 208) (by decide +kernel)))))))))))) (by decide +kernel)
theorem kw_218 : Cond.fieldLink R_Mo 617 "LuaMachineModel$Thread_" "resumer" "LLuaMachineModel$Thread_;" ∈ wA := kinm (show _ ∈ tables_1 from (List.mem_append_right _ (List.mem_append_right _ (List.mem_append_right _ (List.mem_append_right _ (List.mem_append_right _ (List.mem_append_right _ (List.mem_append_right _ (List.mem_append_right _ (List.mem_append_left _ (List.mem_of_getElem? (l := tables_1_9) (i := 217) (by decide +kernel)))))))))))) (by decide +kernel)
theorem kw_219 : Cond.fieldLink R_Mo 697 "LuaMachineModel$Thread_" "begun" "Z" ∈ wA := kinm (show _ ∈ tables_1 from (List.mem_append_right _ (List.mem_append_right _ (List.mem_append_right _ (List.mem_append_right _ (List.mem_append_right _ (List.mem_append_right _ (List.mem_append_right _ (List.mem_append_right _ (List.mem_append_left _ (List.mem_of_getElem? (l := tables_1_9) (i := 215) (by decide +kernel)))))))))))) (by decide +kernel)
theorem kw_220 : Cond.fieldLink R_Mo 794 "LuaMachineModel$Thread_" "start" "LLuaMachineModel$Values;" ∈ wA := kinm (show _ ∈ tables_1 from (List.mem_append_right _ (List.mem_append_right _ (List.mem_append_right _ (List.mem_append_right _ (List.mem_append_right _ (List.mem_append_right _ (List.mem_append_right _ (List.mem_append_right _ (List.mem_append_left _ (List.mem_of_getElem? (l := tables_1_9) (i := 223) (by decide +kernel)))))))))))) (by decide +kernel)
theorem kw_221 : Cond.methodLink R_Mo 770 y_Va_add_ ∈ wA := kinm (show _ ∈ tables_1 from (List.mem_append_right _ (List.mem_append_right _ (List.mem_append_right _ (List.mem_append_right _ (List.mem_append_right _ (List.mem_append_right _ (List.mem_append_right _ (List.mem_append_right _ (List.mem_append_right _ (List.mem_append_right _ (List.mem_append_right _ (List.mem_append_right _ (List.mem_append_left _ (List.mem_of_getElem? (l := tables_1_13) (i := 25) (by decide +kernel)))))))))))))))) (by decide +kernel)
theorem kw_222 : Cond.instanceMethod y_Mo_goesOn ∈ wA := kinm (show _ ∈ tables_1 from (List.mem_append_right _ (List.mem_append_right _ (List.mem_append_right _ (List.mem_append_right _ (List.mem_append_right _ (List.mem_append_right _ (List.mem_append_right _ (List.mem_append_right _ (List.mem_append_right _ (List.mem_append_right _ (List.mem_append_right _ (List.mem_append_right _ (List.mem_append_left _ (List.mem_of_getElem? (l := tables_1_13) (i := 62) (by decide +kernel)))))))))))))))) (by decide +kernel)
theorem kw_223 : Cond.selects R_Mo y_Mo_goesOn y_Mo_goesOn ∈ wA := kinp 187 (by decide +kernel) (by decide +kernel)
theorem cv_Mo_goesOn : CV y_Mo_goesOn b_Mo_goesOn 7 none 5 := ⟨kw_222, kw_223, kw_17, k_Mo_goesOn, by decide +kernel⟩
theorem j_Mo_goesOn_j25 {X : Cx} {q : PL} (g : Gd X y_Mo_goesOn b_Mo_goesOn 7 none 2 45 R_Mo) {o : (Unit) × S1} (hR : Rt X q o.2 none) (l3 : Int32) (s : S1) (ls : Array Slot) (hl : lv_has ls 7 [(0, .ref (q.1 0 0)), (3, .int l3)]) (h : M_Mo_goesOn_j25 l3 s = some o) : WW X q s 25 ls [] := by
  unfold M_Mo_goesOn_j25 at h
  refine ww_aload_n (pc := 25) g.1 d_Mo_goesOn_25 rfl (lv_at hl 0 rfl) ?_
  refine ww_gR (pc := 26) g (k := 77) cl_Mo (pz rfl (by decide)) (by decide) (Or.inl kw_182) (f := 77) (t := 7) rfl rfl rfl d_Mo_goesOn_26 ?_
  refine ww_iconst (pc := 29) g.1 (v := 0) d_Mo_goesOn_29 (by decide) ?_
  refine ww_pI (pc := 30) g (k := 2) (cl_Va (Or.inl ⟨by decide, rfl⟩)) (pz rfl (by decide)) (by decide) (Or.inl kw_179) rfl (f := 898) rfl rfl rfl rfl d_Mo_goesOn_30 h fun s hs h => ?_
  refine ww_iload_n (pc := 33) g.1 d_Mo_goesOn_33 rfl (lv_at hl 1 rfl) ?_
  refine ww_iconst (pc := 34) g.1 (v := 3) d_Mo_goesOn_34 (by decide) ?_
  refine ww_icmp_ne (pc := 35) (tgt := 46) g.1 d_Mo_goesOn_35 (by decide) h (fun c h => ?_) (fun c h => ?_)
  · refine ww_aload_n (pc := 46) g.1 d_Mo_goesOn_46 rfl (lv_at hl 0 rfl) ?_
    refine ww_gR (pc := 47) g (k := 78) cl_Mo (pz rfl (by decide)) (by decide) (Or.inl kw_178) (f := 78) (t := 10) rfl rfl rfl d_Mo_goesOn_47 ?_
    refine ww_iconst (pc := 50) g.1 (v := 0) d_Mo_goesOn_50 (by decide) ?_
    refine ww_pI (pc := 51) g (k := 2) (cl_Va (Or.inl ⟨by decide, rfl⟩)) (pz rfl (by decide)) (by decide) (Or.inl kw_179) rfl (f := 1282) rfl rfl rfl rfl d_Mo_goesOn_51 h fun s hs h => ?_
    refine ww_aload_n (pc := 54) g.1 d_Mo_goesOn_54 rfl (lv_at hl 0 rfl) ?_
    refine ww_gR (pc := 55) g (k := 78) cl_Mo (pz rfl (by decide)) (by decide) (Or.inl kw_178) (f := 78) (t := 10) rfl rfl rfl d_Mo_goesOn_55 ?_
    refine ww_iconst (pc := 58) g.1 (v := 1) d_Mo_goesOn_58 (by decide) ?_
    refine ww_lconst (pc := 59) g.1 (v := 0) d_Mo_goesOn_59 (by decide) ?_
    obtain ⟨v60, s, hc60, h⟩ := oB_of h
    refine ww_callV (pc := 60) (rest := []) g cv_Va_add (Or.inl kw_187) (cl_Va (Or.inl ⟨by decide, rfl⟩)) (pz rfl (by decide)) (ct_Va_add (Or.inl ⟨by decide, rfl⟩) hc60) ⟨by decide, by decide⟩ rfl hl.1 (Nat.le_of_ble_eq_true rfl) d_Mo_goesOn_60 rfl ?_
    refine ww_st (st' := []) rfl ?_
    refine ww_aload_n (pc := 63) g.1 d_Mo_goesOn_63 rfl (lv_at hl 0 rfl) ?_
    refine ww_gR (pc := 64) g (k := 78) cl_Mo (pz rfl (by decide)) (by decide) (Or.inl kw_178) (f := 78) (t := 10) rfl rfl rfl d_Mo_goesOn_64 ?_
    refine ww_iconst (pc := 67) g.1 (v := 3) d_Mo_goesOn_67 (by decide) ?_
    refine ww_ldc2 (pc := 68) g (v := 9) kw_215 d_Mo_goesOn_68 ?_
    obtain ⟨v71, s, hc71, h⟩ := oB_of h
    refine ww_callV (pc := 71) (rest := []) g cv_Va_add (Or.inl kw_187) (cl_Va (Or.inl ⟨by decide, rfl⟩)) (pz rfl (by decide)) (ct_Va_add (Or.inl ⟨by decide, rfl⟩) hc71) ⟨by decide, by decide⟩ rfl hl.1 (Nat.le_of_ble_eq_true rfl) d_Mo_goesOn_71 rfl ?_
    refine ww_st (st' := []) rfl ?_
    refine ww_aload_n (pc := 74) g.1 d_Mo_goesOn_74 rfl (lv_at hl 0 rfl) ?_
    refine ww_iconst (pc := 75) g.1 (v := 2) d_Mo_goesOn_75 (by decide) ?_
    refine ww_pI (pc := 76) g (k := 73) cl_Mo (pz rfl (by decide)) (by decide) (Or.inl kw_75) rfl (f := 73) rfl rfl rfl rfl d_Mo_goesOn_76 h fun s hs h => ?_
    exact ww_vretH (pc := 79) g h hR d_Mo_goesOn_79
  · refine ww_aload_n (pc := 38) g.1 d_Mo_goesOn_38 rfl (lv_at hl 0 rfl) ?_
    refine ww_bipush (pc := 39) g.1 (v := 9) d_Mo_goesOn_39 (by decide) ?_
    obtain ⟨v41, s, hc41, h⟩ := oB_of h
    refine ww_callV (pc := 41) (rest := []) g cv_Mo_raise (Or.inl kw_157) cl_Mo (pz rfl (by decide)) (ct_Mo_raise hc41) ⟨by decide, by decide⟩ rfl hl.1 (Nat.le_of_ble_eq_true rfl) d_Mo_goesOn_41 rfl ?_
    refine ww_st (st' := [.int v41]) rfl ?_
    refine ww_pop (pc := 44) g.1 d_Mo_goesOn_44 rfl ?_
    exact ww_vretH (pc := 45) g h hR d_Mo_goesOn_45

theorem lp_Mo_goesOn_L232 {X : Cx} {q : PL} (g : Gd X y_Mo_goesOn b_Mo_goesOn 7 none 2 45 R_Mo) (x : Int32 × Int32) (s : S1) (o : ((Int32 × Int32) ⊕ ((Int32))) × S1) (h : M_Mo_goesOn_L232 x s = some o) (hR : (Sum.elim (fun y : Int32 × Int32 => ∀ ls : Array Slot, lv_has ls 7 [(0, .ref (q.1 0 0)), (5, .int y.1), (6, .int y.2)] → WW X q o.2 232 ls []) (fun y : Int32 => ∀ ls : Array Slot, lv_has ls 7 [(0, .ref (q.1 0 0)), (5, .int y)] → WW X q o.2 268 ls []) o.1)) : ∀ ls : Array Slot, lv_has ls 7 [(0, .ref (q.1 0 0)), (5, .int x.1), (6, .int x.2)] → WW X q s 232 ls [] := by
  intro ls hl
  unfold M_Mo_goesOn_L232 at h
  refine ww_iload (pc := 232) g.1 d_Mo_goesOn_232 (lv_at hl 2 rfl) ?_
  refine ww_aload_n (pc := 234) g.1 d_Mo_goesOn_234 rfl (lv_at hl 0 rfl) ?_
  refine ww_gR (pc := 235) g (k := 77) cl_Mo (pz rfl (by decide)) (by decide) (Or.inl kw_182) (f := 77) (t := 7) rfl rfl rfl d_Mo_goesOn_235 ?_
  refine ww_gI (pc := 238) g (k := 2) (cl_Va (Or.inl ⟨by decide, rfl⟩)) (pz rfl (by decide)) (by decide) (Or.inl kw_179) (f := 898) rfl rfl d_Mo_goesOn_238 h fun v238 h => ?_
  refine ww_icmp_ge (pc := 241) (tgt := 268) g.1 d_Mo_goesOn_241 (by decide) h (fun c h => ?_) (fun c h => ?_)
  · rw [oR_eq h] at hR
    exact hR ls (lv_sub hl [0, 1] rfl)
  · refine ww_aload_n (pc := 244) g.1 d_Mo_goesOn_244 rfl (lv_at hl 0 rfl) ?_
    refine ww_gR (pc := 245) g (k := 77) cl_Mo (pz rfl (by decide)) (by decide) (Or.inl kw_182) (f := 77) (t := 7) rfl rfl rfl d_Mo_goesOn_245 ?_
    refine ww_iload (pc := 248) g.1 d_Mo_goesOn_248 (lv_at hl 2 rfl) ?_
    refine ww_iload (pc := 250) g.1 d_Mo_goesOn_250 (lv_at hl 1 rfl) ?_
    refine ww_isub (pc := 252) g.1 d_Mo_goesOn_252 ?_
    refine ww_aload_n (pc := 253) g.1 d_Mo_goesOn_253 rfl (lv_at hl 0 rfl) ?_
    refine ww_gR (pc := 254) g (k := 77) cl_Mo (pz rfl (by decide)) (by decide) (Or.inl kw_182) (f := 77) (t := 7) rfl rfl rfl d_Mo_goesOn_254 ?_
    refine ww_iload (pc := 257) g.1 d_Mo_goesOn_257 (lv_at hl 2 rfl) ?_
    obtain ⟨v259, s, hc259, h⟩ := oB_of h
    refine ww_callV (pc := 259) (rest := []) g cv_Va_set_ (Or.inl kw_195) (cl_Va (Or.inl ⟨by decide, rfl⟩)) (pz rfl (by decide)) (ct_Va_set_ (Or.inl ⟨by decide, rfl⟩) (Or.inl ⟨by decide, rfl⟩) hc259) ⟨by decide, by decide⟩ rfl hl.1 (Nat.le_of_ble_eq_true rfl) d_Mo_goesOn_259 rfl ?_
    refine ww_st (st' := []) rfl ?_
    refine ww_iinc (pc := 262) g.1 (v := x.2 + 1) (lv' := [(6, .int (x.2 + 1)), (0, .ref (q.1 0 0)), (5, .int x.1)]) d_Mo_goesOn_262 hl (k := 2) rfl (by rfl) (by decide) rfl fun ls hl => ?_
    refine ww_goto (pc := 265) (tgt := 232) g.1 d_Mo_goesOn_265 (by decide) ?_
    rw [oR_eq h] at hR
    exact hR ls (lv_sub hl [1, 2, 0] rfl)

theorem lp_Mo_goesOn_L144 {X : Cx} {q : PL} (g : Gd X y_Mo_goesOn b_Mo_goesOn 7 none 2 45 R_Mo) (x : Int32) (s : S1) (o : ((Int32) ⊕ ((Unit))) × S1) (h : M_Mo_goesOn_L144 x s = some o) (hR : (Sum.elim (fun y : Int32 => ∀ ls : Array Slot, lv_has ls 7 [(0, .ref (q.1 0 0)), (6, .int y)] → WW X q o.2 144 ls []) (fun y : Unit => ∀ ls : Array Slot, lv_has ls 7 [(0, .ref (q.1 0 0))] → WW X q o.2 175 ls []) o.1)) : ∀ ls : Array Slot, lv_has ls 7 [(0, .ref (q.1 0 0)), (6, .int x)] → WW X q s 144 ls [] := by
  intro ls hl
  unfold M_Mo_goesOn_L144 at h
  refine ww_iload (pc := 144) g.1 d_Mo_goesOn_144 (lv_at hl 1 rfl) ?_
  refine ww_aload_n (pc := 146) g.1 d_Mo_goesOn_146 rfl (lv_at hl 0 rfl) ?_
  refine ww_gR (pc := 147) g (k := 77) cl_Mo (pz rfl (by decide)) (by decide) (Or.inl kw_182) (f := 77) (t := 7) rfl rfl rfl d_Mo_goesOn_147 ?_
  refine ww_gI (pc := 150) g (k := 2) (cl_Va (Or.inl ⟨by decide, rfl⟩)) (pz rfl (by decide)) (by decide) (Or.inl kw_179) (f := 898) rfl rfl d_Mo_goesOn_150 h fun v150 h => ?_
  refine ww_icmp_ge (pc := 153) (tgt := 175) g.1 d_Mo_goesOn_153 (by decide) h (fun c h => ?_) (fun c h => ?_)
  · rw [oR_eq h] at hR
    exact hR ls (lv_sub hl [0] rfl)
  · refine ww_aload_n (pc := 156) g.1 d_Mo_goesOn_156 rfl (lv_at hl 0 rfl) ?_
    refine ww_gR (pc := 157) g (k := 78) cl_Mo (pz rfl (by decide)) (by decide) (Or.inl kw_178) (f := 78) (t := 10) rfl rfl rfl d_Mo_goesOn_157 ?_
    refine ww_aload_n (pc := 160) g.1 d_Mo_goesOn_160 rfl (lv_at hl 0 rfl) ?_
    refine ww_gR (pc := 161) g (k := 77) cl_Mo (pz rfl (by decide)) (by decide) (Or.inl kw_182) (f := 77) (t := 7) rfl rfl rfl d_Mo_goesOn_161 ?_
    refine ww_iload (pc := 164) g.1 d_Mo_goesOn_164 (lv_at hl 1 rfl) ?_
    obtain ⟨v166, s, hc166, h⟩ := oB_of h
    refine ww_callV (pc := 166) (rest := []) g cv_Va_add_ (Or.inl kw_221) (cl_Va (Or.inl ⟨by decide, rfl⟩)) (pz rfl (by decide)) (ct_Va_add_ (Or.inl ⟨by decide, rfl⟩) (Or.inl ⟨by decide, rfl⟩) hc166) ⟨by decide, by decide⟩ rfl hl.1 (Nat.le_of_ble_eq_true rfl) d_Mo_goesOn_166 rfl ?_
    refine ww_st (st' := []) rfl ?_
    refine ww_iinc (pc := 169) g.1 (v := x + 1) (lv' := [(6, .int (x + 1)), (0, .ref (q.1 0 0))]) d_Mo_goesOn_169 hl (k := 1) rfl (by rfl) (by decide) rfl fun ls hl => ?_
    refine ww_goto (pc := 172) (tgt := 144) g.1 d_Mo_goesOn_172 (by decide) ?_
    rw [oR_eq h] at hR
    exact hR ls (lv_sub hl [1, 0] rfl)

theorem ct_Mo_goesOn {l : Launch} {P : PP} {q : PL} {s s' : S1} {l1 : Int32} {l2 : Int32} {l3 : Int32} {l4 : Int32} {l5 : Int32} (hp0 : 0 ≤ l1 ∧ l1 < 33) {r : Unit} (h : M_Mo_goesOn l1 l2 l3 l4 l5 s = some (r, s')) : Ct l y_Mo_goesOn b_Mo_goesOn 7 none 2 45 P q s [.ref (q.1 0 0), .ref (q.1 28 l1), .int l2, .int l3, .int l4, .int l5] none q s' := by
  refine ct_of (by decide) (Nat.le_of_ble_eq_true rfl) fun X ls eP el g hR hl => ?_
  subst eP
  have hR : Rt X q ((r, s') : Unit × S1).2 none := hR
  have hl : lv_has ls 7 [(0, .ref (q.1 0 0)), (1, .ref (q.1 28 l1)), (2, .int l2), (3, .int l3), (4, .int l4), (5, .int l5)] := hl
  generalize (r, s') = o at h hR
  unfold M_Mo_goesOn at h
  refine ww_aload_n (pc := 0) g.1 d_Mo_goesOn_0 rfl (lv_at hl 1 rfl) ?_
  refine ww_gI (pc := 1) g (k := 0) cl_Th (pt rfl rfl hp0) (by decide) (Or.inl kw_216) (f := 3584) rfl rfl d_Mo_goesOn_1 h fun v1 h => ?_
  refine ww_iload_n (pc := 4) g.1 d_Mo_goesOn_4 rfl (lv_at hl 2 rfl) ?_
  refine ww_icmp_ne (pc := 5) (tgt := 25) g.1 d_Mo_goesOn_5 (by decide) h (fun c h => ?_) (fun c h => ?_)
  · exact j_Mo_goesOn_j25 g hR l3 s ls (lv_sub hl [0, 3] rfl) h
  · refine ww_aload_n (pc := 8) g.1 d_Mo_goesOn_8 rfl (lv_at hl 1 rfl) ?_
    refine ww_gI (pc := 9) g (k := 1) cl_Th (pt rfl rfl hp0) (by decide) (Or.inl kw_217) (f := 3585) rfl rfl d_Mo_goesOn_9 h fun v9 h => ?_
    refine ww_if_ne (pc := 12) (tgt := 25) g.1 d_Mo_goesOn_12 (by decide) h (fun c h => ?_) (fun c h => ?_)
    · exact j_Mo_goesOn_j25 g hR l3 s ls (lv_sub hl [0, 3] rfl) h
    · refine ww_aload_n (pc := 15) g.1 d_Mo_goesOn_15 rfl (lv_at hl 1 rfl) ?_
      refine ww_aload_n (pc := 16) g.1 d_Mo_goesOn_16 rfl (lv_at hl 0 rfl) ?_
      refine ww_gR (pc := 17) g (k := 71) cl_Mo (pz rfl (by decide)) (by decide) (Or.inl kw_88) (f := 71) (t := 76) rfl rfl rfl d_Mo_goesOn_17 ?_
      refine ww_iconst (pc := 20) g.1 (v := 0) d_Mo_goesOn_20 (by decide) ?_
      refine ww_at (pc := 21) g (t := 28) (pz rfl (by decide)) rfl rfl rfl d_Mo_goesOn_21 h fun ca21 h => ?_
      refine ww_acmp_ne (pc := 22) (tgt := 80) g.1 (pt rfl rfl hp0) (pt rfl rfl ca21) d_Mo_goesOn_22 (by decide) h (fun c h => ?_) (fun c h => ?_)
      · refine ww_aload_n (pc := 80) g.1 d_Mo_goesOn_80 rfl (lv_at hl 0 rfl) ?_
        refine ww_iload_n (pc := 81) g.1 d_Mo_goesOn_81 rfl (lv_at hl 3 rfl) ?_
        refine ww_iload (pc := 82) g.1 d_Mo_goesOn_82 (lv_at hl 4 rfl) ?_
        obtain ⟨v84, s, hc84, h⟩ := oB_of h
        refine ww_callV (pc := 84) (rest := []) g cv_Mo_push (Or.inl kw_190) cl_Mo (pz rfl (by decide)) (ct_Mo_push hc84) ⟨by decide, by decide⟩ rfl hl.1 (Nat.le_of_ble_eq_true rfl) d_Mo_goesOn_84 rfl ?_
        refine ww_st (st' := [.int v84]) rfl ?_
        refine ww_if_ne (pc := 87) (tgt := 99) g.1 d_Mo_goesOn_87 (by decide) h (fun c h => ?_) (fun c h => ?_)
        · refine ww_aload_n (pc := 99) g.1 d_Mo_goesOn_99 rfl (lv_at hl 1 rfl) ?_
          refine ww_aload_n (pc := 100) g.1 d_Mo_goesOn_100 rfl (lv_at hl 0 rfl) ?_
          refine ww_gV (pc := 101) g (k := 72) cl_Mo (pz rfl (by decide)) (by decide) (Or.inl kw_150) (f := 72) (t := 28) rfl rfl rfl d_Mo_goesOn_101 h fun v101 h => ?_
          refine ww_pV (pc := 104) g (k := 6) cl_Th (pt rfl rfl hp0) (by decide) (Or.inl kw_218) rfl (f := 3590) (t := 28) rfl rfl rfl rfl fits_vr d_Mo_goesOn_104 h fun s hs h => ?_
          refine ww_aload_n (pc := 107) g.1 d_Mo_goesOn_107 rfl (lv_at hl 0 rfl) ?_
          refine ww_gV (pc := 108) g (k := 72) cl_Mo (pz rfl (by decide)) (by decide) (Or.inl kw_150) (f := 72) (t := 28) rfl rfl rfl d_Mo_goesOn_108 h fun v108 h => ?_
          refine ww_ok h fun cn108 h => ?_
          refine ww_nn cn108 ?_
          refine ww_iconst (pc := 111) g.1 (v := 2) d_Mo_goesOn_111 (by decide) ?_
          refine ww_pI (pc := 112) g (k := 1) cl_Th (pt rfl rfl cn108) (by decide) (Or.inl kw_217) rfl (f := 3585) rfl rfl rfl rfl d_Mo_goesOn_112 h fun s hs h => ?_
          refine ww_aload_n (pc := 115) g.1 d_Mo_goesOn_115 rfl (lv_at hl 1 rfl) ?_
          refine ww_iconst (pc := 116) g.1 (v := 1) d_Mo_goesOn_116 (by decide) ?_
          refine ww_pI (pc := 117) g (k := 1) cl_Th (pt rfl rfl hp0) (by decide) (Or.inl kw_217) rfl (f := 3585) rfl rfl rfl rfl d_Mo_goesOn_117 h fun s hs h => ?_
          refine ww_aload_n (pc := 120) g.1 d_Mo_goesOn_120 rfl (lv_at hl 0 rfl) ?_
          refine ww_aload_n (pc := 121) g.1 d_Mo_goesOn_121 rfl (lv_at hl 1 rfl) ?_
          refine ww_st (st' := [vr q 28 l1, .ref (q.1 0 0)]) (by rw [vr_nn hp0]) ?_
          refine ww_pV (pc := 122) g (k := 72) cl_Mo (pz rfl (by decide)) (by decide) (Or.inl kw_150) rfl (f := 72) (t := 28) rfl rfl rfl rfl fits_vr d_Mo_goesOn_122 h fun s hs h => ?_
          refine ww_aload_n (pc := 125) g.1 d_Mo_goesOn_125 rfl (lv_at hl 1 rfl) ?_
          refine ww_gI (pc := 126) g (k := 5) cl_Th (pt rfl rfl hp0) (by decide) (Or.inl kw_219) (f := 3589) rfl rfl d_Mo_goesOn_126 h fun v126 h => ?_
          refine ww_if_eq (pc := 129) (tgt := 189) g.1 d_Mo_goesOn_129 (by decide) h (fun c h => ?_) (fun c h => ?_)
          · refine ww_aload_n (pc := 189) g.1 d_Mo_goesOn_189 rfl (lv_at hl 1 rfl) ?_
            refine ww_iconst (pc := 190) g.1 (v := 1) d_Mo_goesOn_190 (by decide) ?_
            refine ww_pI (pc := 191) g (k := 5) cl_Th (pt rfl rfl hp0) (by decide) (Or.inl kw_219) rfl (f := 3589) rfl rfl rfl rfl d_Mo_goesOn_191 h fun s hs h => ?_
            refine ww_aload_n (pc := 194) g.1 d_Mo_goesOn_194 rfl (lv_at hl 0 rfl) ?_
            refine ww_aload_n (pc := 195) g.1 d_Mo_goesOn_195 rfl (lv_at hl 1 rfl) ?_
            refine ww_gR (pc := 196) g (k := 9) cl_Th (pt rfl rfl hp0) (by decide) (Or.inl kw_220) (f := 3593) (t := 25) rfl rfl rfl d_Mo_goesOn_196 ?_
            refine ww_gR (pc := 199) g (k := 0) (cl_Va (Or.inr ⟨by decide, hp0⟩)) (pt rfl rfl hp0) (by decide) (Or.inl kw_90) (f := 3200) (t := 26) rfl rfl rfl d_Mo_goesOn_199 ?_
            refine ww_iconst (pc := 202) g.1 (v := 0) d_Mo_goesOn_202 (by decide) ?_
            refine ww_ab (pc := 203) g (pt rfl rfl hp0) rfl rfl d_Mo_goesOn_203 h fun v203 h => ?_
            refine ww_pI (pc := 204) g (k := 75) cl_Mo (pz rfl (by decide)) (by decide) (Or.inl kw_192) rfl (f := 75) rfl rfl rfl rfl d_Mo_goesOn_204 h fun s hs h => ?_
            refine ww_aload_n (pc := 207) g.1 d_Mo_goesOn_207 rfl (lv_at hl 0 rfl) ?_
            refine ww_aload_n (pc := 208) g.1 d_Mo_goesOn_208 rfl (lv_at hl 1 rfl) ?_
            refine ww_gR (pc := 209) g (k := 9) cl_Th (pt rfl rfl hp0) (by decide) (Or.inl kw_220) (f := 3593) (t := 25) rfl rfl rfl d_Mo_goesOn_209 ?_
            refine ww_gR (pc := 212) g (k := 1) (cl_Va (Or.inr ⟨by decide, hp0⟩)) (pt rfl rfl hp0) (by decide) (Or.inl kw_93) (f := 3201) (t := 27) rfl rfl rfl d_Mo_goesOn_212 ?_
            refine ww_iconst (pc := 215) g.1 (v := 0) d_Mo_goesOn_215 (by decide) ?_
            refine ww_al (pc := 216) g (pt rfl rfl hp0) rfl rfl d_Mo_goesOn_216 h fun v216 h => ?_
            refine ww_pL (pc := 217) g (k := 76) cl_Mo (pz rfl (by decide)) (by decide) (Or.inl kw_194) rfl (f := 76) rfl rfl rfl rfl d_Mo_goesOn_217 h fun s hs h => ?_
            refine ww_aload_n (pc := 220) g.1 d_Mo_goesOn_220 rfl (lv_at hl 1 rfl) ?_
            refine ww_gR (pc := 221) g (k := 9) cl_Th (pt rfl rfl hp0) (by decide) (Or.inl kw_220) (f := 3593) (t := 25) rfl rfl rfl d_Mo_goesOn_221 ?_
            refine ww_iconst (pc := 224) g.1 (v := 0) d_Mo_goesOn_224 (by decide) ?_
            refine ww_pI (pc := 225) g (k := 2) (cl_Va (Or.inr ⟨by decide, hp0⟩)) (pt rfl rfl hp0) (by decide) (Or.inl kw_179) rfl (f := 3202) rfl rfl rfl rfl d_Mo_goesOn_225 h fun s hs h => ?_
            refine ww_iload (pc := 228) g.1 d_Mo_goesOn_228 (lv_at hl 5 rfl) ?_
            refine ww_istore (pc := 230) (i := 6) g.1 (lv' := [(6, .int l5), (0, .ref (q.1 0 0)), (1, .ref (q.1 28 l1)), (2, .int l2), (3, .int l3), (4, .int l4), (5, .int l5)]) d_Mo_goesOn_230 hl (by decide) rfl fun ls hl => ?_
            obtain ⟨e232, s1, hw, h⟩ := oB_of h
            refine oW_rule (Wh := fun (x : Int32 × Int32) (s : S1) => ∀ ls : Array Slot, lv_has ls 7 [(0, .ref (q.1 0 0)), (5, .int x.1), (6, .int x.2)] → WW X q s 232 ls []) (We := fun (e : (Int32)) (s : S1) => ∀ ls : Array Slot, lv_has ls 7 [(0, .ref (q.1 0 0)), (5, .int e)] → WW X q s 268 ls []) (fun x s o hb hc => lp_Mo_goesOn_L232 (q := q) g x s o hb hc) hw ?_ ls (lv_sub hl [1, 6, 0] rfl)
            clear hw hl
            clear ls
            intro ls hl
            generalize s1 = s at h ⊢
            refine ww_aload_n (pc := 268) g.1 d_Mo_goesOn_268 rfl (lv_at hl 0 rfl) ?_
            refine ww_gR (pc := 269) g (k := 77) cl_Mo (pz rfl (by decide)) (by decide) (Or.inl kw_182) (f := 77) (t := 7) rfl rfl rfl d_Mo_goesOn_269 ?_
            refine ww_dup (pc := 272) g.1 d_Mo_goesOn_272 rfl ?_
            refine ww_gI (pc := 273) g (k := 2) (cl_Va (Or.inl ⟨by decide, rfl⟩)) (pz rfl (by decide)) (by decide) (Or.inl kw_179) (f := 898) rfl rfl d_Mo_goesOn_273 h fun v273 h => ?_
            refine ww_iload (pc := 276) g.1 d_Mo_goesOn_276 (lv_at hl 1 rfl) ?_
            refine ww_isub (pc := 278) g.1 d_Mo_goesOn_278 ?_
            refine ww_pI (pc := 279) g (k := 2) (cl_Va (Or.inl ⟨by decide, rfl⟩)) (pz rfl (by decide)) (by decide) (Or.inl kw_179) rfl (f := 898) rfl rfl rfl rfl d_Mo_goesOn_279 h fun s hs h => ?_
            refine ww_aload_n (pc := 282) g.1 d_Mo_goesOn_282 rfl (lv_at hl 0 rfl) ?_
            refine ww_iconst (pc := 283) g.1 (v := 1) d_Mo_goesOn_283 (by decide) ?_
            refine ww_pI (pc := 284) g (k := 73) cl_Mo (pz rfl (by decide)) (by decide) (Or.inl kw_75) rfl (f := 73) rfl rfl rfl rfl d_Mo_goesOn_284 h fun s hs h => ?_
            exact ww_vretH (pc := 287) g h hR d_Mo_goesOn_287
          · refine ww_aload_n (pc := 132) g.1 d_Mo_goesOn_132 rfl (lv_at hl 0 rfl) ?_
            refine ww_gR (pc := 133) g (k := 78) cl_Mo (pz rfl (by decide)) (by decide) (Or.inl kw_178) (f := 78) (t := 10) rfl rfl rfl d_Mo_goesOn_133 ?_
            refine ww_iconst (pc := 136) g.1 (v := 0) d_Mo_goesOn_136 (by decide) ?_
            refine ww_pI (pc := 137) g (k := 2) (cl_Va (Or.inl ⟨by decide, rfl⟩)) (pz rfl (by decide)) (by decide) (Or.inl kw_179) rfl (f := 1282) rfl rfl rfl rfl d_Mo_goesOn_137 h fun s hs h => ?_
            refine ww_iload (pc := 140) g.1 d_Mo_goesOn_140 (lv_at hl 5 rfl) ?_
            refine ww_istore (pc := 142) (i := 6) g.1 (lv' := [(6, .int l5), (0, .ref (q.1 0 0)), (1, .ref (q.1 28 l1)), (2, .int l2), (3, .int l3), (4, .int l4), (5, .int l5)]) d_Mo_goesOn_142 hl (by decide) rfl fun ls hl => ?_
            obtain ⟨e144, s1, hw, h⟩ := oB_of h
            refine oW_rule (Wh := fun (x : Int32) (s : S1) => ∀ ls : Array Slot, lv_has ls 7 [(0, .ref (q.1 0 0)), (6, .int x)] → WW X q s 144 ls []) (We := fun (e : (Unit)) (s : S1) => ∀ ls : Array Slot, lv_has ls 7 [(0, .ref (q.1 0 0))] → WW X q s 175 ls []) (fun x s o hb hc => lp_Mo_goesOn_L144 (q := q) g x s o hb hc) hw ?_ ls (lv_sub hl [1, 0] rfl)
            clear hw hl
            clear ls
            intro ls hl
            generalize s1 = s at h ⊢
            refine ww_aload_n (pc := 175) g.1 d_Mo_goesOn_175 rfl (lv_at hl 0 rfl) ?_
            refine ww_gR (pc := 176) g (k := 77) cl_Mo (pz rfl (by decide)) (by decide) (Or.inl kw_182) (f := 77) (t := 7) rfl rfl rfl d_Mo_goesOn_176 ?_
            refine ww_iconst (pc := 179) g.1 (v := 0) d_Mo_goesOn_179 (by decide) ?_
            refine ww_pI (pc := 180) g (k := 2) (cl_Va (Or.inl ⟨by decide, rfl⟩)) (pz rfl (by decide)) (by decide) (Or.inl kw_179) rfl (f := 898) rfl rfl rfl rfl d_Mo_goesOn_180 h fun s hs h => ?_
            refine ww_aload_n (pc := 183) g.1 d_Mo_goesOn_183 rfl (lv_at hl 0 rfl) ?_
            refine ww_iconst (pc := 184) g.1 (v := 2) d_Mo_goesOn_184 (by decide) ?_
            refine ww_pI (pc := 185) g (k := 73) cl_Mo (pz rfl (by decide)) (by decide) (Or.inl kw_75) rfl (f := 73) rfl rfl rfl rfl d_Mo_goesOn_185 h fun s hs h => ?_
            exact ww_vretH (pc := 188) g h hR d_Mo_goesOn_188
        · refine ww_aload_n (pc := 90) g.1 d_Mo_goesOn_90 rfl (lv_at hl 0 rfl) ?_
          refine ww_gR (pc := 91) g (k := 77) cl_Mo (pz rfl (by decide)) (by decide) (Or.inl kw_182) (f := 77) (t := 7) rfl rfl rfl d_Mo_goesOn_91 ?_
          refine ww_iconst (pc := 94) g.1 (v := 0) d_Mo_goesOn_94 (by decide) ?_
          refine ww_pI (pc := 95) g (k := 2) (cl_Va (Or.inl ⟨by decide, rfl⟩)) (pz rfl (by decide)) (by decide) (Or.inl kw_179) rfl (f := 898) rfl rfl rfl rfl d_Mo_goesOn_95 h fun s hs h => ?_
          exact ww_vretH (pc := 98) g h hR d_Mo_goesOn_98
      · exact j_Mo_goesOn_j25 g hR l3 s ls (lv_sub hl [0, 3] rfl) h

abbrev b_Mo_back : ByteArray := prog_14_method_76_code
def y_Mo_back : MethodName := ⟨R_Mo, "back", "(LLuaMachineModel$Thread_;)V"⟩
abbrev w_Mo_back : List Cond := .code y_Mo_back b_Mo_back 2 none :: wA
theorem k_Mo_back : Cond.code y_Mo_back b_Mo_back 2 none ∈ wA := kinm (show _ ∈ tables_1 from (List.mem_append_right _ (List.mem_append_right _ (List.mem_append_right _ (List.mem_append_right _ (List.mem_append_right _ (List.mem_append_right _ (List.mem_append_right _ (List.mem_append_right _ (List.mem_append_right _ (List.mem_append_right _ (List.mem_append_right _ (List.mem_append_right _ (List.mem_append_left _ (List.mem_of_getElem? (l := tables_1_13) (i := 72) (by decide +kernel)))))))))))))))) (by decide +kernel)
theorem d_Mo_back_0 : decode b_Mo_back 0 = .ok (.aload_n 0, 1) := by decide +kernel
theorem d_Mo_back_1 : decode b_Mo_back 1 = .ok (.aload_n 1, 1) := by decide +kernel
theorem d_Mo_back_2 : decode b_Mo_back 2 = .ok (.getfield 617, 3) := by decide +kernel
theorem d_Mo_back_5 : decode b_Mo_back 5 = .ok (.putfield 243, 3) := by decide +kernel
theorem d_Mo_back_8 : decode b_Mo_back 8 = .ok (.aload_n 1, 1) := by decide +kernel
theorem d_Mo_back_9 : decode b_Mo_back 9 = .ok (.aconst_null, 1) := by decide +kernel
theorem d_Mo_back_10 : decode b_Mo_back 10 = .ok (.putfield 617, 3) := by decide +kernel
theorem d_Mo_back_13 : decode b_Mo_back 13 = .ok (.aload_n 0, 1) := by decide +kernel
theorem d_Mo_back_14 : decode b_Mo_back 14 = .ok (.getfield 243, 3) := by decide +kernel
theorem d_Mo_back_17 : decode b_Mo_back 17 = .ok (.iconst 1, 1) := by decide +kernel
theorem d_Mo_back_18 : decode b_Mo_back 18 = .ok (.putfield 694, 3) := by decide +kernel
theorem d_Mo_back_21 : decode b_Mo_back 21 = .ok (.return_, 1) := by decide +kernel
theorem kw_224 : Cond.instanceMethod y_Mo_back ∈ wA := kinm (show _ ∈ tables_1 from (List.mem_append_right _ (List.mem_append_right _ (List.mem_append_right _ (List.mem_append_right _ (List.mem_append_right _ (List.mem_append_right _ (List.mem_append_right _ (List.mem_append_right _ (List.mem_append_right _ (List.mem_append_right _ (List.mem_append_right _ (List.mem_append_right _ (List.mem_append_left _ (List.mem_of_getElem? (l := tables_1_13) (i := 71) (by decide +kernel)))))))))))))))) (by decide +kernel)
theorem kw_225 : Cond.selects R_Mo y_Mo_back y_Mo_back ∈ wA := kinp 189 (by decide +kernel) (by decide +kernel)
theorem cv_Mo_back : CV y_Mo_back b_Mo_back 2 none 1 := ⟨kw_224, kw_225, kw_17, k_Mo_back, by decide +kernel⟩
theorem ct_Mo_back {l : Launch} {P : PP} {q : PL} {s s' : S1} {l1 : Int32} (hp0 : 0 ≤ l1 ∧ l1 < 33) {r : Unit} (h : M_Mo_back l1 s = some (r, s')) : Ct l y_Mo_back b_Mo_back 2 none 0 0 P q s [.ref (q.1 0 0), .ref (q.1 28 l1)] none q s' := by
  refine ct_of (by decide) (Nat.le_of_ble_eq_true rfl) fun X ls eP el g hR hl => ?_
  subst eP
  have hR : Rt X q ((r, s') : Unit × S1).2 none := hR
  have hl : lv_has ls 2 [(0, .ref (q.1 0 0)), (1, .ref (q.1 28 l1))] := hl
  generalize (r, s') = o at h hR
  unfold M_Mo_back at h
  refine ww_aload_n (pc := 0) g.1 d_Mo_back_0 rfl (lv_at hl 0 rfl) ?_
  refine ww_aload_n (pc := 1) g.1 d_Mo_back_1 rfl (lv_at hl 1 rfl) ?_
  refine ww_gV (pc := 2) g (k := 6) cl_Th (pt rfl rfl hp0) (by decide) (Or.inl kw_218) (f := 3590) (t := 28) rfl rfl rfl d_Mo_back_2 h fun v2 h => ?_
  refine ww_pV (pc := 5) g (k := 72) cl_Mo (pz rfl (by decide)) (by decide) (Or.inl kw_150) rfl (f := 72) (t := 28) rfl rfl rfl rfl fits_vr d_Mo_back_5 h fun s hs h => ?_
  refine ww_aload_n (pc := 8) g.1 d_Mo_back_8 rfl (lv_at hl 1 rfl) ?_
  refine ww_null (pc := 9) g.1 d_Mo_back_9 ?_
  refine ww_st (st' := [vr q 28 (-1), .ref (q.1 28 l1)]) (by rw [vr_m1]) ?_
  refine ww_pV (pc := 10) g (k := 6) cl_Th (pt rfl rfl hp0) (by decide) (Or.inl kw_218) rfl (f := 3590) (t := 28) rfl rfl rfl rfl fits_vr d_Mo_back_10 h fun s hs h => ?_
  refine ww_aload_n (pc := 13) g.1 d_Mo_back_13 rfl (lv_at hl 0 rfl) ?_
  refine ww_gV (pc := 14) g (k := 72) cl_Mo (pz rfl (by decide)) (by decide) (Or.inl kw_150) (f := 72) (t := 28) rfl rfl rfl d_Mo_back_14 h fun v14 h => ?_
  refine ww_ok h fun cn14 h => ?_
  refine ww_nn cn14 ?_
  refine ww_iconst (pc := 17) g.1 (v := 1) d_Mo_back_17 (by decide) ?_
  refine ww_pI (pc := 18) g (k := 1) cl_Th (pt rfl rfl cn14) (by decide) (Or.inl kw_217) rfl (f := 3585) rfl rfl rfl rfl d_Mo_back_18 h fun s hs h => ?_
  exact ww_vretH (pc := 21) g h hR d_Mo_back_21

abbrev b_Mo_state : ByteArray := prog_14_method_100_code
def y_Mo_state : MethodName := ⟨R_Mo, "state", "()V"⟩
abbrev w_Mo_state : List Cond := .code y_Mo_state b_Mo_state 1 none :: wA
theorem k_Mo_state : Cond.code y_Mo_state b_Mo_state 1 none ∈ wA := kinm (show _ ∈ tables_1 from (List.mem_append_right _ (List.mem_append_right _ (List.mem_append_right _ (List.mem_append_right _ (List.mem_append_right _ (List.mem_append_right _ (List.mem_append_right _ (List.mem_append_right _ (List.mem_append_right _ (List.mem_append_right _ (List.mem_append_right _ (List.mem_append_right _ (List.mem_append_left _ (List.mem_of_getElem? (l := tables_1_13) (i := 76) (by decide +kernel)))))))))))))))) (by decide +kernel)
theorem d_Mo_state_0 : decode b_Mo_state 0 = .ok (.aload_n 0, 1) := by decide +kernel
theorem d_Mo_state_1 : decode b_Mo_state 1 = .ok (.iconst 0, 1) := by decide +kernel
theorem d_Mo_state_2 : decode b_Mo_state 2 = .ok (.bipush 7, 2) := by decide +kernel
theorem d_Mo_state_4 : decode b_Mo_state 4 = .ok (.invokevirtual 833, 3) := by decide +kernel
theorem d_Mo_state_7 : decode b_Mo_state 7 = .ok (.ifCond .ne 12, 3) := by decide +kernel
theorem d_Mo_state_10 : decode b_Mo_state 10 = .ok (.aload_n 0, 1) := by decide +kernel
theorem d_Mo_state_11 : decode b_Mo_state 11 = .ok (.iconst 2, 1) := by decide +kernel
theorem d_Mo_state_12 : decode b_Mo_state 12 = .ok (.invokevirtual 517, 3) := by decide +kernel
theorem d_Mo_state_15 : decode b_Mo_state 15 = .ok (.pop, 1) := by decide +kernel
theorem d_Mo_state_16 : decode b_Mo_state 16 = .ok (.goto 33, 3) := by decide +kernel
theorem d_Mo_state_19 : decode b_Mo_state 19 = .ok (.aload_n 0, 1) := by decide +kernel
theorem d_Mo_state_20 : decode b_Mo_state 20 = .ok (.iconst 4, 1) := by decide +kernel
theorem d_Mo_state_21 : decode b_Mo_state 21 = .ok (.aload_n 0, 1) := by decide +kernel
theorem d_Mo_state_22 : decode b_Mo_state 22 = .ok (.getfield 409, 3) := by decide +kernel
theorem d_Mo_state_25 : decode b_Mo_state 25 = .ok (.aload_n 0, 1) := by decide +kernel
theorem d_Mo_state_26 : decode b_Mo_state 26 = .ok (.getfield 239, 3) := by decide +kernel
theorem d_Mo_state_29 : decode b_Mo_state 29 = .ok (.aload_n 0, 1) := by decide +kernel
theorem d_Mo_state_30 : decode b_Mo_state 30 = .ok (.getfield 168, 3) := by decide +kernel
theorem d_Mo_state_33 : decode b_Mo_state 33 = .ok (.aload_n 0, 1) := by decide +kernel
theorem d_Mo_state_34 : decode b_Mo_state 34 = .ok (.iconst 0, 1) := by decide +kernel
theorem d_Mo_state_35 : decode b_Mo_state 35 = .ok (.invokevirtual 807, 3) := by decide +kernel
theorem d_Mo_state_38 : decode b_Mo_state 38 = .ok (.l2i, 1) := by decide +kernel
theorem d_Mo_state_39 : decode b_Mo_state 39 = .ok (.iaload, 1) := by decide +kernel
theorem d_Mo_state_40 : decode b_Mo_state 40 = .ok (.aaload, 1) := by decide +kernel
theorem d_Mo_state_41 : decode b_Mo_state 41 = .ok (.getfield 694, 3) := by decide +kernel
theorem d_Mo_state_44 : decode b_Mo_state 44 = .ok (.iaload, 1) := by decide +kernel
theorem d_Mo_state_45 : decode b_Mo_state 45 = .ok (.i2l, 1) := by decide +kernel
theorem d_Mo_state_46 : decode b_Mo_state 46 = .ok (.invokevirtual 804, 3) := by decide +kernel
theorem d_Mo_state_49 : decode b_Mo_state 49 = .ok (.return_, 1) := by decide +kernel
theorem kw_226 : Cond.fieldLink R_Mo 409 "LuaMachineModel" "stateName" "[I" ∈ wA := kinm (show _ ∈ tables_1 from (List.mem_append_right _ (List.mem_append_right _ (List.mem_append_right _ (List.mem_append_right _ (List.mem_append_right _ (List.mem_append_right _ (List.mem_append_right _ (List.mem_append_right _ (List.mem_append_right _ (List.mem_append_left _ (List.mem_of_getElem? (l := tables_1_10) (i := 145) (by decide +kernel))))))))))))) (by decide +kernel)
theorem kw_227 : Cond.instanceMethod y_Mo_state ∈ wA := kinm (show _ ∈ tables_1 from (List.mem_append_right _ (List.mem_append_right _ (List.mem_append_right _ (List.mem_append_right _ (List.mem_append_right _ (List.mem_append_right _ (List.mem_append_right _ (List.mem_append_right _ (List.mem_append_right _ (List.mem_append_right _ (List.mem_append_right _ (List.mem_append_right _ (List.mem_append_left _ (List.mem_of_getElem? (l := tables_1_13) (i := 75) (by decide +kernel)))))))))))))))) (by decide +kernel)
theorem kw_228 : Cond.selects R_Mo y_Mo_state y_Mo_state ∈ wA := kinp 190 (by decide +kernel) (by decide +kernel)
theorem cv_Mo_state : CV y_Mo_state b_Mo_state 1 none 0 := ⟨kw_227, kw_228, kw_17, k_Mo_state, by decide +kernel⟩
theorem ct_Mo_state {l : Launch} {P : PP} {q : PL} {s s' : S1}  {r : Unit} (h : M_Mo_state s = some (r, s')) : Ct l y_Mo_state b_Mo_state 1 none 2 46 P q s [.ref (q.1 0 0)] none q s' := by
  refine ct_of (by decide) (Nat.le_of_ble_eq_true rfl) fun X ls eP el g hR hl => ?_
  subst eP
  have hR : Rt X q ((r, s') : Unit × S1).2 none := hR
  have hl : lv_has ls 1 [(0, .ref (q.1 0 0))] := hl
  generalize (r, s') = o at h hR
  unfold M_Mo_state at h
  refine ww_aload_n (pc := 0) g.1 d_Mo_state_0 rfl (lv_at hl 0 rfl) ?_
  refine ww_iconst (pc := 1) g.1 (v := 0) d_Mo_state_1 (by decide) ?_
  refine ww_bipush (pc := 2) g.1 (v := 7) d_Mo_state_2 (by decide) ?_
  obtain ⟨v4, s, hc4, h⟩ := oB_of h
  refine ww_callV (pc := 4) (rest := []) g cv_Mo_is (Or.inl kw_206) cl_Mo (pz rfl (by decide)) (ct_Mo_is hc4) ⟨by decide, by decide⟩ rfl hl.1 (Nat.le_of_ble_eq_true rfl) d_Mo_state_4 rfl ?_
  refine ww_st (st' := [.int v4]) rfl ?_
  refine ww_if_ne (pc := 7) (tgt := 19) g.1 d_Mo_state_7 (by decide) h (fun c h => ?_) (fun c h => ?_)
  · refine ww_aload_n (pc := 19) g.1 d_Mo_state_19 rfl (lv_at hl 0 rfl) ?_
    refine ww_iconst (pc := 20) g.1 (v := 4) d_Mo_state_20 (by decide) ?_
    refine ww_aload_n (pc := 21) g.1 d_Mo_state_21 rfl (lv_at hl 0 rfl) ?_
    refine ww_gR (pc := 22) g (k := 89) cl_Mo (pz rfl (by decide)) (by decide) (Or.inl kw_226) (f := 89) (t := 84) rfl rfl rfl d_Mo_state_22 ?_
    refine ww_aload_n (pc := 25) g.1 d_Mo_state_25 rfl (lv_at hl 0 rfl) ?_
    refine ww_gR (pc := 26) g (k := 71) cl_Mo (pz rfl (by decide)) (by decide) (Or.inl kw_88) (f := 71) (t := 76) rfl rfl rfl d_Mo_state_26 ?_
    refine ww_aload_n (pc := 29) g.1 d_Mo_state_29 rfl (lv_at hl 0 rfl) ?_
    refine ww_gR (pc := 30) g (k := 49) cl_Mo (pz rfl (by decide)) (by decide) (Or.inl kw_87) (f := 49) (t := 62) rfl rfl rfl d_Mo_state_30 ?_
    refine ww_aload_n (pc := 33) g.1 d_Mo_state_33 rfl (lv_at hl 0 rfl) ?_
    refine ww_iconst (pc := 34) g.1 (v := 0) d_Mo_state_34 (by decide) ?_
    obtain ⟨v35, s, hc35, h⟩ := oB_of h
    refine ww_callV (pc := 35) (rest := [.ref (q.1 62 0), .ref (q.1 76 0), .ref (q.1 84 0), .int 4, .ref (q.1 0 0)]) g cv_Mo_av (Or.inl kw_193) cl_Mo (pz rfl (by decide)) (ct_Mo_av hc35) ⟨by decide, by decide⟩ rfl hl.1 (Nat.le_of_ble_eq_true rfl) d_Mo_state_35 rfl ?_
    refine ww_st (st' := [.long v35, .ref (q.1 62 0), .ref (q.1 76 0), .ref (q.1 84 0), .int 4, .ref (q.1 0 0)]) rfl ?_
    refine ww_l2i (pc := 38) g.1 (v := v35.toInt32) d_Mo_state_38 rfl ?_
    refine ww_ai (pc := 39) g (pz rfl (by decide)) rfl rfl d_Mo_state_39 h fun v39 h => ?_
    refine ww_at (pc := 40) g (t := 28) (pz rfl (by decide)) rfl rfl rfl d_Mo_state_40 h fun ca40 h => ?_
    refine ww_gI (pc := 41) g (k := 1) cl_Th (pt rfl rfl ca40) (by decide) (Or.inl kw_217) (f := 3585) rfl rfl d_Mo_state_41 h fun v41 h => ?_
    refine ww_ai (pc := 44) g (pz rfl (by decide)) rfl rfl d_Mo_state_44 h fun v44 h => ?_
    refine ww_i2l (pc := 45) g.1 (v := v44.toInt64) d_Mo_state_45 rfl ?_
    obtain ⟨v46, s, hc46, h⟩ := oB_of h
    refine ww_callV (pc := 46) (rest := []) g cv_Mo_give (Or.inl kw_212) cl_Mo (pz rfl (by decide)) (ct_Mo_give hc46) ⟨by decide, by decide⟩ rfl hl.1 (Nat.le_of_ble_eq_true rfl) d_Mo_state_46 rfl ?_
    refine ww_st (st' := []) rfl ?_
    exact ww_vretH (pc := 49) g h hR d_Mo_state_49
  · refine ww_aload_n (pc := 10) g.1 d_Mo_state_10 rfl (lv_at hl 0 rfl) ?_
    refine ww_iconst (pc := 11) g.1 (v := 2) d_Mo_state_11 (by decide) ?_
    obtain ⟨v12, s, hc12, h⟩ := oB_of h
    refine ww_callV (pc := 12) (rest := []) g cv_Mo_raise (Or.inl kw_157) cl_Mo (pz rfl (by decide)) (ct_Mo_raise hc12) ⟨by decide, by decide⟩ rfl hl.1 (Nat.le_of_ble_eq_true rfl) d_Mo_state_12 rfl ?_
    refine ww_st (st' := [.int v12]) rfl ?_
    refine ww_pop (pc := 15) g.1 d_Mo_state_15 rfl ?_
    refine ww_goto (pc := 16) (tgt := 49) g.1 d_Mo_state_16 (by decide) ?_
    exact ww_vretH (pc := 49) g h hR d_Mo_state_49

abbrev b_Mo_running : ByteArray := prog_14_method_101_code
def y_Mo_running : MethodName := ⟨R_Mo, "running", "()V"⟩
abbrev w_Mo_running : List Cond := .code y_Mo_running b_Mo_running 1 none :: wA
theorem k_Mo_running : Cond.code y_Mo_running b_Mo_running 1 none ∈ wA := kinm (show _ ∈ tables_1 from (List.mem_append_right _ (List.mem_append_right _ (List.mem_append_right _ (List.mem_append_right _ (List.mem_append_right _ (List.mem_append_right _ (List.mem_append_right _ (List.mem_append_right _ (List.mem_append_right _ (List.mem_append_right _ (List.mem_append_right _ (List.mem_append_right _ (List.mem_append_left _ (List.mem_of_getElem? (l := tables_1_13) (i := 80) (by decide +kernel)))))))))))))))) (by decide +kernel)
theorem d_Mo_running_0 : decode b_Mo_running 0 = .ok (.aload_n 0, 1) := by decide +kernel
theorem d_Mo_running_1 : decode b_Mo_running 1 = .ok (.bipush 7, 2) := by decide +kernel
theorem d_Mo_running_3 : decode b_Mo_running 3 = .ok (.aload_n 0, 1) := by decide +kernel
theorem d_Mo_running_4 : decode b_Mo_running 4 = .ok (.getfield 243, 3) := by decide +kernel
theorem d_Mo_running_7 : decode b_Mo_running 7 = .ok (.getfield 615, 3) := by decide +kernel
theorem d_Mo_running_10 : decode b_Mo_running 10 = .ok (.i2l, 1) := by decide +kernel
theorem d_Mo_running_11 : decode b_Mo_running 11 = .ok (.invokevirtual 804, 3) := by decide +kernel
theorem d_Mo_running_14 : decode b_Mo_running 14 = .ok (.aload_n 0, 1) := by decide +kernel
theorem d_Mo_running_15 : decode b_Mo_running 15 = .ok (.getfield 262, 3) := by decide +kernel
theorem d_Mo_running_18 : decode b_Mo_running 18 = .ok (.aload_n 0, 1) := by decide +kernel
theorem d_Mo_running_19 : decode b_Mo_running 19 = .ok (.getfield 243, 3) := by decide +kernel
theorem d_Mo_running_22 : decode b_Mo_running 22 = .ok (.aload_n 0, 1) := by decide +kernel
theorem d_Mo_running_23 : decode b_Mo_running 23 = .ok (.getfield 239, 3) := by decide +kernel
theorem d_Mo_running_26 : decode b_Mo_running 26 = .ok (.iconst 0, 1) := by decide +kernel
theorem d_Mo_running_27 : decode b_Mo_running 27 = .ok (.aaload, 1) := by decide +kernel
theorem d_Mo_running_28 : decode b_Mo_running 28 = .ok (.if_acmp .ne 7, 3) := by decide +kernel
theorem d_Mo_running_31 : decode b_Mo_running 31 = .ok (.iconst 2, 1) := by decide +kernel
theorem d_Mo_running_32 : decode b_Mo_running 32 = .ok (.goto 4, 3) := by decide +kernel
theorem d_Mo_running_35 : decode b_Mo_running 35 = .ok (.iconst 1, 1) := by decide +kernel
theorem d_Mo_running_36 : decode b_Mo_running 36 = .ok (.lconst 0, 1) := by decide +kernel
theorem d_Mo_running_37 : decode b_Mo_running 37 = .ok (.invokevirtual 572, 3) := by decide +kernel
theorem d_Mo_running_40 : decode b_Mo_running 40 = .ok (.return_, 1) := by decide +kernel
theorem kw_229 : Cond.instanceMethod y_Mo_running ∈ wA := kinm (show _ ∈ tables_1 from (List.mem_append_right _ (List.mem_append_right _ (List.mem_append_right _ (List.mem_append_right _ (List.mem_append_right _ (List.mem_append_right _ (List.mem_append_right _ (List.mem_append_right _ (List.mem_append_right _ (List.mem_append_right _ (List.mem_append_right _ (List.mem_append_right _ (List.mem_append_left _ (List.mem_of_getElem? (l := tables_1_13) (i := 79) (by decide +kernel)))))))))))))))) (by decide +kernel)
theorem kw_230 : Cond.selects R_Mo y_Mo_running y_Mo_running ∈ wA := kinp 191 (by decide +kernel) (by decide +kernel)
theorem cv_Mo_running : CV y_Mo_running b_Mo_running 1 none 0 := ⟨kw_229, kw_230, kw_17, k_Mo_running, by decide +kernel⟩
theorem j_Mo_running_j36 {X : Cx} {q : PL} (g : Gd X y_Mo_running b_Mo_running 1 none 2 46 R_Mo) {o : (Unit) × S1} (hR : Rt X q o.2 none) (k0 : Int32) (s : S1) (ls : Array Slot) (hl : lv_has ls 1 []) (h : M_Mo_running_j36 k0 s = some o) : WW X q s 36 ls [.int k0, .ref (q.1 10 0)] := by
  unfold M_Mo_running_j36 at h
  refine ww_lconst (pc := 36) g.1 (v := 0) d_Mo_running_36 (by decide) ?_
  obtain ⟨v37, s, hc37, h⟩ := oB_of h
  refine ww_callV (pc := 37) (rest := []) g cv_Va_add (Or.inl kw_187) (cl_Va (Or.inl ⟨by decide, rfl⟩)) (pz rfl (by decide)) (ct_Va_add (Or.inl ⟨by decide, rfl⟩) hc37) ⟨by decide, by decide⟩ rfl hl.1 (Nat.le_of_ble_eq_true rfl) d_Mo_running_37 rfl ?_
  refine ww_st (st' := []) rfl ?_
  exact ww_vretH (pc := 40) g h hR d_Mo_running_40

theorem ct_Mo_running {l : Launch} {P : PP} {q : PL} {s s' : S1}  {r : Unit} (h : M_Mo_running s = some (r, s')) : Ct l y_Mo_running b_Mo_running 1 none 2 46 P q s [.ref (q.1 0 0)] none q s' := by
  refine ct_of (by decide) (Nat.le_of_ble_eq_true rfl) fun X ls eP el g hR hl => ?_
  subst eP
  have hR : Rt X q ((r, s') : Unit × S1).2 none := hR
  have hl : lv_has ls 1 [(0, .ref (q.1 0 0))] := hl
  generalize (r, s') = o at h hR
  unfold M_Mo_running at h
  refine ww_aload_n (pc := 0) g.1 d_Mo_running_0 rfl (lv_at hl 0 rfl) ?_
  refine ww_bipush (pc := 1) g.1 (v := 7) d_Mo_running_1 (by decide) ?_
  refine ww_aload_n (pc := 3) g.1 d_Mo_running_3 rfl (lv_at hl 0 rfl) ?_
  refine ww_gV (pc := 4) g (k := 72) cl_Mo (pz rfl (by decide)) (by decide) (Or.inl kw_150) (f := 72) (t := 28) rfl rfl rfl d_Mo_running_4 h fun v4 h => ?_
  refine ww_ok h fun cn4 h => ?_
  refine ww_nn cn4 ?_
  refine ww_gI (pc := 7) g (k := 0) cl_Th (pt rfl rfl cn4) (by decide) (Or.inl kw_216) (f := 3584) rfl rfl d_Mo_running_7 h fun v7 h => ?_
  refine ww_i2l (pc := 10) g.1 (v := v7.toInt64) d_Mo_running_10 rfl ?_
  obtain ⟨v11, s, hc11, h⟩ := oB_of h
  refine ww_callV (pc := 11) (rest := []) g cv_Mo_give (Or.inl kw_212) cl_Mo (pz rfl (by decide)) (ct_Mo_give hc11) ⟨by decide, by decide⟩ rfl hl.1 (Nat.le_of_ble_eq_true rfl) d_Mo_running_11 rfl ?_
  refine ww_st (st' := []) rfl ?_
  refine ww_aload_n (pc := 14) g.1 d_Mo_running_14 rfl (lv_at hl 0 rfl) ?_
  refine ww_gR (pc := 15) g (k := 78) cl_Mo (pz rfl (by decide)) (by decide) (Or.inl kw_178) (f := 78) (t := 10) rfl rfl rfl d_Mo_running_15 ?_
  refine ww_aload_n (pc := 18) g.1 d_Mo_running_18 rfl (lv_at hl 0 rfl) ?_
  refine ww_gV (pc := 19) g (k := 72) cl_Mo (pz rfl (by decide)) (by decide) (Or.inl kw_150) (f := 72) (t := 28) rfl rfl rfl d_Mo_running_19 h fun v19 h => ?_
  refine ww_ok h fun cn19 h => ?_
  refine ww_nn cn19 ?_
  refine ww_aload_n (pc := 22) g.1 d_Mo_running_22 rfl (lv_at hl 0 rfl) ?_
  refine ww_gR (pc := 23) g (k := 71) cl_Mo (pz rfl (by decide)) (by decide) (Or.inl kw_88) (f := 71) (t := 76) rfl rfl rfl d_Mo_running_23 ?_
  refine ww_iconst (pc := 26) g.1 (v := 0) d_Mo_running_26 (by decide) ?_
  refine ww_at (pc := 27) g (t := 28) (pz rfl (by decide)) rfl rfl rfl d_Mo_running_27 h fun ca27 h => ?_
  refine ww_acmp_ne (pc := 28) (tgt := 35) g.1 (pt rfl rfl cn19) (pt rfl rfl ca27) d_Mo_running_28 (by decide) h (fun c h => ?_) (fun c h => ?_)
  · refine ww_iconst (pc := 35) g.1 (v := 1) d_Mo_running_35 (by decide) ?_
    exact j_Mo_running_j36 g hR 1 s ls (lv_sub hl [] rfl) h
  · refine ww_iconst (pc := 31) g.1 (v := 2) d_Mo_running_31 (by decide) ?_
    refine ww_goto (pc := 32) (tgt := 36) g.1 d_Mo_running_32 (by decide) ?_
    exact j_Mo_running_j36 g hR 2 s ls (lv_sub hl [] rfl) h

abbrev b_Mo_finished : ByteArray := prog_14_method_75_code
def y_Mo_finished : MethodName := ⟨R_Mo, "finished", "()V"⟩
abbrev w_Mo_finished : List Cond := .code y_Mo_finished b_Mo_finished 3 none :: wA
theorem k_Mo_finished : Cond.code y_Mo_finished b_Mo_finished 3 none ∈ wA := kinm (show _ ∈ tables_1 from (List.mem_append_right _ (List.mem_append_right _ (List.mem_append_right _ (List.mem_append_right _ (List.mem_append_right _ (List.mem_append_right _ (List.mem_append_right _ (List.mem_append_right _ (List.mem_append_right _ (List.mem_append_right _ (List.mem_append_right _ (List.mem_append_right _ (List.mem_append_left _ (List.mem_of_getElem? (l := tables_1_13) (i := 88) (by decide +kernel)))))))))))))))) (by decide +kernel)
theorem d_Mo_finished_0 : decode b_Mo_finished 0 = .ok (.aload_n 0, 1) := by decide +kernel
theorem d_Mo_finished_1 : decode b_Mo_finished 1 = .ok (.getfield 243, 3) := by decide +kernel
theorem d_Mo_finished_4 : decode b_Mo_finished 4 = .ok (.astore_n 1, 1) := by decide +kernel
theorem d_Mo_finished_5 : decode b_Mo_finished 5 = .ok (.aload_n 1, 1) := by decide +kernel
theorem d_Mo_finished_6 : decode b_Mo_finished 6 = .ok (.iconst 3, 1) := by decide +kernel
theorem d_Mo_finished_7 : decode b_Mo_finished 7 = .ok (.putfield 694, 3) := by decide +kernel
theorem d_Mo_finished_10 : decode b_Mo_finished 10 = .ok (.aload_n 1, 1) := by decide +kernel
theorem d_Mo_finished_11 : decode b_Mo_finished 11 = .ok (.aload_n 0, 1) := by decide +kernel
theorem d_Mo_finished_12 : decode b_Mo_finished 12 = .ok (.getfield 239, 3) := by decide +kernel
theorem d_Mo_finished_15 : decode b_Mo_finished 15 = .ok (.iconst 0, 1) := by decide +kernel
theorem d_Mo_finished_16 : decode b_Mo_finished 16 = .ok (.aaload, 1) := by decide +kernel
theorem d_Mo_finished_17 : decode b_Mo_finished 17 = .ok (.if_acmp .ne 56, 3) := by decide +kernel
theorem d_Mo_finished_20 : decode b_Mo_finished 20 = .ok (.aload_n 0, 1) := by decide +kernel
theorem d_Mo_finished_21 : decode b_Mo_finished 21 = .ok (.iconst 1, 1) := by decide +kernel
theorem d_Mo_finished_22 : decode b_Mo_finished 22 = .ok (.putfield 268, 3) := by decide +kernel
theorem d_Mo_finished_25 : decode b_Mo_finished 25 = .ok (.aload_n 0, 1) := by decide +kernel
theorem d_Mo_finished_26 : decode b_Mo_finished 26 = .ok (.getfield 265, 3) := by decide +kernel
theorem d_Mo_finished_29 : decode b_Mo_finished 29 = .ok (.iconst 0, 1) := by decide +kernel
theorem d_Mo_finished_30 : decode b_Mo_finished 30 = .ok (.putfield 569, 3) := by decide +kernel
theorem d_Mo_finished_33 : decode b_Mo_finished 33 = .ok (.iconst 0, 1) := by decide +kernel
theorem d_Mo_finished_34 : decode b_Mo_finished 34 = .ok (.istore_n 2, 1) := by decide +kernel
theorem d_Mo_finished_35 : decode b_Mo_finished 35 = .ok (.iload_n 2, 1) := by decide +kernel
theorem d_Mo_finished_36 : decode b_Mo_finished 36 = .ok (.aload_n 0, 1) := by decide +kernel
theorem d_Mo_finished_37 : decode b_Mo_finished 37 = .ok (.getfield 262, 3) := by decide +kernel
theorem d_Mo_finished_40 : decode b_Mo_finished 40 = .ok (.getfield 569, 3) := by decide +kernel
theorem d_Mo_finished_43 : decode b_Mo_finished 43 = .ok (.if_icmp .ge 21, 3) := by decide +kernel
theorem d_Mo_finished_46 : decode b_Mo_finished 46 = .ok (.aload_n 0, 1) := by decide +kernel
theorem d_Mo_finished_47 : decode b_Mo_finished 47 = .ok (.getfield 265, 3) := by decide +kernel
theorem d_Mo_finished_50 : decode b_Mo_finished 50 = .ok (.aload_n 0, 1) := by decide +kernel
theorem d_Mo_finished_51 : decode b_Mo_finished 51 = .ok (.getfield 262, 3) := by decide +kernel
theorem d_Mo_finished_54 : decode b_Mo_finished 54 = .ok (.iload_n 2, 1) := by decide +kernel
theorem d_Mo_finished_55 : decode b_Mo_finished 55 = .ok (.invokevirtual 770, 3) := by decide +kernel
theorem d_Mo_finished_58 : decode b_Mo_finished 58 = .ok (.iinc 2 1, 3) := by decide +kernel
theorem d_Mo_finished_61 : decode b_Mo_finished 61 = .ok (.goto (-26), 3) := by decide +kernel
theorem d_Mo_finished_64 : decode b_Mo_finished 64 = .ok (.aload_n 0, 1) := by decide +kernel
theorem d_Mo_finished_65 : decode b_Mo_finished 65 = .ok (.getfield 262, 3) := by decide +kernel
theorem d_Mo_finished_68 : decode b_Mo_finished 68 = .ok (.iconst 0, 1) := by decide +kernel
theorem d_Mo_finished_69 : decode b_Mo_finished 69 = .ok (.putfield 569, 3) := by decide +kernel
theorem d_Mo_finished_72 : decode b_Mo_finished 72 = .ok (.return_, 1) := by decide +kernel
theorem d_Mo_finished_73 : decode b_Mo_finished 73 = .ok (.aload_n 0, 1) := by decide +kernel
theorem d_Mo_finished_74 : decode b_Mo_finished 74 = .ok (.aload_n 1, 1) := by decide +kernel
theorem d_Mo_finished_75 : decode b_Mo_finished 75 = .ok (.invokevirtual 783, 3) := by decide +kernel
theorem d_Mo_finished_78 : decode b_Mo_finished 78 = .ok (.aload_n 0, 1) := by decide +kernel
theorem d_Mo_finished_79 : decode b_Mo_finished 79 = .ok (.iconst 2, 1) := by decide +kernel
theorem d_Mo_finished_80 : decode b_Mo_finished 80 = .ok (.putfield 247, 3) := by decide +kernel
theorem d_Mo_finished_83 : decode b_Mo_finished 83 = .ok (.return_, 1) := by decide +kernel
theorem kw_231 : Cond.methodLink R_Mo 783 y_Mo_back ∈ wA := kinm (show _ ∈ tables_1 from (List.mem_append_right _ (List.mem_append_right _ (List.mem_append_right _ (List.mem_append_right _ (List.mem_append_right _ (List.mem_append_right _ (List.mem_append_right _ (List.mem_append_right _ (List.mem_append_right _ (List.mem_append_right _ (List.mem_append_right _ (List.mem_append_right _ (List.mem_append_left _ (List.mem_of_getElem? (l := tables_1_13) (i := 69) (by decide +kernel)))))))))))))))) (by decide +kernel)
theorem kw_232 : Cond.fieldLink R_Mo 268 "LuaMachineModel" "status" "I" ∈ wA := kinm (show _ ∈ tables_1 from (List.mem_append_right _ (List.mem_append_right _ (List.mem_append_right _ (List.mem_append_right _ (List.mem_append_right _ (List.mem_append_right _ (List.mem_append_right _ (List.mem_append_right _ (List.mem_append_right _ (List.mem_append_left _ (List.mem_of_getElem? (l := tables_1_10) (i := 136) (by decide +kernel))))))))))))) (by decide +kernel)
theorem kw_233 : Cond.fieldLink R_Mo 265 "LuaMachineModel" "ended" "LLuaMachineModel$Values;" ∈ wA := kinm (show _ ∈ tables_1 from (List.mem_append_right _ (List.mem_append_right _ (List.mem_append_right _ (List.mem_append_right _ (List.mem_append_right _ (List.mem_append_right _ (List.mem_append_right _ (List.mem_append_right _ (List.mem_append_right _ (List.mem_append_left _ (List.mem_of_getElem? (l := tables_1_10) (i := 135) (by decide +kernel))))))))))))) (by decide +kernel)
theorem kw_234 : Cond.instanceMethod y_Mo_finished ∈ wA := kinm (show _ ∈ tables_1 from (List.mem_append_right _ (List.mem_append_right _ (List.mem_append_right _ (List.mem_append_right _ (List.mem_append_right _ (List.mem_append_right _ (List.mem_append_right _ (List.mem_append_right _ (List.mem_append_right _ (List.mem_append_right _ (List.mem_append_right _ (List.mem_append_right _ (List.mem_append_left _ (List.mem_of_getElem? (l := tables_1_13) (i := 87) (by decide +kernel)))))))))))))))) (by decide +kernel)
theorem kw_235 : Cond.selects R_Mo y_Mo_finished y_Mo_finished ∈ wA := kinp 193 (by decide +kernel) (by decide +kernel)
theorem cv_Mo_finished : CV y_Mo_finished b_Mo_finished 3 none 0 := ⟨kw_234, kw_235, kw_17, k_Mo_finished, by decide +kernel⟩
theorem lp_Mo_finished_L35 {X : Cx} {q : PL} (g : Gd X y_Mo_finished b_Mo_finished 3 none 2 45 R_Mo) (x : Int32) (s : S1) (o : ((Int32) ⊕ ((Unit))) × S1) (h : M_Mo_finished_L35 x s = some o) (hR : (Sum.elim (fun y : Int32 => ∀ ls : Array Slot, lv_has ls 3 [(0, .ref (q.1 0 0)), (2, .int y)] → WW X q o.2 35 ls []) (fun y : Unit => ∀ ls : Array Slot, lv_has ls 3 [(0, .ref (q.1 0 0))] → WW X q o.2 64 ls []) o.1)) : ∀ ls : Array Slot, lv_has ls 3 [(0, .ref (q.1 0 0)), (2, .int x)] → WW X q s 35 ls [] := by
  intro ls hl
  unfold M_Mo_finished_L35 at h
  refine ww_iload_n (pc := 35) g.1 d_Mo_finished_35 rfl (lv_at hl 1 rfl) ?_
  refine ww_aload_n (pc := 36) g.1 d_Mo_finished_36 rfl (lv_at hl 0 rfl) ?_
  refine ww_gR (pc := 37) g (k := 78) cl_Mo (pz rfl (by decide)) (by decide) (Or.inl kw_178) (f := 78) (t := 10) rfl rfl rfl d_Mo_finished_37 ?_
  refine ww_gI (pc := 40) g (k := 2) (cl_Va (Or.inl ⟨by decide, rfl⟩)) (pz rfl (by decide)) (by decide) (Or.inl kw_179) (f := 1282) rfl rfl d_Mo_finished_40 h fun v40 h => ?_
  refine ww_icmp_ge (pc := 43) (tgt := 64) g.1 d_Mo_finished_43 (by decide) h (fun c h => ?_) (fun c h => ?_)
  · rw [oR_eq h] at hR
    exact hR ls (lv_sub hl [0] rfl)
  · refine ww_aload_n (pc := 46) g.1 d_Mo_finished_46 rfl (lv_at hl 0 rfl) ?_
    refine ww_gR (pc := 47) g (k := 79) cl_Mo (pz rfl (by decide)) (by decide) (Or.inl kw_233) (f := 79) (t := 13) rfl rfl rfl d_Mo_finished_47 ?_
    refine ww_aload_n (pc := 50) g.1 d_Mo_finished_50 rfl (lv_at hl 0 rfl) ?_
    refine ww_gR (pc := 51) g (k := 78) cl_Mo (pz rfl (by decide)) (by decide) (Or.inl kw_178) (f := 78) (t := 10) rfl rfl rfl d_Mo_finished_51 ?_
    refine ww_iload_n (pc := 54) g.1 d_Mo_finished_54 rfl (lv_at hl 1 rfl) ?_
    obtain ⟨v55, s, hc55, h⟩ := oB_of h
    refine ww_callV (pc := 55) (rest := []) g cv_Va_add_ (Or.inl kw_221) (cl_Va (Or.inl ⟨by decide, rfl⟩)) (pz rfl (by decide)) (ct_Va_add_ (Or.inl ⟨by decide, rfl⟩) (Or.inl ⟨by decide, rfl⟩) hc55) ⟨by decide, by decide⟩ rfl hl.1 (Nat.le_of_ble_eq_true rfl) d_Mo_finished_55 rfl ?_
    refine ww_st (st' := []) rfl ?_
    refine ww_iinc (pc := 58) g.1 (v := x + 1) (lv' := [(2, .int (x + 1)), (0, .ref (q.1 0 0))]) d_Mo_finished_58 hl (k := 1) rfl (by rfl) (by decide) rfl fun ls hl => ?_
    refine ww_goto (pc := 61) (tgt := 35) g.1 d_Mo_finished_61 (by decide) ?_
    rw [oR_eq h] at hR
    exact hR ls (lv_sub hl [1, 0] rfl)

theorem ct_Mo_finished {l : Launch} {P : PP} {q : PL} {s s' : S1}  {r : Unit} (h : M_Mo_finished s = some (r, s')) : Ct l y_Mo_finished b_Mo_finished 3 none 2 45 P q s [.ref (q.1 0 0)] none q s' := by
  refine ct_of (by decide) (Nat.le_of_ble_eq_true rfl) fun X ls eP el g hR hl => ?_
  subst eP
  have hR : Rt X q ((r, s') : Unit × S1).2 none := hR
  have hl : lv_has ls 3 [(0, .ref (q.1 0 0))] := hl
  generalize (r, s') = o at h hR
  unfold M_Mo_finished at h
  refine ww_aload_n (pc := 0) g.1 d_Mo_finished_0 rfl (lv_at hl 0 rfl) ?_
  refine ww_gV (pc := 1) g (k := 72) cl_Mo (pz rfl (by decide)) (by decide) (Or.inl kw_150) (f := 72) (t := 28) rfl rfl rfl d_Mo_finished_1 h fun v1 h => ?_
  refine ww_astore_nV (pc := 4) (i := 1) g.1 vr_cases (lv' := [(1, vr q 28 v1), (0, .ref (q.1 0 0))]) d_Mo_finished_4 rfl hl (by decide) rfl fun ls hl => ?_
  refine ww_aload_nV (pc := 5) g.1 vr_cases d_Mo_finished_5 rfl (lv_at hl 0 rfl) ?_
  refine ww_ok h fun cn5 h => ?_
  refine ww_nn cn5 ?_
  refine ww_iconst (pc := 6) g.1 (v := 3) d_Mo_finished_6 (by decide) ?_
  refine ww_pI (pc := 7) g (k := 1) cl_Th (pt rfl rfl cn5) (by decide) (Or.inl kw_217) rfl (f := 3585) rfl rfl rfl rfl d_Mo_finished_7 h fun s hs h => ?_
  refine ww_aload_nV (pc := 10) g.1 vr_cases d_Mo_finished_10 rfl (lv_at hl 0 rfl) ?_
  refine ww_ok h fun cn10 h => ?_
  refine ww_nn cn10 ?_
  refine ww_aload_n (pc := 11) g.1 d_Mo_finished_11 rfl (lv_at hl 1 rfl) ?_
  refine ww_gR (pc := 12) g (k := 71) cl_Mo (pz rfl (by decide)) (by decide) (Or.inl kw_88) (f := 71) (t := 76) rfl rfl rfl d_Mo_finished_12 ?_
  refine ww_iconst (pc := 15) g.1 (v := 0) d_Mo_finished_15 (by decide) ?_
  refine ww_at (pc := 16) g (t := 28) (pz rfl (by decide)) rfl rfl rfl d_Mo_finished_16 h fun ca16 h => ?_
  refine ww_acmp_ne (pc := 17) (tgt := 73) g.1 (pt rfl rfl cn10) (pt rfl rfl ca16) d_Mo_finished_17 (by decide) h (fun c h => ?_) (fun c h => ?_)
  · refine ww_aload_n (pc := 73) g.1 d_Mo_finished_73 rfl (lv_at hl 1 rfl) ?_
    refine ww_aload_nV (pc := 74) g.1 vr_cases d_Mo_finished_74 rfl (lv_at hl 0 rfl) ?_
    refine ww_ok h fun cn74 h => ?_
    refine ww_nn cn74 ?_
    obtain ⟨v75, s, hc75, h⟩ := oB_of h
    refine ww_callV (pc := 75) (rest := []) g cv_Mo_back (Or.inl kw_231) cl_Mo (pz rfl (by decide)) (ct_Mo_back cn74 hc75) ⟨by decide, by decide⟩ rfl hl.1 (Nat.le_of_ble_eq_true rfl) d_Mo_finished_75 rfl ?_
    refine ww_st (st' := []) rfl ?_
    refine ww_aload_n (pc := 78) g.1 d_Mo_finished_78 rfl (lv_at hl 1 rfl) ?_
    refine ww_iconst (pc := 79) g.1 (v := 2) d_Mo_finished_79 (by decide) ?_
    refine ww_pI (pc := 80) g (k := 73) cl_Mo (pz rfl (by decide)) (by decide) (Or.inl kw_75) rfl (f := 73) rfl rfl rfl rfl d_Mo_finished_80 h fun s hs h => ?_
    exact ww_vretH (pc := 83) g h hR d_Mo_finished_83
  · refine ww_aload_n (pc := 20) g.1 d_Mo_finished_20 rfl (lv_at hl 1 rfl) ?_
    refine ww_iconst (pc := 21) g.1 (v := 1) d_Mo_finished_21 (by decide) ?_
    refine ww_pI (pc := 22) g (k := 80) cl_Mo (pz rfl (by decide)) (by decide) (Or.inl kw_232) rfl (f := 80) rfl rfl rfl rfl d_Mo_finished_22 h fun s hs h => ?_
    refine ww_aload_n (pc := 25) g.1 d_Mo_finished_25 rfl (lv_at hl 1 rfl) ?_
    refine ww_gR (pc := 26) g (k := 79) cl_Mo (pz rfl (by decide)) (by decide) (Or.inl kw_233) (f := 79) (t := 13) rfl rfl rfl d_Mo_finished_26 ?_
    refine ww_iconst (pc := 29) g.1 (v := 0) d_Mo_finished_29 (by decide) ?_
    refine ww_pI (pc := 30) g (k := 2) (cl_Va (Or.inl ⟨by decide, rfl⟩)) (pz rfl (by decide)) (by decide) (Or.inl kw_179) rfl (f := 1666) rfl rfl rfl rfl d_Mo_finished_30 h fun s hs h => ?_
    refine ww_iconst (pc := 33) g.1 (v := 0) d_Mo_finished_33 (by decide) ?_
    refine ww_istore_n (pc := 34) (i := 2) g.1 (lv' := [(2, .int 0), (1, vr q 28 v1), (0, .ref (q.1 0 0))]) d_Mo_finished_34 rfl hl (by decide) (by simp [vr_cat]) fun ls hl => ?_
    obtain ⟨e35, s1, hw, h⟩ := oB_of h
    refine oW_rule (Wh := fun (x : Int32) (s : S1) => ∀ ls : Array Slot, lv_has ls 3 [(0, .ref (q.1 0 0)), (2, .int x)] → WW X q s 35 ls []) (We := fun (e : (Unit)) (s : S1) => ∀ ls : Array Slot, lv_has ls 3 [(0, .ref (q.1 0 0))] → WW X q s 64 ls []) (fun x s o hb hc => lp_Mo_finished_L35 (q := q) g x s o hb hc) hw ?_ ls (lv_sub hl [2, 0] rfl)
    clear hw hl
    clear ls
    intro ls hl
    generalize s1 = s at h ⊢
    refine ww_aload_n (pc := 64) g.1 d_Mo_finished_64 rfl (lv_at hl 0 rfl) ?_
    refine ww_gR (pc := 65) g (k := 78) cl_Mo (pz rfl (by decide)) (by decide) (Or.inl kw_178) (f := 78) (t := 10) rfl rfl rfl d_Mo_finished_65 ?_
    refine ww_iconst (pc := 68) g.1 (v := 0) d_Mo_finished_68 (by decide) ?_
    refine ww_pI (pc := 69) g (k := 2) (cl_Va (Or.inl ⟨by decide, rfl⟩)) (pz rfl (by decide)) (by decide) (Or.inl kw_179) rfl (f := 1282) rfl rfl rfl rfl d_Mo_finished_69 h fun s hs h => ?_
    exact ww_vretH (pc := 72) g h hR d_Mo_finished_72


