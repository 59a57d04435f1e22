abbrev b_Ro_init : ByteArray := prog_9_method_1_code
def y_Ro_init : MethodName := ⟨R_Ro, "<init>", "()V"⟩
abbrev w_Ro_init : List Cond := .code y_Ro_init b_Ro_init 1 none :: wA
theorem k_Ro_init : Cond.code y_Ro_init b_Ro_init 1 none ∈ wA := kinm (show _ ∈ tables_1 from (List.mem_append_right _ (List.mem_append_left _ (List.mem_of_getElem? (l := tables_1_2) (i := 22) (by decide +kernel))))) (by decide +kernel)
theorem d_Ro_init_0 : decode b_Ro_init 0 = .ok (.aload_n 0, 1) := by decide +kernel
theorem d_Ro_init_1 : decode b_Ro_init 1 = .ok (.invokespecial 3, 3) := by decide +kernel
theorem d_Ro_init_4 : decode b_Ro_init 4 = .ok (.aload_n 0, 1) := by decide +kernel
theorem d_Ro_init_5 : decode b_Ro_init 5 = .ok (.sipush 512, 3) := by decide +kernel
theorem d_Ro_init_8 : decode b_Ro_init 8 = .ok (.newarray .byte, 2) := by decide +kernel
theorem d_Ro_init_10 : decode b_Ro_init 10 = .ok (.putfield 9, 3) := by decide +kernel
theorem d_Ro_init_13 : decode b_Ro_init 13 = .ok (.aload_n 0, 1) := by decide +kernel
theorem d_Ro_init_14 : decode b_Ro_init 14 = .ok (.sipush 512, 3) := by decide +kernel
theorem d_Ro_init_17 : decode b_Ro_init 17 = .ok (.newarray .long, 2) := by decide +kernel
theorem d_Ro_init_19 : decode b_Ro_init 19 = .ok (.putfield 15, 3) := by decide +kernel
theorem d_Ro_init_22 : decode b_Ro_init 22 = .ok (.return_, 1) := by decide +kernel
theorem kw_19 : Cond.methodLink R_Ro 3 objectInit ∈ wA := kinm (show _ ∈ tables_1 from (List.mem_append_right _ (List.mem_append_left _ (List.mem_of_getElem? (l := tables_1_2) (i := 23) (by decide +kernel))))) (by decide +kernel)
theorem kw_20 : Cond.fieldLink R_Ro 9 "LuaMachine$Row" "kinds" "[B" ∈ wA := kinm (show _ ∈ tables_1 from (List.mem_append_right _ (List.mem_append_left _ (List.mem_of_getElem? (l := tables_1_2) (i := 24) (by decide +kernel))))) (by decide +kernel)
theorem kw_21 : Cond.fieldLink R_Ro 15 "LuaMachine$Row" "values" "[J" ∈ wA := kinm (show _ ∈ tables_1 from (List.mem_append_right _ (List.mem_append_left _ (List.mem_of_getElem? (l := tables_1_2) (i := 30) (by decide +kernel))))) (by decide +kernel)
abbrev b_He_init : ByteArray := prog_6_method_1_code
def y_He_init : MethodName := ⟨R_He, "<init>", "()V"⟩
abbrev w_He_init : List Cond := .code y_He_init b_He_init 1 none :: wA
theorem k_He_init : Cond.code y_He_init b_He_init 1 none ∈ wA := kinm (show _ ∈ tables_1 from (List.mem_append_left _ (List.mem_of_getElem? (l := tables_1_1) (i := 127) (by decide +kernel)))) (by decide +kernel)
theorem d_He_init_0 : decode b_He_init 0 = .ok (.aload_n 0, 1) := by decide +kernel
theorem d_He_init_1 : decode b_He_init 1 = .ok (.invokespecial 3, 3) := by decide +kernel
theorem d_He_init_4 : decode b_He_init 4 = .ok (.aload_n 0, 1) := by decide +kernel
theorem d_He_init_5 : decode b_He_init 5 = .ok (.sipush 4000, 3) := by decide +kernel
theorem d_He_init_8 : decode b_He_init 8 = .ok (.anewarray 9, 3) := by decide +kernel
theorem d_He_init_11 : decode b_He_init 11 = .ok (.putfield 11, 3) := by decide +kernel
theorem d_He_init_14 : decode b_He_init 14 = .ok (.aload_n 0, 1) := by decide +kernel
theorem d_He_init_15 : decode b_He_init 15 = .ok (.sipush 4000, 3) := by decide +kernel
theorem d_He_init_18 : decode b_He_init 18 = .ok (.newarray .int, 2) := by decide +kernel
theorem d_He_init_20 : decode b_He_init 20 = .ok (.putfield 17, 3) := by decide +kernel
theorem d_He_init_23 : decode b_He_init 23 = .ok (.aload_n 0, 1) := by decide +kernel
theorem d_He_init_24 : decode b_He_init 24 = .ok (.bipush 15, 2) := by decide +kernel
theorem d_He_init_26 : decode b_He_init 26 = .ok (.newarray .int, 2) := by decide +kernel
theorem d_He_init_28 : decode b_He_init 28 = .ok (.putfield 21, 3) := by decide +kernel
theorem d_He_init_31 : decode b_He_init 31 = .ok (.aload_n 0, 1) := by decide +kernel
theorem d_He_init_32 : decode b_He_init 32 = .ok (.bipush 57, 2) := by decide +kernel
theorem d_He_init_34 : decode b_He_init 34 = .ok (.newarray .int, 2) := by decide +kernel
theorem d_He_init_36 : decode b_He_init 36 = .ok (.putfield 24, 3) := by decide +kernel
theorem d_He_init_39 : decode b_He_init 39 = .ok (.aload_n 0, 1) := by decide +kernel
theorem d_He_init_40 : decode b_He_init 40 = .ok (.bipush 32, 2) := by decide +kernel
theorem d_He_init_42 : decode b_He_init 42 = .ok (.anewarray 27, 3) := by decide +kernel
theorem d_He_init_45 : decode b_He_init 45 = .ok (.putfield 29, 3) := by decide +kernel
theorem d_He_init_48 : decode b_He_init 48 = .ok (.aload_n 0, 1) := by decide +kernel
theorem d_He_init_49 : decode b_He_init 49 = .ok (.sipush 4096, 3) := by decide +kernel
theorem d_He_init_52 : decode b_He_init 52 = .ok (.newarray .int, 2) := by decide +kernel
theorem d_He_init_54 : decode b_He_init 54 = .ok (.putfield 33, 3) := by decide +kernel
theorem d_He_init_57 : decode b_He_init 57 = .ok (.aload_n 0, 1) := by decide +kernel
theorem d_He_init_58 : decode b_He_init 58 = .ok (.sipush 1024, 3) := by decide +kernel
theorem d_He_init_61 : decode b_He_init 61 = .ok (.newarray .byte, 2) := by decide +kernel
theorem d_He_init_63 : decode b_He_init 63 = .ok (.putfield 36, 3) := by decide +kernel
theorem d_He_init_66 : decode b_He_init 66 = .ok (.aload_n 0, 1) := by decide +kernel
theorem d_He_init_67 : decode b_He_init 67 = .ok (.sipush 4000, 3) := by decide +kernel
theorem d_He_init_70 : decode b_He_init 70 = .ok (.newarray .int, 2) := by decide +kernel
theorem d_He_init_72 : decode b_He_init 72 = .ok (.putfield 40, 3) := by decide +kernel
theorem d_He_init_75 : decode b_He_init 75 = .ok (.aload_n 0, 1) := by decide +kernel
theorem d_He_init_76 : decode b_He_init 76 = .ok (.sipush 1000, 3) := by decide +kernel
theorem d_He_init_79 : decode b_He_init 79 = .ok (.putfield 43, 3) := by decide +kernel
theorem d_He_init_82 : decode b_He_init 82 = .ok (.return_, 1) := by decide +kernel
theorem kw_22 : Cond.methodLink R_He 3 objectInit ∈ wA := kinm (show _ ∈ tables_1 from (List.mem_append_left _ (List.mem_of_getElem? (l := tables_1_1) (i := 128) (by decide +kernel)))) (by decide +kernel)
theorem kw_23 : Cond.classLink R_He 9 "LuaMachine$Thing" ∈ wA := kinm (show _ ∈ tables_1 from (List.mem_append_left _ (List.mem_of_getElem? (l := tables_1_1) (i := 129) (by decide +kernel)))) (by decide +kernel)
theorem nwa_LuaMachine_Thing : Cond.arrayOver (.object "LuaMachine$Thing") ∈ xW := xinm (show _ ∈ tables_1 from (List.mem_append_left _ (List.mem_of_getElem? (l := tables_1_1) (i := 130) (by decide +kernel)))) (by decide +kernel)
theorem kw_25 : Cond.fieldLink R_He 11 "LuaMachine$Heap" "things" "[LLuaMachine$Thing;" ∈ wA := kinm (show _ ∈ tables_1 from (List.mem_append_left _ (List.mem_of_getElem? (l := tables_1_1) (i := 133) (by decide +kernel)))) (by decide +kernel)
theorem kw_26 : Cond.fieldLink R_He 17 "LuaMachine$Heap" "free" "[I" ∈ wA := kinm (show _ ∈ tables_1 from (List.mem_append_left _ (List.mem_of_getElem? (l := tables_1_1) (i := 140) (by decide +kernel)))) (by decide +kernel)
theorem kw_27 : Cond.fieldLink R_He 21 "LuaMachine$Heap" "tally" "[I" ∈ wA := kinm (show _ ∈ tables_1 from (List.mem_append_left _ (List.mem_of_getElem? (l := tables_1_1) (i := 142) (by decide +kernel)))) (by decide +kernel)
theorem kw_28 : Cond.fieldLink R_He 24 "LuaMachine$Heap" "names" "[I" ∈ wA := kinm (show _ ∈ tables_1 from (List.mem_append_left _ (List.mem_of_getElem? (l := tables_1_1) (i := 146) (by decide +kernel)))) (by decide +kernel)
theorem kw_29 : Cond.classLink R_He 27 "LuaMachine$Coroutine" ∈ wA := kinm (show _ ∈ tables_1 from (List.mem_append_left _ (List.mem_of_getElem? (l := tables_1_1) (i := 131) (by decide +kernel)))) (by decide +kernel)
theorem nwa_LuaMachine_Coroutine : Cond.arrayOver (.object "LuaMachine$Coroutine") ∈ xW := xinm (show _ ∈ tables_1 from (List.mem_append_left _ (List.mem_of_getElem? (l := tables_1_1) (i := 132) (by decide +kernel)))) (by decide +kernel)
theorem kw_31 : Cond.fieldLink R_He 29 "LuaMachine$Heap" "coroutines" "[LLuaMachine$Coroutine;" ∈ wA := kinm (show _ ∈ tables_1 from (List.mem_append_left _ (List.mem_of_getElem? (l := tables_1_1) (i := 150) (by decide +kernel)))) (by decide +kernel)
theorem kw_32 : Cond.fieldLink R_He 33 "LuaMachine$Heap" "buckets" "[I" ∈ wA := kinm (show _ ∈ tables_1 from (List.mem_append_left _ (List.mem_of_getElem? (l := tables_1_1) (i := 152) (by decide +kernel)))) (by decide +kernel)
theorem kw_33 : Cond.fieldLink R_He 36 "LuaMachine$Heap" "work" "[B" ∈ wA := kinm (show _ ∈ tables_1 from (List.mem_append_left _ (List.mem_of_getElem? (l := tables_1_1) (i := 153) (by decide +kernel)))) (by decide +kernel)
theorem kw_34 : Cond.fieldLink R_He 40 "LuaMachine$Heap" "waiting" "[I" ∈ wA := kinm (show _ ∈ tables_1 from (List.mem_append_left _ (List.mem_of_getElem? (l := tables_1_1) (i := 161) (by decide +kernel)))) (by decide +kernel)
theorem kw_35 : Cond.fieldLink R_He 43 "LuaMachine$Heap" "most" "I" ∈ wA := kinm (show _ ∈ tables_1 from (List.mem_append_left _ (List.mem_of_getElem? (l := tables_1_1) (i := 163) (by decide +kernel)))) (by decide +kernel)
abbrev b_Ta_init : ByteArray := prog_11_method_1_code
def y_Ta_init : MethodName := ⟨R_Ta, "<init>", "(LLuaMachine$Heap;)V"⟩
abbrev w_Ta_init : List Cond := .code y_Ta_init b_Ta_init 2 none :: wA
theorem k_Ta_init : Cond.code y_Ta_init b_Ta_init 2 none ∈ wA := kinm (show _ ∈ tables_1 from (List.mem_append_left _ (List.mem_of_getElem? (l := tables_1_1) (i := 209) (by decide +kernel)))) (by decide +kernel)
theorem d_Ta_init_0 : decode b_Ta_init 0 = .ok (.aload_n 0, 1) := by decide +kernel
theorem d_Ta_init_1 : decode b_Ta_init 1 = .ok (.invokespecial 3, 3) := by decide +kernel
theorem d_Ta_init_4 : decode b_Ta_init 4 = .ok (.aload_n 0, 1) := by decide +kernel
theorem d_Ta_init_5 : decode b_Ta_init 5 = .ok (.ldc 9, 2) := by decide +kernel
theorem d_Ta_init_7 : decode b_Ta_init 7 = .ok (.newarray .byte, 2) := by decide +kernel
theorem d_Ta_init_9 : decode b_Ta_init 9 = .ok (.putfield 10, 3) := by decide +kernel
theorem d_Ta_init_12 : decode b_Ta_init 12 = .ok (.aload_n 0, 1) := by decide +kernel
theorem d_Ta_init_13 : decode b_Ta_init 13 = .ok (.ldc 9, 2) := by decide +kernel
theorem d_Ta_init_15 : decode b_Ta_init 15 = .ok (.newarray .long, 2) := by decide +kernel
theorem d_Ta_init_17 : decode b_Ta_init 17 = .ok (.putfield 16, 3) := by decide +kernel
theorem d_Ta_init_20 : decode b_Ta_init 20 = .ok (.aload_n 0, 1) := by decide +kernel
theorem d_Ta_init_21 : decode b_Ta_init 21 = .ok (.ldc 9, 2) := by decide +kernel
theorem d_Ta_init_23 : decode b_Ta_init 23 = .ok (.newarray .byte, 2) := by decide +kernel
theorem d_Ta_init_25 : decode b_Ta_init 25 = .ok (.putfield 20, 3) := by decide +kernel
theorem d_Ta_init_28 : decode b_Ta_init 28 = .ok (.aload_n 0, 1) := by decide +kernel
theorem d_Ta_init_29 : decode b_Ta_init 29 = .ok (.ldc 9, 2) := by decide +kernel
theorem d_Ta_init_31 : decode b_Ta_init 31 = .ok (.newarray .long, 2) := by decide +kernel
theorem d_Ta_init_33 : decode b_Ta_init 33 = .ok (.putfield 23, 3) := by decide +kernel
theorem d_Ta_init_36 : decode b_Ta_init 36 = .ok (.aload_n 0, 1) := by decide +kernel
theorem d_Ta_init_37 : decode b_Ta_init 37 = .ok (.ldc 9, 2) := by decide +kernel
theorem d_Ta_init_39 : decode b_Ta_init 39 = .ok (.newarray .int, 2) := by decide +kernel
theorem d_Ta_init_41 : decode b_Ta_init 41 = .ok (.putfield 26, 3) := by decide +kernel
theorem d_Ta_init_44 : decode b_Ta_init 44 = .ok (.aload_n 0, 1) := by decide +kernel
theorem d_Ta_init_45 : decode b_Ta_init 45 = .ok (.ldc 9, 2) := by decide +kernel
theorem d_Ta_init_47 : decode b_Ta_init 47 = .ok (.newarray .int, 2) := by decide +kernel
theorem d_Ta_init_49 : decode b_Ta_init 49 = .ok (.putfield 30, 3) := by decide +kernel
theorem d_Ta_init_52 : decode b_Ta_init 52 = .ok (.aload_n 0, 1) := by decide +kernel
theorem d_Ta_init_53 : decode b_Ta_init 53 = .ok (.ldc 9, 2) := by decide +kernel
theorem d_Ta_init_55 : decode b_Ta_init 55 = .ok (.newarray .int, 2) := by decide +kernel
theorem d_Ta_init_57 : decode b_Ta_init 57 = .ok (.putfield 33, 3) := by decide +kernel
theorem d_Ta_init_60 : decode b_Ta_init 60 = .ok (.aload_n 0, 1) := by decide +kernel
theorem d_Ta_init_61 : decode b_Ta_init 61 = .ok (.aload_n 1, 1) := by decide +kernel
theorem d_Ta_init_62 : decode b_Ta_init 62 = .ok (.putfield 36, 3) := by decide +kernel
theorem d_Ta_init_65 : decode b_Ta_init 65 = .ok (.return_, 1) := by decide +kernel
theorem kw_36 : Cond.methodLink R_Ta 3 objectInit ∈ wA := kinm (show _ ∈ tables_1 from (List.mem_append_left _ (List.mem_of_getElem? (l := tables_1_1) (i := 210) (by decide +kernel)))) (by decide +kernel)
theorem kw_37 : Cond.constant R_Ta 9 50000 ∈ wA := kinm (show _ ∈ tables_1 from (List.mem_append_left _ (List.mem_of_getElem? (l := tables_1_1) (i := 211) (by decide +kernel)))) (by decide +kernel)
theorem kw_38 : Cond.fieldLink R_Ta 10 "LuaMachine$Tables" "keyKinds" "[B" ∈ wA := kinm (show _ ∈ tables_1 from (List.mem_append_left _ (List.mem_of_getElem? (l := tables_1_1) (i := 212) (by decide +kernel)))) (by decide +kernel)
theorem kw_39 : Cond.fieldLink R_Ta 16 "LuaMachine$Tables" "keys" "[J" ∈ wA := kinm (show _ ∈ tables_1 from (List.mem_append_left _ (List.mem_of_getElem? (l := tables_1_1) (i := 215) (by decide +kernel)))) (by decide +kernel)
theorem kw_40 : Cond.fieldLink R_Ta 20 "LuaMachine$Tables" "valueKinds" "[B" ∈ wA := kinm (show _ ∈ tables_1 from (List.mem_append_left _ (List.mem_of_getElem? (l := tables_1_1) (i := 218) (by decide +kernel)))) (by decide +kernel)
theorem kw_41 : Cond.fieldLink R_Ta 23 "LuaMachine$Tables" "values" "[J" ∈ wA := kinm (show _ ∈ tables_1 from (List.mem_append_left _ (List.mem_of_getElem? (l := tables_1_1) (i := 223) (by decide +kernel)))) (by decide +kernel)
theorem kw_42 : Cond.fieldLink R_Ta 26 "LuaMachine$Tables" "heads" "[I" ∈ wA := kinm (show _ ∈ tables_1 from (List.mem_append_left _ (List.mem_of_getElem? (l := tables_1_1) (i := 228) (by decide +kernel)))) (by decide +kernel)
theorem kw_43 : Cond.fieldLink R_Ta 30 "LuaMachine$Tables" "chain" "[I" ∈ wA := kinm (show _ ∈ tables_1 from (List.mem_append_left _ (List.mem_of_getElem? (l := tables_1_1) (i := 229) (by decide +kernel)))) (by decide +kernel)
theorem kw_44 : Cond.fieldLink R_Ta 33 "LuaMachine$Tables" "owners" "[I" ∈ wA := kinm (show _ ∈ tables_1 from (List.mem_append_left _ (List.mem_of_getElem? (l := tables_1_1) (i := 230) (by decide +kernel)))) (by decide +kernel)
theorem kw_45 : Cond.fieldLink R_Ta 36 "LuaMachine$Tables" "heap" "LLuaMachine$Heap;" ∈ wA := kinm (show _ ∈ tables_1 from (List.mem_append_left _ (List.mem_of_getElem? (l := tables_1_1) (i := 232) (by decide +kernel)))) (by decide +kernel)
set_option maxHeartbeats 4000000 in
set_option maxRecDepth 100000 in
theorem c_Ro_init (l : Launch) (dC : Nat → ClassId) (dI : Nat → Nat → Nat) (h0 : Nat) (sz : Nat) : Met l y_Ro_init w_Ro_init ({ frames := 1, cells := 2, slots := 1024, locals := 12 }) (va_Pc [.ref h0] (fun U => U.heap.size = sz ∧ va_P (dC, dI) vwCl [(h0, .inr (7, [.null, .null, .int 0]))] U.heap ∧ va_K (dC, dI) vwCl [] U ∧ va_D (fun _ => True) [(h0, .inr (7, [.null, .null, .int 0]))] ∧ xB U ∧ xZ (va_A [(h0, .inr (7, [.null, .null, .int 0]))] sz) U U.heap)) (va_Qv (fun (_ : Unit) => True) (fun _ t => ∃ (q8 : Nat), ∃ (q17 : Nat), va_P (dC, dI) vwCl [(h0, .inr (7, [.ref q8, .ref q17, .int 0]))] t.heap ∧ va_K (dC, dI) vwCl [] t ∧ va_D (va_A [(h0, .inr (7, [.null, .null, .int 0]))] sz) [(h0, .inr (7, [.ref q8, .ref q17, .int 0]))]) (va_A [(h0, .inr (7, [.null, .null, .int 0]))] sz)) 2 1024 (va_A [(h0, .inr (7, [.null, .null, .int 0]))] sz) := by
  refine Met.ofW (cc := b_Ro_init) (maxL := 1) (ret := none) (by decide) rfl ?_
  intro p e s m args below meth c s₁ B hml hv
  obtain ⟨rfl, hsz, hP, hK, hD0, hB, hZ⟩ := hv
  have hx := B.exec
  have hb := B.bytes
  have hr := B.returns
  have hts := atoms_spec (ws := w_Ro_init) B.pre
  have hown : s.vm.findClass R_Ro = some m.cls := findClass_of_methodNamed B.named
  have hlocks := B.notSynchronized
  have hin : meth.name = "<init>" := (name_of_methodNamed B.named B.method).1
  subst hsz
  have hD := hD0.self (sz := s.heap.size)
  generalize hAe : va_A [(h0, .inr (7, [.null, .null, .int 0]))] s.heap.size = A at hD hZ ⊢
  have hA : ∀ q : Nat, s.heap.size ≤ q → A q := fun q h => by rw [← hAe]; exact Or.inr h
  have hS : va_S A s.heap s.heap [] := va_S.rf
  have hl := lv_entry ([.ref h0]) (n := 1) (Nat.le_of_ble_eq_true rfl)
  rw [lg_entry_eq]
  generalize (lg_sl ([.ref h0]) ++ List.replicate (1 - (lg_sl ([.ref h0])).length) Slot.unset).toArray = ls at hl ⊢
  have hl : lv_has ls 1 [(0, .ref h0)] := hl
  have hP : va_P (dC, dI) vwCl [(h0, .inr (7, [.null, .null, .int 0]))] s.heap := hP
  have hD : va_D A [(h0, .inr (7, [.null, .null, .int 0]))] := hD
  refine lv_aload_n hx hb d_Ro_init_0 rfl (lv_at hl 0 rfl) ?_
  refine W.objInit hx hb hown (hts (.methodLink R_Ro 3 objectInit) (List.mem_cons_of_mem _ kw_19)) (hts (.instanceMethod objectInit) (List.mem_cons_of_mem _ kw_1)) (hts (.code objectInit ⟨#[0xb1]⟩ 1 none) (List.mem_cons_of_mem _ kw_2)) rfl (by rw [hml]; exact hl.1) rfl d_Ro_init_1 (Nat.le_of_ble_eq_true rfl) (Nat.le_of_ble_eq_true rfl) ?_
  refine W.eq (g2 := F0 m 4 ls []) rfl ?_
  refine lv_aload_n hx hb d_Ro_init_4 rfl (lv_at hl 0 rfl) ?_
  refine lv_sipush (v := 512) hx hb d_Ro_init_5 (by decide) ?_
  refine va_newa (atype := .byte) (a0 := (512, .inl (fun _ => 0))) hx hb (hts (.arrayClass .byte) (List.mem_cons_of_mem _ kw_9)) (ty := .byte) rfl hK hP hD hS hA (fun _ => rfl) (by decide) (by decide) (by decide) (Nat.le_of_ble_eq_true rfl) (Nat.le_of_ble_eq_true rfl) d_Ro_init_8 (fun q8 k8 H hK hP hD hS => ?_)
  have hK : va_K (dC, dI) vwCl [(k8, .byte)] s := hK
  have hP : va_P (dC, dI) vwCl [(h0, .inr (7, [.null, .null, .int 0])), (q8, .inl (k8, 512, .inl (fun _ => 0)))] H := hP
  have hD : va_D A [(h0, .inr (7, [.null, .null, .int 0])), (q8, .inl (k8, 512, .inl (fun _ => 0)))] := hD
  refine W.widen (k := 1) (n := 512) (Nat.le_of_ble_eq_true rfl) (Nat.le_of_ble_eq_true rfl) ?_
  refine va_putF (D := (dC, dI)) (ci := 7) (v := .ref q8) (ty := (.array .byte)) (C := R_Ro) (T := TRo) (N := 3) hx hb hts (fun w h => List.mem_cons_of_mem _ (ic_Ro w h)) tyRo tyRo_ok nmRo hown hK hP hD hS 0 rfl rfl 0 (by decide) (hts (.fieldLink R_Ro 9 "LuaMachine$Row" "kinds" "[B") (List.mem_cons_of_mem _ kw_20)) (fun _ h9 => h9) rfl hin rfl (tyRo_ok 0 (by decide)) rfl rfl (Nat.le_of_ble_eq_true rfl) d_Ro_init_10 (fun H locs hP hD hS => ?_)
  have hP : va_P (dC, dI) vwCl [(h0, .inr (7, [.ref q8, .null, .int 0])), (q8, .inl (k8, 512, .inl (fun _ => 0)))] H := hP
  have hD : va_D A [(h0, .inr (7, [.ref q8, .null, .int 0])), (q8, .inl (k8, 512, .inl (fun _ => 0)))] := hD
  refine lv_aload_n hx hb d_Ro_init_13 rfl (lv_at hl 0 rfl) ?_
  refine lv_sipush (v := 512) hx hb d_Ro_init_14 (by decide) ?_
  refine va_newa (atype := .long) (a0 := (512, .inr (.inl (fun _ => 0)))) hx hb (hts (.arrayClass .long) (List.mem_cons_of_mem _ kw_11)) (ty := .long) rfl hK hP hD hS hA (fun _ => rfl) (by decide) (by decide) (by decide) (Nat.le_of_ble_eq_true rfl) (Nat.le_of_ble_eq_true rfl) d_Ro_init_17 (fun q17 k17 H hK hP hD hS => ?_)
  have hK : va_K (dC, dI) vwCl [(k8, .byte), (k17, .long)] s := hK
  have hP : va_P (dC, dI) vwCl [(h0, .inr (7, [.ref q8, .null, .int 0])), (q8, .inl (k8, 512, .inl (fun _ => 0))), (q17, .inl (k17, 512, .inr (.inl (fun _ => 0))))] H := hP
  have hD : va_D A [(h0, .inr (7, [.ref q8, .null, .int 0])), (q8, .inl (k8, 512, .inl (fun _ => 0))), (q17, .inl (k17, 512, .inr (.inl (fun _ => 0))))] := hD
  refine W.widen (k := 2) (n := 1024) (Nat.le_of_ble_eq_true rfl) (Nat.le_of_ble_eq_true rfl) ?_
  refine va_putF (D := (dC, dI)) (ci := 7) (v := .ref q17) (ty := (.array .long)) (C := R_Ro) (T := TRo) (N := 3) hx hb hts (fun w h => List.mem_cons_of_mem _ (ic_Ro w h)) tyRo tyRo_ok nmRo hown hK hP hD hS 0 rfl rfl 1 (by decide) (hts (.fieldLink R_Ro 15 "LuaMachine$Row" "values" "[J") (List.mem_cons_of_mem _ kw_21)) (fun _ h9 => h9) rfl hin rfl (tyRo_ok 1 (by decide)) rfl rfl (Nat.le_of_ble_eq_true rfl) d_Ro_init_19 (fun H locs hP hD hS => ?_)
  have hP : va_P (dC, dI) vwCl [(h0, .inr (7, [.ref q8, .ref q17, .int 0])), (q8, .inl (k8, 512, .inl (fun _ => 0))), (q17, .inl (k17, 512, .inr (.inl (fun _ => 0))))] H := hP
  have hD : va_D A [(h0, .inr (7, [.ref q8, .ref q17, .int 0])), (q8, .inl (k8, 512, .inl (fun _ => 0))), (q17, .inl (k17, 512, .inr (.inl (fun _ => 0))))] := hD
  have hP9 := hP.sub (ws' := [(h0, .inr (7, [.ref q8, .ref q17, .int 0]))]) [0] rfl
  have hD9 := hD.sub (ws' := [(h0, .inr (7, [.ref q8, .ref q17, .int 0]))]) [0] (by decide) rfl
  have hK9 := hK.sub (tys' := []) [] rfl
  refine W.widen (k := 2) (n := 1024) (Nat.le_of_ble_eq_true rfl) (Nat.le_of_ble_eq_true rfl) ?_
  exact W.vret hx hb hr (fun t ht hW => ⟨⟨(), rfl, trivial, q8, q17, by rw [ht]; exact hP9, va_K.moved hW.alike hK9, hD9⟩, hS.F ht⟩) hS.2.2 d_Ro_init_22

set_option maxHeartbeats 4000000 in
set_option maxRecDepth 100000 in
theorem c_He_init (l : Launch) (dC : Nat → ClassId) (dI : Nat → Nat → Nat) (h0 : Nat) (sz : Nat) : Met l y_He_init w_He_init ({ frames := 1, cells := 8, slots := 17224, locals := 12 }) (va_Pc [.ref h0] (fun U => U.heap.size = sz ∧ va_P (dC, dI) vwCl [(h0, .inr (2, [.null, .int 0, .null, .int 0, .null, .null, .null, .null, .null, .int 0, .null, .int 0, .int 0, .int 0, .null, .null]))] U.heap ∧ va_K (dC, dI) vwCl [] U ∧ va_D (fun _ => True) [(h0, .inr (2, [.null, .int 0, .null, .int 0, .null, .null, .null, .null, .null, .int 0, .null, .int 0, .int 0, .int 0, .null, .null]))] ∧ xB U ∧ xZ (va_A [(h0, .inr (2, [.null, .int 0, .null, .int 0, .null, .null, .null, .null, .null, .int 0, .null, .int 0, .int 0, .int 0, .null, .null]))] sz) U U.heap)) (va_Qv (fun (_ : Unit) => True) (fun _ t => ∃ (q8 : Nat), ∃ (q18 : Nat), ∃ (q26 : Nat), ∃ (q34 : Nat), ∃ (q42 : Nat), ∃ (q52 : Nat), ∃ (q61 : Nat), ∃ (q70 : Nat), va_P (dC, dI) vwCl [(h0, .inr (2, [.ref q8, .int 0, .ref q18, .int 0, .ref q26, .ref q34, .ref q42, .ref q52, .ref q61, .int 0, .ref q70, .int 0, .int 1000, .int 0, .null, .null]))] t.heap ∧ va_K (dC, dI) vwCl [] t ∧ va_D (va_A [(h0, .inr (2, [.null, .int 0, .null, .int 0, .null, .null, .null, .null, .null, .int 0, .null, .int 0, .int 0, .int 0, .null, .null]))] sz) [(h0, .inr (2, [.ref q8, .int 0, .ref q18, .int 0, .ref q26, .ref q34, .ref q42, .ref q52, .ref q61, .int 0, .ref q70, .int 0, .int 1000, .int 0, .null, .null]))]) (va_A [(h0, .inr (2, [.null, .int 0, .null, .int 0, .null, .null, .null, .null, .null, .int 0, .null, .int 0, .int 0, .int 0, .null, .null]))] sz)) 8 17224 (va_A [(h0, .inr (2, [.null, .int 0, .null, .int 0, .null, .null, .null, .null, .null, .int 0, .null, .int 0, .int 0, .int 0, .null, .null]))] sz) := by
  refine Met.ofW (cc := b_He_init) (maxL := 1) (ret := none) (by decide) rfl ?_
  intro p e s m args below meth c s₁ B hml hv
  obtain ⟨rfl, hsz, hP, hK, hD0, hB, hZ⟩ := hv
  have hx := B.exec
  have hb := B.bytes
  have hr := B.returns
  have hts := atoms_spec (ws := w_He_init) B.pre
  have hown : s.vm.findClass R_He = some m.cls := findClass_of_methodNamed B.named
  have hlocks := B.notSynchronized
  have hin : meth.name = "<init>" := (name_of_methodNamed B.named B.method).1
  subst hsz
  have hD := hD0.self (sz := s.heap.size)
  generalize hAe : va_A [(h0, .inr (2, [.null, .int 0, .null, .int 0, .null, .null, .null, .null, .null, .int 0, .null, .int 0, .int 0, .int 0, .null, .null]))] s.heap.size = A at hD hZ ⊢
  have hA : ∀ q : Nat, s.heap.size ≤ q → A q := fun q h => by rw [← hAe]; exact Or.inr h
  have hS : va_S A s.heap s.heap [] := va_S.rf
  have hl := lv_entry ([.ref h0]) (n := 1) (Nat.le_of_ble_eq_true rfl)
  rw [lg_entry_eq]
  generalize (lg_sl ([.ref h0]) ++ List.replicate (1 - (lg_sl ([.ref h0])).length) Slot.unset).toArray = ls at hl ⊢
  have hl : lv_has ls 1 [(0, .ref h0)] := hl
  have hP : va_P (dC, dI) vwCl [(h0, .inr (2, [.null, .int 0, .null, .int 0, .null, .null, .null, .null, .null, .int 0, .null, .int 0, .int 0, .int 0, .null, .null]))] s.heap := hP
  have hD : va_D A [(h0, .inr (2, [.null, .int 0, .null, .int 0, .null, .null, .null, .null, .null, .int 0, .null, .int 0, .int 0, .int 0, .null, .null]))] := hD
  refine lv_aload_n hx hb d_He_init_0 rfl (lv_at hl 0 rfl) ?_
  refine W.objInit hx hb hown (hts (.methodLink R_He 3 objectInit) (List.mem_cons_of_mem _ kw_22)) (hts (.instanceMethod objectInit) (List.mem_cons_of_mem _ kw_1)) (hts (.code objectInit ⟨#[0xb1]⟩ 1 none) (List.mem_cons_of_mem _ kw_2)) rfl (by rw [hml]; exact hl.1) rfl d_He_init_1 (Nat.le_of_ble_eq_true rfl) (Nat.le_of_ble_eq_true rfl) ?_
  refine W.eq (g2 := F0 m 4 ls []) rfl ?_
  refine lv_aload_n hx hb d_He_init_4 rfl (lv_at hl 0 rfl) ?_
  refine lv_sipush (v := 4000) hx hb d_He_init_5 (by decide) ?_
  refine va_newq (C := "LuaMachine$Thing") (N' := 4000) hx hb hown (hts (.classLink R_He 9 "LuaMachine$Thing") (List.mem_cons_of_mem _ kw_23)) (show va_AO "LuaMachine$Thing" s from hB _ nwa_LuaMachine_Thing) hK hP hD hS hA (by decide) (by decide) (by decide) (Nat.le_of_ble_eq_true rfl) (Nat.le_of_ble_eq_true rfl) d_He_init_8 (fun q8 k8 H hK hP hD hS => ?_)
  have hK : va_K (dC, dI) vwCl [(k8, .object "LuaMachine$Thing")] s := hK
  have hP : va_P (dC, dI) vwCl [(h0, .inr (2, [.null, .int 0, .null, .int 0, .null, .null, .null, .null, .null, .int 0, .null, .int 0, .int 0, .int 0, .null, .null])), (q8, .inl (k8, 4000, .inr (.inr (.inr (.inr (fun _ => none))))))] H := hP
  have hD : va_D A [(h0, .inr (2, [.null, .int 0, .null, .int 0, .null, .null, .null, .null, .null, .int 0, .null, .int 0, .int 0, .int 0, .null, .null])), (q8, .inl (k8, 4000, .inr (.inr (.inr (.inr (fun _ => none))))))] := hD
  refine W.widen (k := 1) (n := 4000) (Nat.le_of_ble_eq_true rfl) (Nat.le_of_ble_eq_true rfl) ?_
  refine va_putF (D := (dC, dI)) (ci := 2) (v := .ref q8) (ty := (.array (.object "LuaMachine$Thing"))) (C := R_He) (T := THe) (N := 16) hx hb hts (fun w h => List.mem_cons_of_mem _ (ic_He w h)) tyHe tyHe_ok nmHe hown hK hP hD hS 0 rfl rfl 0 (by decide) (hts (.fieldLink R_He 11 "LuaMachine$Heap" "things" "[LLuaMachine$Thing;") (List.mem_cons_of_mem _ kw_25)) (fun _ h9 => h9) rfl hin rfl (tyHe_ok 0 (by decide)) rfl rfl (Nat.le_of_ble_eq_true rfl) d_He_init_11 (fun H locs hP hD hS => ?_)
  have hP : va_P (dC, dI) vwCl [(h0, .inr (2, [.ref q8, .int 0, .null, .int 0, .null, .null, .null, .null, .null, .int 0, .null, .int 0, .int 0, .int 0, .null, .null])), (q8, .inl (k8, 4000, .inr (.inr (.inr (.inr (fun _ => none))))))] H := hP
  have hD : va_D A [(h0, .inr (2, [.ref q8, .int 0, .null, .int 0, .null, .null, .null, .null, .null, .int 0, .null, .int 0, .int 0, .int 0, .null, .null])), (q8, .inl (k8, 4000, .inr (.inr (.inr (.inr (fun _ => none))))))] := hD
  refine lv_aload_n hx hb d_He_init_14 rfl (lv_at hl 0 rfl) ?_
  refine lv_sipush (v := 4000) hx hb d_He_init_15 (by decide) ?_
  refine va_newa (atype := .int) (a0 := (4000, .inl (fun _ => 0))) hx hb (hts (.arrayClass .int) (List.mem_cons_of_mem _ kw_6)) (ty := .int) rfl hK hP hD hS hA (fun _ => rfl) (by decide) (by decide) (by decide) (Nat.le_of_ble_eq_true rfl) (Nat.le_of_ble_eq_true rfl) d_He_init_18 (fun q18 k18 H hK hP hD hS => ?_)
  have hK : va_K (dC, dI) vwCl [(k8, .object "LuaMachine$Thing"), (k18, .int)] s := hK
  have hP : va_P (dC, dI) vwCl [(h0, .inr (2, [.ref q8, .int 0, .null, .int 0, .null, .null, .null, .null, .null, .int 0, .null, .int 0, .int 0, .int 0, .null, .null])), (q8, .inl (k8, 4000, .inr (.inr (.inr (.inr (fun _ => none)))))), (q18, .inl (k18, 4000, .inl (fun _ => 0)))] H := hP
  have hD : va_D A [(h0, .inr (2, [.ref q8, .int 0, .null, .int 0, .null, .null, .null, .null, .null, .int 0, .null, .int 0, .int 0, .int 0, .null, .null])), (q8, .inl (k8, 4000, .inr (.inr (.inr (.inr (fun _ => none)))))), (q18, .inl (k18, 4000, .inl (fun _ => 0)))] := hD
  refine W.widen (k := 2) (n := 8000) (Nat.le_of_ble_eq_true rfl) (Nat.le_of_ble_eq_true rfl) ?_
  refine va_putF (D := (dC, dI)) (ci := 2) (v := .ref q18) (ty := (.array .int)) (C := R_He) (T := THe) (N := 16) hx hb hts (fun w h => List.mem_cons_of_mem _ (ic_He w h)) tyHe tyHe_ok nmHe hown hK hP hD hS 0 rfl rfl 2 (by decide) (hts (.fieldLink R_He 17 "LuaMachine$Heap" "free" "[I") (List.mem_cons_of_mem _ kw_26)) (fun _ h9 => h9) rfl hin rfl (tyHe_ok 2 (by decide)) rfl rfl (Nat.le_of_ble_eq_true rfl) d_He_init_20 (fun H locs hP hD hS => ?_)
  have hP : va_P (dC, dI) vwCl [(h0, .inr (2, [.ref q8, .int 0, .ref q18, .int 0, .null, .null, .null, .null, .null, .int 0, .null, .int 0, .int 0, .int 0, .null, .null])), (q8, .inl (k8, 4000, .inr (.inr (.inr (.inr (fun _ => none)))))), (q18, .inl (k18, 4000, .inl (fun _ => 0)))] H := hP
  have hD : va_D A [(h0, .inr (2, [.ref q8, .int 0, .ref q18, .int 0, .null, .null, .null, .null, .null, .int 0, .null, .int 0, .int 0, .int 0, .null, .null])), (q8, .inl (k8, 4000, .inr (.inr (.inr (.inr (fun _ => none)))))), (q18, .inl (k18, 4000, .inl (fun _ => 0)))] := hD
  refine lv_aload_n hx hb d_He_init_23 rfl (lv_at hl 0 rfl) ?_
  refine lv_bipush (v := 15) hx hb d_He_init_24 (by decide) ?_
  refine va_newa (atype := .int) (a0 := (15, .inl (fun _ => 0))) hx hb (hts (.arrayClass .int) (List.mem_cons_of_mem _ kw_6)) (ty := .int) rfl hK hP hD hS hA (fun _ => rfl) (by decide) (by decide) (by decide) (Nat.le_of_ble_eq_true rfl) (Nat.le_of_ble_eq_true rfl) d_He_init_26 (fun q26 k26 H hK hP hD hS => ?_)
  have hK : va_K (dC, dI) vwCl [(k8, .object "LuaMachine$Thing"), (k18, .int), (k26, .int)] s := hK
  have hP : va_P (dC, dI) vwCl [(h0, .inr (2, [.ref q8, .int 0, .ref q18, .int 0, .null, .null, .null, .null, .null, .int 0, .null, .int 0, .int 0, .int 0, .null, .null])), (q8, .inl (k8, 4000, .inr (.inr (.inr (.inr (fun _ => none)))))), (q18, .inl (k18, 4000, .inl (fun _ => 0))), (q26, .inl (k26, 15, .inl (fun _ => 0)))] H := hP
  have hD : va_D A [(h0, .inr (2, [.ref q8, .int 0, .ref q18, .int 0, .null, .null, .null, .null, .null, .int 0, .null, .int 0, .int 0, .int 0, .null, .null])), (q8, .inl (k8, 4000, .inr (.inr (.inr (.inr (fun _ => none)))))), (q18, .inl (k18, 4000, .inl (fun _ => 0))), (q26, .inl (k26, 15, .inl (fun _ => 0)))] := hD
  refine W.widen (k := 3) (n := 8015) (Nat.le_of_ble_eq_true rfl) (Nat.le_of_ble_eq_true rfl) ?_
  refine va_putF (D := (dC, dI)) (ci := 2) (v := .ref q26) (ty := (.array .int)) (C := R_He) (T := THe) (N := 16) hx hb hts (fun w h => List.mem_cons_of_mem _ (ic_He w h)) tyHe tyHe_ok nmHe hown hK hP hD hS 0 rfl rfl 4 (by decide) (hts (.fieldLink R_He 21 "LuaMachine$Heap" "tally" "[I") (List.mem_cons_of_mem _ kw_27)) (fun _ h9 => h9) rfl hin rfl (tyHe_ok 4 (by decide)) rfl rfl (Nat.le_of_ble_eq_true rfl) d_He_init_28 (fun H locs hP hD hS => ?_)
  have hP : va_P (dC, dI) vwCl [(h0, .inr (2, [.ref q8, .int 0, .ref q18, .int 0, .ref q26, .null, .null, .null, .null, .int 0, .null, .int 0, .int 0, .int 0, .null, .null])), (q8, .inl (k8, 4000, .inr (.inr (.inr (.inr (fun _ => none)))))), (q18, .inl (k18, 4000, .inl (fun _ => 0))), (q26, .inl (k26, 15, .inl (fun _ => 0)))] H := hP
  have hD : va_D A [(h0, .inr (2, [.ref q8, .int 0, .ref q18, .int 0, .ref q26, .null, .null, .null, .null, .int 0, .null, .int 0, .int 0, .int 0, .null, .null])), (q8, .inl (k8, 4000, .inr (.inr (.inr (.inr (fun _ => none)))))), (q18, .inl (k18, 4000, .inl (fun _ => 0))), (q26, .inl (k26, 15, .inl (fun _ => 0)))] := hD
  refine lv_aload_n hx hb d_He_init_31 rfl (lv_at hl 0 rfl) ?_
  refine lv_bipush (v := 57) hx hb d_He_init_32 (by decide) ?_
  refine va_newa (atype := .int) (a0 := (57, .inl (fun _ => 0))) hx hb (hts (.arrayClass .int) (List.mem_cons_of_mem _ kw_6)) (ty := .int) rfl hK hP hD hS hA (fun _ => rfl) (by decide) (by decide) (by decide) (Nat.le_of_ble_eq_true rfl) (Nat.le_of_ble_eq_true rfl) d_He_init_34 (fun q34 k34 H hK hP hD hS => ?_)
  have hK : va_K (dC, dI) vwCl [(k8, .object "LuaMachine$Thing"), (k18, .int), (k26, .int), (k34, .int)] s := hK
  have hP : va_P (dC, dI) vwCl [(h0, .inr (2, [.ref q8, .int 0, .ref q18, .int 0, .ref q26, .null, .null, .null, .null, .int 0, .null, .int 0, .int 0, .int 0, .null, .null])), (q8, .inl (k8, 4000, .inr (.inr (.inr (.inr (fun _ => none)))))), (q18, .inl (k18, 4000, .inl (fun _ => 0))), (q26, .inl (k26, 15, .inl (fun _ => 0))), (q34, .inl (k34, 57, .inl (fun _ => 0)))] H := hP
  have hD : va_D A [(h0, .inr (2, [.ref q8, .int 0, .ref q18, .int 0, .ref q26, .null, .null, .null, .null, .int 0, .null, .int 0, .int 0, .int 0, .null, .null])), (q8, .inl (k8, 4000, .inr (.inr (.inr (.inr (fun _ => none)))))), (q18, .inl (k18, 4000, .inl (fun _ => 0))), (q26, .inl (k26, 15, .inl (fun _ => 0))), (q34, .inl (k34, 57, .inl (fun _ => 0)))] := hD
  refine W.widen (k := 4) (n := 8072) (Nat.le_of_ble_eq_true rfl) (Nat.le_of_ble_eq_true rfl) ?_
  refine va_putF (D := (dC, dI)) (ci := 2) (v := .ref q34) (ty := (.array .int)) (C := R_He) (T := THe) (N := 16) hx hb hts (fun w h => List.mem_cons_of_mem _ (ic_He w h)) tyHe tyHe_ok nmHe hown hK hP hD hS 0 rfl rfl 5 (by decide) (hts (.fieldLink R_He 24 "LuaMachine$Heap" "names" "[I") (List.mem_cons_of_mem _ kw_28)) (fun _ h9 => h9) rfl hin rfl (tyHe_ok 5 (by decide)) rfl rfl (Nat.le_of_ble_eq_true rfl) d_He_init_36 (fun H locs hP hD hS => ?_)
  have hP : va_P (dC, dI) vwCl [(h0, .inr (2, [.ref q8, .int 0, .ref q18, .int 0, .ref q26, .ref q34, .null, .null, .null, .int 0, .null, .int 0, .int 0, .int 0, .null, .null])), (q8, .inl (k8, 4000, .inr (.inr (.inr (.inr (fun _ => none)))))), (q18, .inl (k18, 4000, .inl (fun _ => 0))), (q26, .inl (k26, 15, .inl (fun _ => 0))), (q34, .inl (k34, 57, .inl (fun _ => 0)))] H := hP
  have hD : va_D A [(h0, .inr (2, [.ref q8, .int 0, .ref q18, .int 0, .ref q26, .ref q34, .null, .null, .null, .int 0, .null, .int 0, .int 0, .int 0, .null, .null])), (q8, .inl (k8, 4000, .inr (.inr (.inr (.inr (fun _ => none)))))), (q18, .inl (k18, 4000, .inl (fun _ => 0))), (q26, .inl (k26, 15, .inl (fun _ => 0))), (q34, .inl (k34, 57, .inl (fun _ => 0)))] := hD
  refine lv_aload_n hx hb d_He_init_39 rfl (lv_at hl 0 rfl) ?_
  refine lv_bipush (v := 32) hx hb d_He_init_40 (by decide) ?_
  refine va_newq (C := "LuaMachine$Coroutine") (N' := 32) hx hb hown (hts (.classLink R_He 27 "LuaMachine$Coroutine") (List.mem_cons_of_mem _ kw_29)) (show va_AO "LuaMachine$Coroutine" s from hB _ nwa_LuaMachine_Coroutine) hK hP hD hS hA (by decide) (by decide) (by decide) (Nat.le_of_ble_eq_true rfl) (Nat.le_of_ble_eq_true rfl) d_He_init_42 (fun q42 k42 H hK hP hD hS => ?_)
  have hK : va_K (dC, dI) vwCl [(k8, .object "LuaMachine$Thing"), (k18, .int), (k26, .int), (k34, .int), (k42, .object "LuaMachine$Coroutine")] s := hK
  have hP : va_P (dC, dI) vwCl [(h0, .inr (2, [.ref q8, .int 0, .ref q18, .int 0, .ref q26, .ref q34, .null, .null, .null, .int 0, .null, .int 0, .int 0, .int 0, .null, .null])), (q8, .inl (k8, 4000, .inr (.inr (.inr (.inr (fun _ => none)))))), (q18, .inl (k18, 4000, .inl (fun _ => 0))), (q26, .inl (k26, 15, .inl (fun _ => 0))), (q34, .inl (k34, 57, .inl (fun _ => 0))), (q42, .inl (k42, 32, .inr (.inr (.inr (.inr (fun _ => none))))))] H := hP
  have hD : va_D A [(h0, .inr (2, [.ref q8, .int 0, .ref q18, .int 0, .ref q26, .ref q34, .null, .null, .null, .int 0, .null, .int 0, .int 0, .int 0, .null, .null])), (q8, .inl (k8, 4000, .inr (.inr (.inr (.inr (fun _ => none)))))), (q18, .inl (k18, 4000, .inl (fun _ => 0))), (q26, .inl (k26, 15, .inl (fun _ => 0))), (q34, .inl (k34, 57, .inl (fun _ => 0))), (q42, .inl (k42, 32, .inr (.inr (.inr (.inr (fun _ => none))))))] := hD
  refine W.widen (k := 5) (n := 8104) (Nat.le_of_ble_eq_true rfl) (Nat.le_of_ble_eq_true rfl) ?_
  refine va_putF (D := (dC, dI)) (ci := 2) (v := .ref q42) (ty := (.array (.object "LuaMachine$Coroutine"))) (C := R_He) (T := THe) (N := 16) hx hb hts (fun w h => List.mem_cons_of_mem _ (ic_He w h)) tyHe tyHe_ok nmHe hown hK hP hD hS 0 rfl rfl 6 (by decide) (hts (.fieldLink R_He 29 "LuaMachine$Heap" "coroutines" "[LLuaMachine$Coroutine;") (List.mem_cons_of_mem _ kw_31)) (fun _ h9 => h9) rfl hin rfl (tyHe_ok 6 (by decide)) rfl rfl (Nat.le_of_ble_eq_true rfl) d_He_init_45 (fun H locs hP hD hS => ?_)
  have hP : va_P (dC, dI) vwCl [(h0, .inr (2, [.ref q8, .int 0, .ref q18, .int 0, .ref q26, .ref q34, .ref q42, .null, .null, .int 0, .null, .int 0, .int 0, .int 0, .null, .null])), (q8, .inl (k8, 4000, .inr (.inr (.inr (.inr (fun _ => none)))))), (q18, .inl (k18, 4000, .inl (fun _ => 0))), (q26, .inl (k26, 15, .inl (fun _ => 0))), (q34, .inl (k34, 57, .inl (fun _ => 0))), (q42, .inl (k42, 32, .inr (.inr (.inr (.inr (fun _ => none))))))] H := hP
  have hD : va_D A [(h0, .inr (2, [.ref q8, .int 0, .ref q18, .int 0, .ref q26, .ref q34, .ref q42, .null, .null, .int 0, .null, .int 0, .int 0, .int 0, .null, .null])), (q8, .inl (k8, 4000, .inr (.inr (.inr (.inr (fun _ => none)))))), (q18, .inl (k18, 4000, .inl (fun _ => 0))), (q26, .inl (k26, 15, .inl (fun _ => 0))), (q34, .inl (k34, 57, .inl (fun _ => 0))), (q42, .inl (k42, 32, .inr (.inr (.inr (.inr (fun _ => none))))))] := hD
  refine lv_aload_n hx hb d_He_init_48 rfl (lv_at hl 0 rfl) ?_
  refine lv_sipush (v := 4096) hx hb d_He_init_49 (by decide) ?_
  refine va_newa (atype := .int) (a0 := (4096, .inl (fun _ => 0))) hx hb (hts (.arrayClass .int) (List.mem_cons_of_mem _ kw_6)) (ty := .int) rfl hK hP hD hS hA (fun _ => rfl) (by decide) (by decide) (by decide) (Nat.le_of_ble_eq_true rfl) (Nat.le_of_ble_eq_true rfl) d_He_init_52 (fun q52 k52 H hK hP hD hS => ?_)
  have hK : va_K (dC, dI) vwCl [(k8, .object "LuaMachine$Thing"), (k18, .int), (k26, .int), (k34, .int), (k42, .object "LuaMachine$Coroutine"), (k52, .int)] s := hK
  have hP : va_P (dC, dI) vwCl [(h0, .inr (2, [.ref q8, .int 0, .ref q18, .int 0, .ref q26, .ref q34, .ref q42, .null, .null, .int 0, .null, .int 0, .int 0, .int 0, .null, .null])), (q8, .inl (k8, 4000, .inr (.inr (.inr (.inr (fun _ => none)))))), (q18, .inl (k18, 4000, .inl (fun _ => 0))), (q26, .inl (k26, 15, .inl (fun _ => 0))), (q34, .inl (k34, 57, .inl (fun _ => 0))), (q42, .inl (k42, 32, .inr (.inr (.inr (.inr (fun _ => none)))))), (q52, .inl (k52, 4096, .inl (fun _ => 0)))] H := hP
  have hD : va_D A [(h0, .inr (2, [.ref q8, .int 0, .ref q18, .int 0, .ref q26, .ref q34, .ref q42, .null, .null, .int 0, .null, .int 0, .int 0, .int 0, .null, .null])), (q8, .inl (k8, 4000, .inr (.inr (.inr (.inr (fun _ => none)))))), (q18, .inl (k18, 4000, .inl (fun _ => 0))), (q26, .inl (k26, 15, .inl (fun _ => 0))), (q34, .inl (k34, 57, .inl (fun _ => 0))), (q42, .inl (k42, 32, .inr (.inr (.inr (.inr (fun _ => none)))))), (q52, .inl (k52, 4096, .inl (fun _ => 0)))] := hD
  refine W.widen (k := 6) (n := 12200) (Nat.le_of_ble_eq_true rfl) (Nat.le_of_ble_eq_true rfl) ?_
  refine va_putF (D := (dC, dI)) (ci := 2) (v := .ref q52) (ty := (.array .int)) (C := R_He) (T := THe) (N := 16) hx hb hts (fun w h => List.mem_cons_of_mem _ (ic_He w h)) tyHe tyHe_ok nmHe hown hK hP hD hS 0 rfl rfl 7 (by decide) (hts (.fieldLink R_He 33 "LuaMachine$Heap" "buckets" "[I") (List.mem_cons_of_mem _ kw_32)) (fun _ h9 => h9) rfl hin rfl (tyHe_ok 7 (by decide)) rfl rfl (Nat.le_of_ble_eq_true rfl) d_He_init_54 (fun H locs hP hD hS => ?_)
  have hP : va_P (dC, dI) vwCl [(h0, .inr (2, [.ref q8, .int 0, .ref q18, .int 0, .ref q26, .ref q34, .ref q42, .ref q52, .null, .int 0, .null, .int 0, .int 0, .int 0, .null, .null])), (q8, .inl (k8, 4000, .inr (.inr (.inr (.inr (fun _ => none)))))), (q18, .inl (k18, 4000, .inl (fun _ => 0))), (q26, .inl (k26, 15, .inl (fun _ => 0))), (q34, .inl (k34, 57, .inl (fun _ => 0))), (q42, .inl (k42, 32, .inr (.inr (.inr (.inr (fun _ => none)))))), (q52, .inl (k52, 4096, .inl (fun _ => 0)))] H := hP
  have hD : va_D A [(h0, .inr (2, [.ref q8, .int 0, .ref q18, .int 0, .ref q26, .ref q34, .ref q42, .ref q52, .null, .int 0, .null, .int 0, .int 0, .int 0, .null, .null])), (q8, .inl (k8, 4000, .inr (.inr (.inr (.inr (fun _ => none)))))), (q18, .inl (k18, 4000, .inl (fun _ => 0))), (q26, .inl (k26, 15, .inl (fun _ => 0))), (q34, .inl (k34, 57, .inl (fun _ => 0))), (q42, .inl (k42, 32, .inr (.inr (.inr (.inr (fun _ => none)))))), (q52, .inl (k52, 4096, .inl (fun _ => 0)))] := hD
  refine lv_aload_n hx hb d_He_init_57 rfl (lv_at hl 0 rfl) ?_
  refine lv_sipush (v := 1024) hx hb d_He_init_58 (by decide) ?_
  refine va_newa (atype := .byte) (a0 := (1024, .inl (fun _ => 0))) hx hb (hts (.arrayClass .byte) (List.mem_cons_of_mem _ kw_9)) (ty := .byte) rfl hK hP hD hS hA (fun _ => rfl) (by decide) (by decide) (by decide) (Nat.le_of_ble_eq_true rfl) (Nat.le_of_ble_eq_true rfl) d_He_init_61 (fun q61 k61 H hK hP hD hS => ?_)
  have hK : va_K (dC, dI) vwCl [(k8, .object "LuaMachine$Thing"), (k18, .int), (k26, .int), (k34, .int), (k42, .object "LuaMachine$Coroutine"), (k52, .int), (k61, .byte)] s := hK
  have hP : va_P (dC, dI) vwCl [(h0, .inr (2, [.ref q8, .int 0, .ref q18, .int 0, .ref q26, .ref q34, .ref q42, .ref q52, .null, .int 0, .null, .int 0, .int 0, .int 0, .null, .null])), (q8, .inl (k8, 4000, .inr (.inr (.inr (.inr (fun _ => none)))))), (q18, .inl (k18, 4000, .inl (fun _ => 0))), (q26, .inl (k26, 15, .inl (fun _ => 0))), (q34, .inl (k34, 57, .inl (fun _ => 0))), (q42, .inl (k42, 32, .inr (.inr (.inr (.inr (fun _ => none)))))), (q52, .inl (k52, 4096, .inl (fun _ => 0))), (q61, .inl (k61, 1024, .inl (fun _ => 0)))] H := hP
  have hD : va_D A [(h0, .inr (2, [.ref q8, .int 0, .ref q18, .int 0, .ref q26, .ref q34, .ref q42, .ref q52, .null, .int 0, .null, .int 0, .int 0, .int 0, .null, .null])), (q8, .inl (k8, 4000, .inr (.inr (.inr (.inr (fun _ => none)))))), (q18, .inl (k18, 4000, .inl (fun _ => 0))), (q26, .inl (k26, 15, .inl (fun _ => 0))), (q34, .inl (k34, 57, .inl (fun _ => 0))), (q42, .inl (k42, 32, .inr (.inr (.inr (.inr (fun _ => none)))))), (q52, .inl (k52, 4096, .inl (fun _ => 0))), (q61, .inl (k61, 1024, .inl (fun _ => 0)))] := hD
  refine W.widen (k := 7) (n := 13224) (Nat.le_of_ble_eq_true rfl) (Nat.le_of_ble_eq_true rfl) ?_
  refine va_put (D := (dC, dI)) (ci := 2) (v := .ref q61) (ty := (.array .byte)) (C := R_He) (T := THe) (N := 16) hx hb hts (fun w h => List.mem_cons_of_mem _ (ic_He w h)) tyHe tyHe_ok nmHe hown hK hP hD hS 0 rfl rfl 8 (by decide) (hts (.fieldLink R_He 36 "LuaMachine$Heap" "work" "[B") (List.mem_cons_of_mem _ kw_33)) (fun _ h9 => h9) rfl (tyHe_ok 8 (by decide)) rfl rfl (Nat.le_of_ble_eq_true rfl) d_He_init_63 (fun H locs hP hD hS => ?_)
  have hP : va_P (dC, dI) vwCl [(h0, .inr (2, [.ref q8, .int 0, .ref q18, .int 0, .ref q26, .ref q34, .ref q42, .ref q52, .ref q61, .int 0, .null, .int 0, .int 0, .int 0, .null, .null])), (q8, .inl (k8, 4000, .inr (.inr (.inr (.inr (fun _ => none)))))), (q18, .inl (k18, 4000, .inl (fun _ => 0))), (q26, .inl (k26, 15, .inl (fun _ => 0))), (q34, .inl (k34, 57, .inl (fun _ => 0))), (q42, .inl (k42, 32, .inr (.inr (.inr (.inr (fun _ => none)))))), (q52, .inl (k52, 4096, .inl (fun _ => 0))), (q61, .inl (k61, 1024, .inl (fun _ => 0)))] H := hP
  have hD : va_D A [(h0, .inr (2, [.ref q8, .int 0, .ref q18, .int 0, .ref q26, .ref q34, .ref q42, .ref q52, .ref q61, .int 0, .null, .int 0, .int 0, .int 0, .null, .null])), (q8, .inl (k8, 4000, .inr (.inr (.inr (.inr (fun _ => none)))))), (q18, .inl (k18, 4000, .inl (fun _ => 0))), (q26, .inl (k26, 15, .inl (fun _ => 0))), (q34, .inl (k34, 57, .inl (fun _ => 0))), (q42, .inl (k42, 32, .inr (.inr (.inr (.inr (fun _ => none)))))), (q52, .inl (k52, 4096, .inl (fun _ => 0))), (q61, .inl (k61, 1024, .inl (fun _ => 0)))] := hD
  refine lv_aload_n hx hb d_He_init_66 rfl (lv_at hl 0 rfl) ?_
  refine lv_sipush (v := 4000) hx hb d_He_init_67 (by decide) ?_
  refine va_newa (atype := .int) (a0 := (4000, .inl (fun _ => 0))) hx hb (hts (.arrayClass .int) (List.mem_cons_of_mem _ kw_6)) (ty := .int) rfl hK hP hD hS hA (fun _ => rfl) (by decide) (by decide) (by decide) (Nat.le_of_ble_eq_true rfl) (Nat.le_of_ble_eq_true rfl) d_He_init_70 (fun q70 k70 H hK hP hD hS => ?_)
  have hK : va_K (dC, dI) vwCl [(k8, .object "LuaMachine$Thing"), (k18, .int), (k26, .int), (k34, .int), (k42, .object "LuaMachine$Coroutine"), (k52, .int), (k61, .byte), (k70, .int)] s := hK
  have hP : va_P (dC, dI) vwCl [(h0, .inr (2, [.ref q8, .int 0, .ref q18, .int 0, .ref q26, .ref q34, .ref q42, .ref q52, .ref q61, .int 0, .null, .int 0, .int 0, .int 0, .null, .null])), (q8, .inl (k8, 4000, .inr (.inr (.inr (.inr (fun _ => none)))))), (q18, .inl (k18, 4000, .inl (fun _ => 0))), (q26, .inl (k26, 15, .inl (fun _ => 0))), (q34, .inl (k34, 57, .inl (fun _ => 0))), (q42, .inl (k42, 32, .inr (.inr (.inr (.inr (fun _ => none)))))), (q52, .inl (k52, 4096, .inl (fun _ => 0))), (q61, .inl (k61, 1024, .inl (fun _ => 0))), (q70, .inl (k70, 4000, .inl (fun _ => 0)))] H := hP
  have hD : va_D A [(h0, .inr (2, [.ref q8, .int 0, .ref q18, .int 0, .ref q26, .ref q34, .ref q42, .ref q52, .ref q61, .int 0, .null, .int 0, .int 0, .int 0, .null, .null])), (q8, .inl (k8, 4000, .inr (.inr (.inr (.inr (fun _ => none)))))), (q18, .inl (k18, 4000, .inl (fun _ => 0))), (q26, .inl (k26, 15, .inl (fun _ => 0))), (q34, .inl (k34, 57, .inl (fun _ => 0))), (q42, .inl (k42, 32, .inr (.inr (.inr (.inr (fun _ => none)))))), (q52, .inl (k52, 4096, .inl (fun _ => 0))), (q61, .inl (k61, 1024, .inl (fun _ => 0))), (q70, .inl (k70, 4000, .inl (fun _ => 0)))] := hD
  refine W.widen (k := 8) (n := 17224) (Nat.le_of_ble_eq_true rfl) (Nat.le_of_ble_eq_true rfl) ?_
  refine va_putF (D := (dC, dI)) (ci := 2) (v := .ref q70) (ty := (.array .int)) (C := R_He) (T := THe) (N := 16) hx hb hts (fun w h => List.mem_cons_of_mem _ (ic_He w h)) tyHe tyHe_ok nmHe hown hK hP hD hS 0 rfl rfl 10 (by decide) (hts (.fieldLink R_He 40 "LuaMachine$Heap" "waiting" "[I") (List.mem_cons_of_mem _ kw_34)) (fun _ h9 => h9) rfl hin rfl (tyHe_ok 10 (by decide)) rfl rfl (Nat.le_of_ble_eq_true rfl) d_He_init_72 (fun H locs hP hD hS => ?_)
  have hP : va_P (dC, dI) vwCl [(h0, .inr (2, [.ref q8, .int 0, .ref q18, .int 0, .ref q26, .ref q34, .ref q42, .ref q52, .ref q61, .int 0, .ref q70, .int 0, .int 0, .int 0, .null, .null])), (q8, .inl (k8, 4000, .inr (.inr (.inr (.inr (fun _ => none)))))), (q18, .inl (k18, 4000, .inl (fun _ => 0))), (q26, .inl (k26, 15, .inl (fun _ => 0))), (q34, .inl (k34, 57, .inl (fun _ => 0))), (q42, .inl (k42, 32, .inr (.inr (.inr (.inr (fun _ => none)))))), (q52, .inl (k52, 4096, .inl (fun _ => 0))), (q61, .inl (k61, 1024, .inl (fun _ => 0))), (q70, .inl (k70, 4000, .inl (fun _ => 0)))] H := hP
  have hD : va_D A [(h0, .inr (2, [.ref q8, .int 0, .ref q18, .int 0, .ref q26, .ref q34, .ref q42, .ref q52, .ref q61, .int 0, .ref q70, .int 0, .int 0, .int 0, .null, .null])), (q8, .inl (k8, 4000, .inr (.inr (.inr (.inr (fun _ => none)))))), (q18, .inl (k18, 4000, .inl (fun _ => 0))), (q26, .inl (k26, 15, .inl (fun _ => 0))), (q34, .inl (k34, 57, .inl (fun _ => 0))), (q42, .inl (k42, 32, .inr (.inr (.inr (.inr (fun _ => none)))))), (q52, .inl (k52, 4096, .inl (fun _ => 0))), (q61, .inl (k61, 1024, .inl (fun _ => 0))), (q70, .inl (k70, 4000, .inl (fun _ => 0)))] := hD
  refine lv_aload_n hx hb d_He_init_75 rfl (lv_at hl 0 rfl) ?_
  refine lv_sipush (v := 1000) hx hb d_He_init_76 (by decide) ?_
  refine va_put (D := (dC, dI)) (ci := 2) (v := .int 1000) (ty := .int) (C := R_He) (T := THe) (N := 16) hx hb hts (fun w h => List.mem_cons_of_mem _ (ic_He w h)) tyHe tyHe_ok nmHe hown hK hP hD hS 0 rfl rfl 12 (by decide) (hts (.fieldLink R_He 43 "LuaMachine$Heap" "most" "I") (List.mem_cons_of_mem _ kw_35)) (fun _ h9 => h9) rfl (tyHe_ok 12 (by decide)) rfl rfl (Nat.le_of_ble_eq_true rfl) d_He_init_79 (fun H locs hP hD hS => ?_)
  have hP : va_P (dC, dI) vwCl [(h0, .inr (2, [.ref q8, .int 0, .ref q18, .int 0, .ref q26, .ref q34, .ref q42, .ref q52, .ref q61, .int 0, .ref q70, .int 0, .int 1000, .int 0, .null, .null])), (q8, .inl (k8, 4000, .inr (.inr (.inr (.inr (fun _ => none)))))), (q18, .inl (k18, 4000, .inl (fun _ => 0))), (q26, .inl (k26, 15, .inl (fun _ => 0))), (q34, .inl (k34, 57, .inl (fun _ => 0))), (q42, .inl (k42, 32, .inr (.inr (.inr (.inr (fun _ => none)))))), (q52, .inl (k52, 4096, .inl (fun _ => 0))), (q61, .inl (k61, 1024, .inl (fun _ => 0))), (q70, .inl (k70, 4000, .inl (fun _ => 0)))] H := hP
  have hD : va_D A [(h0, .inr (2, [.ref q8, .int 0, .ref q18, .int 0, .ref q26, .ref q34, .ref q42, .ref q52, .ref q61, .int 0, .ref q70, .int 0, .int 1000, .int 0, .null, .null])), (q8, .inl (k8, 4000, .inr (.inr (.inr (.inr (fun _ => none)))))), (q18, .inl (k18, 4000, .inl (fun _ => 0))), (q26, .inl (k26, 15, .inl (fun _ => 0))), (q34, .inl (k34, 57, .inl (fun _ => 0))), (q42, .inl (k42, 32, .inr (.inr (.inr (.inr (fun _ => none)))))), (q52, .inl (k52, 4096, .inl (fun _ => 0))), (q61, .inl (k61, 1024, .inl (fun _ => 0))), (q70, .inl (k70, 4000, .inl (fun _ => 0)))] := hD
  have hP9 := hP.sub (ws' := [(h0, .inr (2, [.ref q8, .int 0, .ref q18, .int 0, .ref q26, .ref q34, .ref q42, .ref q52, .ref q61, .int 0, .ref q70, .int 0, .int 1000, .int 0, .null, .null]))]) [0] rfl
  have hD9 := hD.sub (ws' := [(h0, .inr (2, [.ref q8, .int 0, .ref q18, .int 0, .ref q26, .ref q34, .ref q42, .ref q52, .ref q61, .int 0, .ref q70, .int 0, .int 1000, .int 0, .null, .null]))]) [0] (by decide) rfl
  have hK9 := hK.sub (tys' := []) [] rfl
  refine W.widen (k := 8) (n := 17224) (Nat.le_of_ble_eq_true rfl) (Nat.le_of_ble_eq_true rfl) ?_
  exact W.vret hx hb hr (fun t ht hW => ⟨⟨(), rfl, trivial, q8, q18, q26, q34, q42, q52, q61, q70, by rw [ht]; exact hP9, va_K.moved hW.alike hK9, hD9⟩, hS.F ht⟩) hS.2.2 d_He_init_82

set_option maxHeartbeats 4000000 in
set_option maxRecDepth 100000 in
theorem c_Ta_init (l : Launch) (dC : Nat → ClassId) (dI : Nat → Nat → Nat) (h0 : Nat) (oh : Nat) (sz : Nat) : Met l y_Ta_init w_Ta_init ({ frames := 1, cells := 7, slots := 350000, locals := 12 }) (va_Pc [.ref h0, .ref oh] (fun U => U.heap.size = sz ∧ va_P (dC, dI) vwCl [(h0, .inr (3, [.null, .null, .null, .null, .null, .null, .null, .int 0, .null]))] U.heap ∧ va_K (dC, dI) vwCl [] U ∧ va_D (fun _ => True) [(h0, .inr (3, [.null, .null, .null, .null, .null, .null, .null, .int 0, .null]))] ∧ xB U ∧ xZ (va_A [(h0, .inr (3, [.null, .null, .null, .null, .null, .null, .null, .int 0, .null]))] sz) U U.heap)) (va_Qv (fun (_ : Unit) => True) (fun _ t => ∃ (q7 : Nat), ∃ (q15 : Nat), ∃ (q23 : Nat), ∃ (q31 : Nat), ∃ (q39 : Nat), ∃ (q47 : Nat), ∃ (q55 : Nat), va_P (dC, dI) vwCl [(h0, .inr (3, [.ref q7, .ref q15, .ref q23, .ref q31, .ref q39, .ref q47, .ref q55, .int 0, .ref oh]))] t.heap ∧ va_K (dC, dI) vwCl [] t ∧ va_D (va_A [(h0, .inr (3, [.null, .null, .null, .null, .null, .null, .null, .int 0, .null]))] sz) [(h0, .inr (3, [.ref q7, .ref q15, .ref q23, .ref q31, .ref q39, .ref q47, .ref q55, .int 0, .ref oh]))]) (va_A [(h0, .inr (3, [.null, .null, .null, .null, .null, .null, .null, .int 0, .null]))] sz)) 7 350000 (va_A [(h0, .inr (3, [.null, .null, .null, .null, .null, .null, .null, .int 0, .null]))] sz) := by
  refine Met.ofW (cc := b_Ta_init) (maxL := 2) (ret := none) (by decide) rfl ?_
  intro p e s m args below meth c s₁ B hml hv
  obtain ⟨rfl, hsz, hP, hK, hD0, hB, hZ⟩ := hv
  have hx := B.exec
  have hb := B.bytes
  have hr := B.returns
  have hts := atoms_spec (ws := w_Ta_init) B.pre
  have hown : s.vm.findClass R_Ta = some m.cls := findClass_of_methodNamed B.named
  have hlocks := B.notSynchronized
  have hin : meth.name = "<init>" := (name_of_methodNamed B.named B.method).1
  subst hsz
  have hD := hD0.self (sz := s.heap.size)
  generalize hAe : va_A [(h0, .inr (3, [.null, .null, .null, .null, .null, .null, .null, .int 0, .null]))] s.heap.size = A at hD hZ ⊢
  have hA : ∀ q : Nat, s.heap.size ≤ q → A q := fun q h => by rw [← hAe]; exact Or.inr h
  have hS : va_S A s.heap s.heap [] := va_S.rf
  have hl := lv_entry ([.ref h0, .ref oh]) (n := 2) (Nat.le_of_ble_eq_true rfl)
  rw [lg_entry_eq]
  generalize (lg_sl ([.ref h0, .ref oh]) ++ List.replicate (2 - (lg_sl ([.ref h0, .ref oh])).length) Slot.unset).toArray = ls at hl ⊢
  have hl : lv_has ls 2 [(0, .ref h0), (1, .ref oh)] := hl
  have hP : va_P (dC, dI) vwCl [(h0, .inr (3, [.null, .null, .null, .null, .null, .null, .null, .int 0, .null]))] s.heap := hP
  have hD : va_D A [(h0, .inr (3, [.null, .null, .null, .null, .null, .null, .null, .int 0, .null]))] := hD
  refine lv_aload_n hx hb d_Ta_init_0 rfl (lv_at hl 0 rfl) ?_
  refine W.objInit hx hb hown (hts (.methodLink R_Ta 3 objectInit) (List.mem_cons_of_mem _ kw_36)) (hts (.instanceMethod objectInit) (List.mem_cons_of_mem _ kw_1)) (hts (.code objectInit ⟨#[0xb1]⟩ 1 none) (List.mem_cons_of_mem _ kw_2)) rfl (by rw [hml]; exact hl.1) rfl d_Ta_init_1 (Nat.le_of_ble_eq_true rfl) (Nat.le_of_ble_eq_true rfl) ?_
  refine W.eq (g2 := F0 m 4 ls []) rfl ?_
  refine lv_aload_n hx hb d_Ta_init_4 rfl (lv_at hl 0 rfl) ?_
  refine lv_ldc (v := 50000) hx hb hown (hts (.constant R_Ta 9 50000) (List.mem_cons_of_mem _ kw_37)) d_Ta_init_5 ?_
  refine va_newa (atype := .byte) (a0 := (50000, .inl (fun _ => 0))) hx hb (hts (.arrayClass .byte) (List.mem_cons_of_mem _ kw_9)) (ty := .byte) rfl hK hP hD hS hA (fun _ => rfl) (by decide) (by decide) (by decide) (Nat.le_of_ble_eq_true rfl) (Nat.le_of_ble_eq_true rfl) d_Ta_init_7 (fun q7 k7 H hK hP hD hS => ?_)
  have hK : va_K (dC, dI) vwCl [(k7, .byte)] s := hK
  have hP : va_P (dC, dI) vwCl [(h0, .inr (3, [.null, .null, .null, .null, .null, .null, .null, .int 0, .null])), (q7, .inl (k7, 50000, .inl (fun _ => 0)))] H := hP
  have hD : va_D A [(h0, .inr (3, [.null, .null, .null, .null, .null, .null, .null, .int 0, .null])), (q7, .inl (k7, 50000, .inl (fun _ => 0)))] := hD
  refine W.widen (k := 1) (n := 50000) (Nat.le_of_ble_eq_true rfl) (Nat.le_of_ble_eq_true rfl) ?_
  refine va_putF (D := (dC, dI)) (ci := 3) (v := .ref q7) (ty := (.array .byte)) (C := R_Ta) (T := TTa) (N := 9) hx hb hts (fun w h => List.mem_cons_of_mem _ (ic_Ta w h)) tyTa tyTa_ok nmTa hown hK hP hD hS 0 rfl rfl 0 (by decide) (hts (.fieldLink R_Ta 10 "LuaMachine$Tables" "keyKinds" "[B") (List.mem_cons_of_mem _ kw_38)) (fun _ h9 => h9) rfl hin rfl (tyTa_ok 0 (by decide)) rfl rfl (Nat.le_of_ble_eq_true rfl) d_Ta_init_9 (fun H locs hP hD hS => ?_)
  have hP : va_P (dC, dI) vwCl [(h0, .inr (3, [.ref q7, .null, .null, .null, .null, .null, .null, .int 0, .null])), (q7, .inl (k7, 50000, .inl (fun _ => 0)))] H := hP
  have hD : va_D A [(h0, .inr (3, [.ref q7, .null, .null, .null, .null, .null, .null, .int 0, .null])), (q7, .inl (k7, 50000, .inl (fun _ => 0)))] := hD
  refine lv_aload_n hx hb d_Ta_init_12 rfl (lv_at hl 0 rfl) ?_
  refine lv_ldc (v := 50000) hx hb hown (hts (.constant R_Ta 9 50000) (List.mem_cons_of_mem _ kw_37)) d_Ta_init_13 ?_
  refine va_newa (atype := .long) (a0 := (50000, .inr (.inl (fun _ => 0)))) hx hb (hts (.arrayClass .long) (List.mem_cons_of_mem _ kw_11)) (ty := .long) rfl hK hP hD hS hA (fun _ => rfl) (by decide) (by decide) (by decide) (Nat.le_of_ble_eq_true rfl) (Nat.le_of_ble_eq_true rfl) d_Ta_init_15 (fun q15 k15 H hK hP hD hS => ?_)
  have hK : va_K (dC, dI) vwCl [(k7, .byte), (k15, .long)] s := hK
  have hP : va_P (dC, dI) vwCl [(h0, .inr (3, [.ref q7, .null, .null, .null, .null, .null, .null, .int 0, .null])), (q7, .inl (k7, 50000, .inl (fun _ => 0))), (q15, .inl (k15, 50000, .inr (.inl (fun _ => 0))))] H := hP
  have hD : va_D A [(h0, .inr (3, [.ref q7, .null, .null, .null, .null, .null, .null, .int 0, .null])), (q7, .inl (k7, 50000, .inl (fun _ => 0))), (q15, .inl (k15, 50000, .inr (.inl (fun _ => 0))))] := hD
  refine W.widen (k := 2) (n := 100000) (Nat.le_of_ble_eq_true rfl) (Nat.le_of_ble_eq_true rfl) ?_
  refine va_putF (D := (dC, dI)) (ci := 3) (v := .ref q15) (ty := (.array .long)) (C := R_Ta) (T := TTa) (N := 9) hx hb hts (fun w h => List.mem_cons_of_mem _ (ic_Ta w h)) tyTa tyTa_ok nmTa hown hK hP hD hS 0 rfl rfl 1 (by decide) (hts (.fieldLink R_Ta 16 "LuaMachine$Tables" "keys" "[J") (List.mem_cons_of_mem _ kw_39)) (fun _ h9 => h9) rfl hin rfl (tyTa_ok 1 (by decide)) rfl rfl (Nat.le_of_ble_eq_true rfl) d_Ta_init_17 (fun H locs hP hD hS => ?_)
  have hP : va_P (dC, dI) vwCl [(h0, .inr (3, [.ref q7, .ref q15, .null, .null, .null, .null, .null, .int 0, .null])), (q7, .inl (k7, 50000, .inl (fun _ => 0))), (q15, .inl (k15, 50000, .inr (.inl (fun _ => 0))))] H := hP
  have hD : va_D A [(h0, .inr (3, [.ref q7, .ref q15, .null, .null, .null, .null, .null, .int 0, .null])), (q7, .inl (k7, 50000, .inl (fun _ => 0))), (q15, .inl (k15, 50000, .inr (.inl (fun _ => 0))))] := hD
  refine lv_aload_n hx hb d_Ta_init_20 rfl (lv_at hl 0 rfl) ?_
  refine lv_ldc (v := 50000) hx hb hown (hts (.constant R_Ta 9 50000) (List.mem_cons_of_mem _ kw_37)) d_Ta_init_21 ?_
  refine va_newa (atype := .byte) (a0 := (50000, .inl (fun _ => 0))) hx hb (hts (.arrayClass .byte) (List.mem_cons_of_mem _ kw_9)) (ty := .byte) rfl hK hP hD hS hA (fun _ => rfl) (by decide) (by decide) (by decide) (Nat.le_of_ble_eq_true rfl) (Nat.le_of_ble_eq_true rfl) d_Ta_init_23 (fun q23 k23 H hK hP hD hS => ?_)
  have hK : va_K (dC, dI) vwCl [(k7, .byte), (k15, .long), (k23, .byte)] s := hK
  have hP : va_P (dC, dI) vwCl [(h0, .inr (3, [.ref q7, .ref q15, .null, .null, .null, .null, .null, .int 0, .null])), (q7, .inl (k7, 50000, .inl (fun _ => 0))), (q15, .inl (k15, 50000, .inr (.inl (fun _ => 0)))), (q23, .inl (k23, 50000, .inl (fun _ => 0)))] H := hP
  have hD : va_D A [(h0, .inr (3, [.ref q7, .ref q15, .null, .null, .null, .null, .null, .int 0, .null])), (q7, .inl (k7, 50000, .inl (fun _ => 0))), (q15, .inl (k15, 50000, .inr (.inl (fun _ => 0)))), (q23, .inl (k23, 50000, .inl (fun _ => 0)))] := hD
  refine W.widen (k := 3) (n := 150000) (Nat.le_of_ble_eq_true rfl) (Nat.le_of_ble_eq_true rfl) ?_
  refine va_putF (D := (dC, dI)) (ci := 3) (v := .ref q23) (ty := (.array .byte)) (C := R_Ta) (T := TTa) (N := 9) hx hb hts (fun w h => List.mem_cons_of_mem _ (ic_Ta w h)) tyTa tyTa_ok nmTa hown hK hP hD hS 0 rfl rfl 2 (by decide) (hts (.fieldLink R_Ta 20 "LuaMachine$Tables" "valueKinds" "[B") (List.mem_cons_of_mem _ kw_40)) (fun _ h9 => h9) rfl hin rfl (tyTa_ok 2 (by decide)) rfl rfl (Nat.le_of_ble_eq_true rfl) d_Ta_init_25 (fun H locs hP hD hS => ?_)
  have hP : va_P (dC, dI) vwCl [(h0, .inr (3, [.ref q7, .ref q15, .ref q23, .null, .null, .null, .null, .int 0, .null])), (q7, .inl (k7, 50000, .inl (fun _ => 0))), (q15, .inl (k15, 50000, .inr (.inl (fun _ => 0)))), (q23, .inl (k23, 50000, .inl (fun _ => 0)))] H := hP
  have hD : va_D A [(h0, .inr (3, [.ref q7, .ref q15, .ref q23, .null, .null, .null, .null, .int 0, .null])), (q7, .inl (k7, 50000, .inl (fun _ => 0))), (q15, .inl (k15, 50000, .inr (.inl (fun _ => 0)))), (q23, .inl (k23, 50000, .inl (fun _ => 0)))] := hD
  refine lv_aload_n hx hb d_Ta_init_28 rfl (lv_at hl 0 rfl) ?_
  refine lv_ldc (v := 50000) hx hb hown (hts (.constant R_Ta 9 50000) (List.mem_cons_of_mem _ kw_37)) d_Ta_init_29 ?_
  refine va_newa (atype := .long) (a0 := (50000, .inr (.inl (fun _ => 0)))) hx hb (hts (.arrayClass .long) (List.mem_cons_of_mem _ kw_11)) (ty := .long) rfl hK hP hD hS hA (fun _ => rfl) (by decide) (by decide) (by decide) (Nat.le_of_ble_eq_true rfl) (Nat.le_of_ble_eq_true rfl) d_Ta_init_31 (fun q31 k31 H hK hP hD hS => ?_)
  have hK : va_K (dC, dI) vwCl [(k7, .byte), (k15, .long), (k23, .byte), (k31, .long)] s := hK
  have hP : va_P (dC, dI) vwCl [(h0, .inr (3, [.ref q7, .ref q15, .ref q23, .null, .null, .null, .null, .int 0, .null])), (q7, .inl (k7, 50000, .inl (fun _ => 0))), (q15, .inl (k15, 50000, .inr (.inl (fun _ => 0)))), (q23, .inl (k23, 50000, .inl (fun _ => 0))), (q31, .inl (k31, 50000, .inr (.inl (fun _ => 0))))] H := hP
  have hD : va_D A [(h0, .inr (3, [.ref q7, .ref q15, .ref q23, .null, .null, .null, .null, .int 0, .null])), (q7, .inl (k7, 50000, .inl (fun _ => 0))), (q15, .inl (k15, 50000, .inr (.inl (fun _ => 0)))), (q23, .inl (k23, 50000, .inl (fun _ => 0))), (q31, .inl (k31, 50000, .inr (.inl (fun _ => 0))))] := hD
  refine W.widen (k := 4) (n := 200000) (Nat.le_of_ble_eq_true rfl) (Nat.le_of_ble_eq_true rfl) ?_
  refine va_putF (D := (dC, dI)) (ci := 3) (v := .ref q31) (ty := (.array .long)) (C := R_Ta) (T := TTa) (N := 9) hx hb hts (fun w h => List.mem_cons_of_mem _ (ic_Ta w h)) tyTa tyTa_ok nmTa hown hK hP hD hS 0 rfl rfl 3 (by decide) (hts (.fieldLink R_Ta 23 "LuaMachine$Tables" "values" "[J") (List.mem_cons_of_mem _ kw_41)) (fun _ h9 => h9) rfl hin rfl (tyTa_ok 3 (by decide)) rfl rfl (Nat.le_of_ble_eq_true rfl) d_Ta_init_33 (fun H locs hP hD hS => ?_)
  have hP : va_P (dC, dI) vwCl [(h0, .inr (3, [.ref q7, .ref q15, .ref q23, .ref q31, .null, .null, .null, .int 0, .null])), (q7, .inl (k7, 50000, .inl (fun _ => 0))), (q15, .inl (k15, 50000, .inr (.inl (fun _ => 0)))), (q23, .inl (k23, 50000, .inl (fun _ => 0))), (q31, .inl (k31, 50000, .inr (.inl (fun _ => 0))))] H := hP
  have hD : va_D A [(h0, .inr (3, [.ref q7, .ref q15, .ref q23, .ref q31, .null, .null, .null, .int 0, .null])), (q7, .inl (k7, 50000, .inl (fun _ => 0))), (q15, .inl (k15, 50000, .inr (.inl (fun _ => 0)))), (q23, .inl (k23, 50000, .inl (fun _ => 0))), (q31, .inl (k31, 50000, .inr (.inl (fun _ => 0))))] := hD
  refine lv_aload_n hx hb d_Ta_init_36 rfl (lv_at hl 0 rfl) ?_
  refine lv_ldc (v := 50000) hx hb hown (hts (.constant R_Ta 9 50000) (List.mem_cons_of_mem _ kw_37)) d_Ta_init_37 ?_
  refine va_newa (atype := .int) (a0 := (50000, .inl (fun _ => 0))) hx hb (hts (.arrayClass .int) (List.mem_cons_of_mem _ kw_6)) (ty := .int) rfl hK hP hD hS hA (fun _ => rfl) (by decide) (by decide) (by decide) (Nat.le_of_ble_eq_true rfl) (Nat.le_of_ble_eq_true rfl) d_Ta_init_39 (fun q39 k39 H hK hP hD hS => ?_)
  have hK : va_K (dC, dI) vwCl [(k7, .byte), (k15, .long), (k23, .byte), (k31, .long), (k39, .int)] s := hK
  have hP : va_P (dC, dI) vwCl [(h0, .inr (3, [.ref q7, .ref q15, .ref q23, .ref q31, .null, .null, .null, .int 0, .null])), (q7, .inl (k7, 50000, .inl (fun _ => 0))), (q15, .inl (k15, 50000, .inr (.inl (fun _ => 0)))), (q23, .inl (k23, 50000, .inl (fun _ => 0))), (q31, .inl (k31, 50000, .inr (.inl (fun _ => 0)))), (q39, .inl (k39, 50000, .inl (fun _ => 0)))] H := hP
  have hD : va_D A [(h0, .inr (3, [.ref q7, .ref q15, .ref q23, .ref q31, .null, .null, .null, .int 0, .null])), (q7, .inl (k7, 50000, .inl (fun _ => 0))), (q15, .inl (k15, 50000, .inr (.inl (fun _ => 0)))), (q23, .inl (k23, 50000, .inl (fun _ => 0))), (q31, .inl (k31, 50000, .inr (.inl (fun _ => 0)))), (q39, .inl (k39, 50000, .inl (fun _ => 0)))] := hD
  refine W.widen (k := 5) (n := 250000) (Nat.le_of_ble_eq_true rfl) (Nat.le_of_ble_eq_true rfl) ?_
  refine va_putF (D := (dC, dI)) (ci := 3) (v := .ref q39) (ty := (.array .int)) (C := R_Ta) (T := TTa) (N := 9) hx hb hts (fun w h => List.mem_cons_of_mem _ (ic_Ta w h)) tyTa tyTa_ok nmTa hown hK hP hD hS 0 rfl rfl 4 (by decide) (hts (.fieldLink R_Ta 26 "LuaMachine$Tables" "heads" "[I") (List.mem_cons_of_mem _ kw_42)) (fun _ h9 => h9) rfl hin rfl (tyTa_ok 4 (by decide)) rfl rfl (Nat.le_of_ble_eq_true rfl) d_Ta_init_41 (fun H locs hP hD hS => ?_)
  have hP : va_P (dC, dI) vwCl [(h0, .inr (3, [.ref q7, .ref q15, .ref q23, .ref q31, .ref q39, .null, .null, .int 0, .null])), (q7, .inl (k7, 50000, .inl (fun _ => 0))), (q15, .inl (k15, 50000, .inr (.inl (fun _ => 0)))), (q23, .inl (k23, 50000, .inl (fun _ => 0))), (q31, .inl (k31, 50000, .inr (.inl (fun _ => 0)))), (q39, .inl (k39, 50000, .inl (fun _ => 0)))] H := hP
  have hD : va_D A [(h0, .inr (3, [.ref q7, .ref q15, .ref q23, .ref q31, .ref q39, .null, .null, .int 0, .null])), (q7, .inl (k7, 50000, .inl (fun _ => 0))), (q15, .inl (k15, 50000, .inr (.inl (fun _ => 0)))), (q23, .inl (k23, 50000, .inl (fun _ => 0))), (q31, .inl (k31, 50000, .inr (.inl (fun _ => 0)))), (q39, .inl (k39, 50000, .inl (fun _ => 0)))] := hD
  refine lv_aload_n hx hb d_Ta_init_44 rfl (lv_at hl 0 rfl) ?_
  refine lv_ldc (v := 50000) hx hb hown (hts (.constant R_Ta 9 50000) (List.mem_cons_of_mem _ kw_37)) d_Ta_init_45 ?_
  refine va_newa (atype := .int) (a0 := (50000, .inl (fun _ => 0))) hx hb (hts (.arrayClass .int) (List.mem_cons_of_mem _ kw_6)) (ty := .int) rfl hK hP hD hS hA (fun _ => rfl) (by decide) (by decide) (by decide) (Nat.le_of_ble_eq_true rfl) (Nat.le_of_ble_eq_true rfl) d_Ta_init_47 (fun q47 k47 H hK hP hD hS => ?_)
  have hK : va_K (dC, dI) vwCl [(k7, .byte), (k15, .long), (k23, .byte), (k31, .long), (k39, .int), (k47, .int)] s := hK
  have hP : va_P (dC, dI) vwCl [(h0, .inr (3, [.ref q7, .ref q15, .ref q23, .ref q31, .ref q39, .null, .null, .int 0, .null])), (q7, .inl (k7, 50000, .inl (fun _ => 0))), (q15, .inl (k15, 50000, .inr (.inl (fun _ => 0)))), (q23, .inl (k23, 50000, .inl (fun _ => 0))), (q31, .inl (k31, 50000, .inr (.inl (fun _ => 0)))), (q39, .inl (k39, 50000, .inl (fun _ => 0))), (q47, .inl (k47, 50000, .inl (fun _ => 0)))] H := hP
  have hD : va_D A [(h0, .inr (3, [.ref q7, .ref q15, .ref q23, .ref q31, .ref q39, .null, .null, .int 0, .null])), (q7, .inl (k7, 50000, .inl (fun _ => 0))), (q15, .inl (k15, 50000, .inr (.inl (fun _ => 0)))), (q23, .inl (k23, 50000, .inl (fun _ => 0))), (q31, .inl (k31, 50000, .inr (.inl (fun _ => 0)))), (q39, .inl (k39, 50000, .inl (fun _ => 0))), (q47, .inl (k47, 50000, .inl (fun _ => 0)))] := hD
  refine W.widen (k := 6) (n := 300000) (Nat.le_of_ble_eq_true rfl) (Nat.le_of_ble_eq_true rfl) ?_
  refine va_putF (D := (dC, dI)) (ci := 3) (v := .ref q47) (ty := (.array .int)) (C := R_Ta) (T := TTa) (N := 9) hx hb hts (fun w h => List.mem_cons_of_mem _ (ic_Ta w h)) tyTa tyTa_ok nmTa hown hK hP hD hS 0 rfl rfl 5 (by decide) (hts (.fieldLink R_Ta 30 "LuaMachine$Tables" "chain" "[I") (List.mem_cons_of_mem _ kw_43)) (fun _ h9 => h9) rfl hin rfl (tyTa_ok 5 (by decide)) rfl rfl (Nat.le_of_ble_eq_true rfl) d_Ta_init_49 (fun H locs hP hD hS => ?_)
  have hP : va_P (dC, dI) vwCl [(h0, .inr (3, [.ref q7, .ref q15, .ref q23, .ref q31, .ref q39, .ref q47, .null, .int 0, .null])), (q7, .inl (k7, 50000, .inl (fun _ => 0))), (q15, .inl (k15, 50000, .inr (.inl (fun _ => 0)))), (q23, .inl (k23, 50000, .inl (fun _ => 0))), (q31, .inl (k31, 50000, .inr (.inl (fun _ => 0)))), (q39, .inl (k39, 50000, .inl (fun _ => 0))), (q47, .inl (k47, 50000, .inl (fun _ => 0)))] H := hP
  have hD : va_D A [(h0, .inr (3, [.ref q7, .ref q15, .ref q23, .ref q31, .ref q39, .ref q47, .null, .int 0, .null])), (q7, .inl (k7, 50000, .inl (fun _ => 0))), (q15, .inl (k15, 50000, .inr (.inl (fun _ => 0)))), (q23, .inl (k23, 50000, .inl (fun _ => 0))), (q31, .inl (k31, 50000, .inr (.inl (fun _ => 0)))), (q39, .inl (k39, 50000, .inl (fun _ => 0))), (q47, .inl (k47, 50000, .inl (fun _ => 0)))] := hD
  refine lv_aload_n hx hb d_Ta_init_52 rfl (lv_at hl 0 rfl) ?_
  refine lv_ldc (v := 50000) hx hb hown (hts (.constant R_Ta 9 50000) (List.mem_cons_of_mem _ kw_37)) d_Ta_init_53 ?_
  refine va_newa (atype := .int) (a0 := (50000, .inl (fun _ => 0))) hx hb (hts (.arrayClass .int) (List.mem_cons_of_mem _ kw_6)) (ty := .int) rfl hK hP hD hS hA (fun _ => rfl) (by decide) (by decide) (by decide) (Nat.le_of_ble_eq_true rfl) (Nat.le_of_ble_eq_true rfl) d_Ta_init_55 (fun q55 k55 H hK hP hD hS => ?_)
  have hK : va_K (dC, dI) vwCl [(k7, .byte), (k15, .long), (k23, .byte), (k31, .long), (k39, .int), (k47, .int), (k55, .int)] s := hK
  have hP : va_P (dC, dI) vwCl [(h0, .inr (3, [.ref q7, .ref q15, .ref q23, .ref q31, .ref q39, .ref q47, .null, .int 0, .null])), (q7, .inl (k7, 50000, .inl (fun _ => 0))), (q15, .inl (k15, 50000, .inr (.inl (fun _ => 0)))), (q23, .inl (k23, 50000, .inl (fun _ => 0))), (q31, .inl (k31, 50000, .inr (.inl (fun _ => 0)))), (q39, .inl (k39, 50000, .inl (fun _ => 0))), (q47, .inl (k47, 50000, .inl (fun _ => 0))), (q55, .inl (k55, 50000, .inl (fun _ => 0)))] H := hP
  have hD : va_D A [(h0, .inr (3, [.ref q7, .ref q15, .ref q23, .ref q31, .ref q39, .ref q47, .null, .int 0, .null])), (q7, .inl (k7, 50000, .inl (fun _ => 0))), (q15, .inl (k15, 50000, .inr (.inl (fun _ => 0)))), (q23, .inl (k23, 50000, .inl (fun _ => 0))), (q31, .inl (k31, 50000, .inr (.inl (fun _ => 0)))), (q39, .inl (k39, 50000, .inl (fun _ => 0))), (q47, .inl (k47, 50000, .inl (fun _ => 0))), (q55, .inl (k55, 50000, .inl (fun _ => 0)))] := hD
  refine W.widen (k := 7) (n := 350000) (Nat.le_of_ble_eq_true rfl) (Nat.le_of_ble_eq_true rfl) ?_
  refine va_putF (D := (dC, dI)) (ci := 3) (v := .ref q55) (ty := (.array .int)) (C := R_Ta) (T := TTa) (N := 9) hx hb hts (fun w h => List.mem_cons_of_mem _ (ic_Ta w h)) tyTa tyTa_ok nmTa hown hK hP hD hS 0 rfl rfl 6 (by decide) (hts (.fieldLink R_Ta 33 "LuaMachine$Tables" "owners" "[I") (List.mem_cons_of_mem _ kw_44)) (fun _ h9 => h9) rfl hin rfl (tyTa_ok 6 (by decide)) rfl rfl (Nat.le_of_ble_eq_true rfl) d_Ta_init_57 (fun H locs hP hD hS => ?_)
  have hP : va_P (dC, dI) vwCl [(h0, .inr (3, [.ref q7, .ref q15, .ref q23, .ref q31, .ref q39, .ref q47, .ref q55, .int 0, .null])), (q7, .inl (k7, 50000, .inl (fun _ => 0))), (q15, .inl (k15, 50000, .inr (.inl (fun _ => 0)))), (q23, .inl (k23, 50000, .inl (fun _ => 0))), (q31, .inl (k31, 50000, .inr (.inl (fun _ => 0)))), (q39, .inl (k39, 50000, .inl (fun _ => 0))), (q47, .inl (k47, 50000, .inl (fun _ => 0))), (q55, .inl (k55, 50000, .inl (fun _ => 0)))] H := hP
  have hD : va_D A [(h0, .inr (3, [.ref q7, .ref q15, .ref q23, .ref q31, .ref q39, .ref q47, .ref q55, .int 0, .null])), (q7, .inl (k7, 50000, .inl (fun _ => 0))), (q15, .inl (k15, 50000, .inr (.inl (fun _ => 0)))), (q23, .inl (k23, 50000, .inl (fun _ => 0))), (q31, .inl (k31, 50000, .inr (.inl (fun _ => 0)))), (q39, .inl (k39, 50000, .inl (fun _ => 0))), (q47, .inl (k47, 50000, .inl (fun _ => 0))), (q55, .inl (k55, 50000, .inl (fun _ => 0)))] := hD
  refine lv_aload_n hx hb d_Ta_init_60 rfl (lv_at hl 0 rfl) ?_
  refine lv_aload_n hx hb d_Ta_init_61 rfl (lv_at hl 1 rfl) ?_
  refine va_putF (D := (dC, dI)) (ci := 3) (v := .ref oh) (ty := (.object "LuaMachine$Heap")) (C := R_Ta) (T := TTa) (N := 9) hx hb hts (fun w h => List.mem_cons_of_mem _ (ic_Ta w h)) tyTa tyTa_ok nmTa hown hK hP hD hS 0 rfl rfl 8 (by decide) (hts (.fieldLink R_Ta 36 "LuaMachine$Tables" "heap" "LLuaMachine$Heap;") (List.mem_cons_of_mem _ kw_45)) (fun _ h9 => h9) rfl hin rfl (tyTa_ok 8 (by decide)) rfl rfl (Nat.le_of_ble_eq_true rfl) d_Ta_init_62 (fun H locs hP hD hS => ?_)
  have hP : va_P (dC, dI) vwCl [(h0, .inr (3, [.ref q7, .ref q15, .ref q23, .ref q31, .ref q39, .ref q47, .ref q55, .int 0, .ref oh])), (q7, .inl (k7, 50000, .inl (fun _ => 0))), (q15, .inl (k15, 50000, .inr (.inl (fun _ => 0)))), (q23, .inl (k23, 50000, .inl (fun _ => 0))), (q31, .inl (k31, 50000, .inr (.inl (fun _ => 0)))), (q39, .inl (k39, 50000, .inl (fun _ => 0))), (q47, .inl (k47, 50000, .inl (fun _ => 0))), (q55, .inl (k55, 50000, .inl (fun _ => 0)))] H := hP
  have hD : va_D A [(h0, .inr (3, [.ref q7, .ref q15, .ref q23, .ref q31, .ref q39, .ref q47, .ref q55, .int 0, .ref oh])), (q7, .inl (k7, 50000, .inl (fun _ => 0))), (q15, .inl (k15, 50000, .inr (.inl (fun _ => 0)))), (q23, .inl (k23, 50000, .inl (fun _ => 0))), (q31, .inl (k31, 50000, .inr (.inl (fun _ => 0)))), (q39, .inl (k39, 50000, .inl (fun _ => 0))), (q47, .inl (k47, 50000, .inl (fun _ => 0))), (q55, .inl (k55, 50000, .inl (fun _ => 0)))] := hD
  have hP9 := hP.sub (ws' := [(h0, .inr (3, [.ref q7, .ref q15, .ref q23, .ref q31, .ref q39, .ref q47, .ref q55, .int 0, .ref oh]))]) [0] rfl
  have hD9 := hD.sub (ws' := [(h0, .inr (3, [.ref q7, .ref q15, .ref q23, .ref q31, .ref q39, .ref q47, .ref q55, .int 0, .ref oh]))]) [0] (by decide) rfl
  have hK9 := hK.sub (tys' := []) [] rfl
  refine W.widen (k := 7) (n := 350000) (Nat.le_of_ble_eq_true rfl) (Nat.le_of_ble_eq_true rfl) ?_
  exact W.vret hx hb hr (fun t ht hW => ⟨⟨(), rfl, trivial, q7, q15, q23, q31, q39, q47, q55, by rw [ht]; exact hP9, va_K.moved hW.alike hK9, hD9⟩, hS.F ht⟩) hS.2.2 d_Ta_init_65

