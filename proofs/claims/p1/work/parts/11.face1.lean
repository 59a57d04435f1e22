abbrev b_LM_end : ByteArray := prog_1_method_4_code
def y_LM_end : MethodName := ⟨R_LM, "end", "(I)I"⟩
abbrev w_LM_end : List Cond := .code y_LM_end b_LM_end 2 (some .int) :: wA
theorem k_LM_end : Cond.code y_LM_end b_LM_end 2 (some .int) ∈ wA := kinm (show _ ∈ tables_1 from (List.mem_append_right _ (List.mem_append_right _ (List.mem_append_left _ (List.mem_of_getElem? (l := tables_1_3) (i := 82) (by decide +kernel)))))) (by decide +kernel)
theorem d_LM_end_0 : decode b_LM_end 0 = .ok (.iload_n 1, 1) := by decide +kernel
theorem d_LM_end_1 : decode b_LM_end 1 = .ok (.ifCond .lt 11, 3) := by decide +kernel
theorem d_LM_end_4 : decode b_LM_end 4 = .ok (.iload_n 1, 1) := by decide +kernel
theorem d_LM_end_5 : decode b_LM_end 5 = .ok (.aload_n 0, 1) := by decide +kernel
theorem d_LM_end_6 : decode b_LM_end 6 = .ok (.getfield 58, 3) := by decide +kernel
theorem d_LM_end_9 : decode b_LM_end 9 = .ok (.if_icmp .le 11, 3) := by decide +kernel
theorem d_LM_end_12 : decode b_LM_end 12 = .ok (.new 74, 3) := by decide +kernel
theorem d_LM_end_15 : decode b_LM_end 15 = .ok (.dup, 1) := by decide +kernel
theorem d_LM_end_16 : decode b_LM_end 16 = .ok (.invokespecial 76, 3) := by decide +kernel
theorem d_LM_end_19 : decode b_LM_end 19 = .ok (.athrow, 1) := by decide +kernel
theorem d_LM_end_20 : decode b_LM_end 20 = .ok (.aload_n 0, 1) := by decide +kernel
theorem d_LM_end_21 : decode b_LM_end 21 = .ok (.iload_n 1, 1) := by decide +kernel
theorem d_LM_end_22 : decode b_LM_end 22 = .ok (.putfield 58, 3) := by decide +kernel
theorem d_LM_end_25 : decode b_LM_end 25 = .ok (.iload_n 1, 1) := by decide +kernel
theorem d_LM_end_26 : decode b_LM_end 26 = .ok (.ireturn, 1) := by decide +kernel
theorem kw_123 : Cond.classLink R_LM 74 "java/lang/IllegalArgumentException" ∈ wA := kinm (show _ ∈ tables_1 from (List.mem_append_right _ (List.mem_append_right _ (List.mem_append_left _ (List.mem_of_getElem? (l := tables_1_3) (i := 83) (by decide +kernel)))))) (by decide +kernel)
theorem kw_124 : Cond.initialized "java/lang/IllegalArgumentException" ∈ wA := kinm (show _ ∈ tables_1 from (List.mem_append_left _ (List.mem_of_getElem? (l := tables_1_1) (i := 16) (by decide +kernel)))) (by decide +kernel)
theorem kw_125 : Cond.instantiable "java/lang/IllegalArgumentException" 6 ∈ wA := kinm (show _ ∈ tables_1 from (List.mem_append_right _ (List.mem_append_right _ (List.mem_append_left _ (List.mem_of_getElem? (l := tables_1_3) (i := 84) (by decide +kernel)))))) (by decide +kernel)
set_option maxRecDepth 20000 in
theorem xo_IllegalArgumentException : ∀ w ∈ (Bundle.ownAtoms0 R_LM 76 "java/lang/IllegalArgumentException" ["java/lang/RuntimeException", "java/lang/Exception"]).filter goodWord, w ∈ wA := by decide +kernel
set_option maxRecDepth 20000 in
theorem xn_IllegalArgumentException : ∀ w ∈ (Bundle.ownAtoms0 R_LM 76 "java/lang/IllegalArgumentException" ["java/lang/RuntimeException", "java/lang/Exception"]).filter (fun w => !goodWord w), w ∈ xFour ∨ (w ∈ xW ∧ w.onTables = true) := by decide +kernel
abbrev b_LM_fault : ByteArray := prog_1_method_6_code
def y_LM_fault : MethodName := ⟨R_LM, "fault", "(I)I"⟩
abbrev w_LM_fault : List Cond := .code y_LM_fault b_LM_fault 2 (some .int) :: wA
theorem k_LM_fault : Cond.code y_LM_fault b_LM_fault 2 (some .int) ∈ wA := kinm (show _ ∈ tables_1 from (List.mem_append_right _ (List.mem_append_right _ (List.mem_append_right _ (List.mem_append_right _ (List.mem_append_right _ (List.mem_append_right _ (List.mem_append_left _ (List.mem_of_getElem? (l := tables_1_7) (i := 3) (by decide +kernel)))))))))) (by decide +kernel)
theorem d_LM_fault_0 : decode b_LM_fault 0 = .ok (.iload_n 1, 1) := by decide +kernel
theorem d_LM_fault_1 : decode b_LM_fault 1 = .ok (.ifCond .eq 16, 3) := by decide +kernel
theorem d_LM_fault_4 : decode b_LM_fault 4 = .ok (.iload_n 1, 1) := by decide +kernel
theorem d_LM_fault_5 : decode b_LM_fault 5 = .ok (.iconst 1, 1) := by decide +kernel
theorem d_LM_fault_6 : decode b_LM_fault 6 = .ok (.if_icmp .eq 11, 3) := by decide +kernel
theorem d_LM_fault_9 : decode b_LM_fault 9 = .ok (.new 74, 3) := by decide +kernel
theorem d_LM_fault_12 : decode b_LM_fault 12 = .ok (.dup, 1) := by decide +kernel
theorem d_LM_fault_13 : decode b_LM_fault 13 = .ok (.invokespecial 76, 3) := by decide +kernel
theorem d_LM_fault_16 : decode b_LM_fault 16 = .ok (.athrow, 1) := by decide +kernel
theorem d_LM_fault_17 : decode b_LM_fault 17 = .ok (.iload_n 1, 1) := by decide +kernel
theorem d_LM_fault_18 : decode b_LM_fault 18 = .ok (.ifCond .ne 13, 3) := by decide +kernel
theorem d_LM_fault_21 : decode b_LM_fault 21 = .ok (.aload_n 0, 1) := by decide +kernel
theorem d_LM_fault_22 : decode b_LM_fault 22 = .ok (.getfield 10, 3) := by decide +kernel
theorem d_LM_fault_25 : decode b_LM_fault 25 = .ok (.getfield 101, 3) := by decide +kernel
theorem d_LM_fault_28 : decode b_LM_fault 28 = .ok (.goto 10, 3) := by decide +kernel
theorem d_LM_fault_31 : decode b_LM_fault 31 = .ok (.aload_n 0, 1) := by decide +kernel
theorem d_LM_fault_32 : decode b_LM_fault 32 = .ok (.getfield 10, 3) := by decide +kernel
theorem d_LM_fault_35 : decode b_LM_fault 35 = .ok (.getfield 104, 3) := by decide +kernel
theorem d_LM_fault_38 : decode b_LM_fault 38 = .ok (.ireturn, 1) := by decide +kernel
theorem kw_127 : Cond.fieldLink R_LM 101 "LuaMachine$Chunk" "faultFound" "I" ∈ wA := kinm (show _ ∈ tables_1 from (List.mem_append_left _ (List.mem_of_getElem? (l := tables_1_1) (i := 82) (by decide +kernel)))) (by decide +kernel)
theorem kw_128 : Cond.fieldLink R_LM 104 "LuaMachine$Chunk" "faultPlace" "I" ∈ wA := kinm (show _ ∈ tables_1 from (List.mem_append_left _ (List.mem_of_getElem? (l := tables_1_1) (i := 84) (by decide +kernel)))) (by decide +kernel)
abbrev b_LM_limit : ByteArray := prog_1_method_7_code
def y_LM_limit : MethodName := ⟨R_LM, "limit", "(I)I"⟩
abbrev w_LM_limit : List Cond := .code y_LM_limit b_LM_limit 3 (some .int) :: wA
theorem k_LM_limit : Cond.code y_LM_limit b_LM_limit 3 (some .int) ∈ wA := kinm (show _ ∈ tables_1 from (List.mem_append_right _ (List.mem_append_right _ (List.mem_append_right _ (List.mem_append_right _ (List.mem_append_right _ (List.mem_append_right _ (List.mem_append_left _ (List.mem_of_getElem? (l := tables_1_7) (i := 10) (by decide +kernel)))))))))) (by decide +kernel)
theorem d_LM_limit_0 : decode b_LM_limit 0 = .ok (.iload_n 1, 1) := by decide +kernel
theorem d_LM_limit_1 : decode b_LM_limit 1 = .ok (.sipush 200, 3) := by decide +kernel
theorem d_LM_limit_4 : decode b_LM_limit 4 = .ok (.if_icmp .lt 10, 3) := by decide +kernel
theorem d_LM_limit_7 : decode b_LM_limit 7 = .ok (.iload_n 1, 1) := by decide +kernel
theorem d_LM_limit_8 : decode b_LM_limit 8 = .ok (.sipush 4000, 3) := by decide +kernel
theorem d_LM_limit_11 : decode b_LM_limit 11 = .ok (.if_icmp .le 11, 3) := by decide +kernel
theorem d_LM_limit_14 : decode b_LM_limit 14 = .ok (.new 74, 3) := by decide +kernel
theorem d_LM_limit_17 : decode b_LM_limit 17 = .ok (.dup, 1) := by decide +kernel
theorem d_LM_limit_18 : decode b_LM_limit 18 = .ok (.invokespecial 76, 3) := by decide +kernel
theorem d_LM_limit_21 : decode b_LM_limit 21 = .ok (.athrow, 1) := by decide +kernel
theorem d_LM_limit_22 : decode b_LM_limit 22 = .ok (.aload_n 0, 1) := by decide +kernel
theorem d_LM_limit_23 : decode b_LM_limit 23 = .ok (.getfield 19, 3) := by decide +kernel
theorem d_LM_limit_26 : decode b_LM_limit 26 = .ok (.getfield 107, 3) := by decide +kernel
theorem d_LM_limit_29 : decode b_LM_limit 29 = .ok (.istore_n 2, 1) := by decide +kernel
theorem d_LM_limit_30 : decode b_LM_limit 30 = .ok (.aload_n 0, 1) := by decide +kernel
theorem d_LM_limit_31 : decode b_LM_limit 31 = .ok (.getfield 19, 3) := by decide +kernel
theorem d_LM_limit_34 : decode b_LM_limit 34 = .ok (.iload_n 1, 1) := by decide +kernel
theorem d_LM_limit_35 : decode b_LM_limit 35 = .ok (.putfield 107, 3) := by decide +kernel
theorem d_LM_limit_38 : decode b_LM_limit 38 = .ok (.iload_n 2, 1) := by decide +kernel
theorem d_LM_limit_39 : decode b_LM_limit 39 = .ok (.ireturn, 1) := by decide +kernel
theorem kw_129 : Cond.fieldLink R_LM 107 "LuaMachine$Heap" "most" "I" ∈ wA := kinm (show _ ∈ tables_1 from (List.mem_append_left _ (List.mem_of_getElem? (l := tables_1_1) (i := 164) (by decide +kernel)))) (by decide +kernel)
set_option maxHeartbeats 4000000 in
set_option maxRecDepth 100000 in
theorem c_LM_end_ok (l : Launch) (dC : Nat → ClassId) (dI : Nat → Nat → Nat) (h0 : Nat) (oc : Nat) (oh : Nat) (om : Nat) (os : Nat) (ob : Nat) (h0_loaded : Int32) (tl : Int32) (n : Int32) (sz : Nat) (g1 : ¬ n < 0) (g2 : n ≤ tl) : Met l y_LM_end w_LM_end ({ frames := 0, cells := 0, slots := 0, locals := 0 }) (va_Pc [.ref h0, .int n] (fun U => U.heap.size = sz ∧ va_P (dC, dI) vwCl [(h0, .inr (0, [.int tl, .int h0_loaded, .ref oc, .ref oh, .ref om, .ref os, .ref ob]))] U.heap ∧ va_K (dC, dI) vwCl [] U ∧ va_D (fun _ => True) [(h0, .inr (0, [.int tl, .int h0_loaded, .ref oc, .ref oh, .ref om, .ref os, .ref ob]))] ∧ xB U ∧ xZ (va_A [(h0, .inr (0, [.int tl, .int h0_loaded, .ref oc, .ref oh, .ref om, .ref os, .ref ob]))] sz) U U.heap)) (va_Qi (fun (r : Int32) (_ : Unit) => r = n) (fun _ t => va_P (dC, dI) vwCl [(h0, .inr (0, [.int n, .int h0_loaded, .ref oc, .ref oh, .ref om, .ref os, .ref ob]))] t.heap ∧ va_K (dC, dI) vwCl [] t ∧ va_D (va_A [(h0, .inr (0, [.int tl, .int h0_loaded, .ref oc, .ref oh, .ref om, .ref os, .ref ob]))] sz) [(h0, .inr (0, [.int n, .int h0_loaded, .ref oc, .ref oh, .ref om, .ref os, .ref ob]))]) (va_A [(h0, .inr (0, [.int tl, .int h0_loaded, .ref oc, .ref oh, .ref om, .ref os, .ref ob]))] sz)) 0 0 (va_A [(h0, .inr (0, [.int tl, .int h0_loaded, .ref oc, .ref oh, .ref om, .ref os, .ref ob]))] sz) := by
  refine Met.ofW (cc := b_LM_end) (maxL := 2) (ret := (some .int)) (by decide) rfl ?_
  intro p e s m args below meth c s₁ B hml hv
  obtain ⟨rfl, hsz, hP, hK, hD0, hB, hZ⟩ := hv
  have hx := B.exec
  have hb := B.bytes
  have hr := B.returns
  have hts := atoms_spec (ws := w_LM_end) B.pre
  have hown : s.vm.findClass R_LM = some m.cls := findClass_of_methodNamed B.named
  have hlocks := B.notSynchronized
  subst hsz
  have hD := hD0.self (sz := s.heap.size)
  generalize hAe : va_A [(h0, .inr (0, [.int tl, .int h0_loaded, .ref oc, .ref oh, .ref om, .ref os, .ref ob]))] s.heap.size = A at hD hZ ⊢
  have hA : ∀ q : Nat, s.heap.size ≤ q → A q := fun q h => by rw [← hAe]; exact Or.inr h
  have hS : va_S A s.heap s.heap [] := va_S.rf
  have hl := lv_entry ([.ref h0, .int n]) (n := 2) (Nat.le_of_ble_eq_true rfl)
  rw [lg_entry_eq]
  generalize (lg_sl ([.ref h0, .int n]) ++ List.replicate (2 - (lg_sl ([.ref h0, .int n])).length) Slot.unset).toArray = ls at hl ⊢
  have hl : lv_has ls 2 [(0, .ref h0), (1, .int n)] := hl
  have hP : va_P (dC, dI) vwCl [(h0, .inr (0, [.int tl, .int h0_loaded, .ref oc, .ref oh, .ref om, .ref os, .ref ob]))] s.heap := hP
  have hD : va_D A [(h0, .inr (0, [.int tl, .int h0_loaded, .ref oc, .ref oh, .ref om, .ref os, .ref ob]))] := hD
  refine lv_iload_n hx hb d_LM_end_0 rfl (lv_at hl 1 rfl) ?_
  refine lv_if_lt (tgt := 12) hx hb d_LM_end_1 (by decide) (fun c_1 => absurd c_1 g1) (fun c_1 => ?_)
  refine lv_iload_n hx hb d_LM_end_4 rfl (lv_at hl 1 rfl) ?_
  refine lv_aload_n hx hb d_LM_end_5 rfl (lv_at hl 0 rfl) ?_
  refine va_get (D := (dC, dI)) (ci := 0) (v := .int tl) (C := R_LM) (T := TLM) (N := 7) hx hb hts (fun w h => List.mem_cons_of_mem _ (ic_LM w h)) hown hK hP 0 rfl rfl 0 (by decide) (hts (.fieldLink R_LM 58 "LuaMachine" "tapeLength" "I") (List.mem_cons_of_mem _ kw_117)) (fun _ h9 => h9) rfl d_LM_end_6 ?_
  refine lv_icmp_le (tgt := 20) hx hb d_LM_end_9 (by decide) (fun c_9 => ?_) (fun c_9 => absurd g2 c_9)
  refine lv_aload_n hx hb d_LM_end_20 rfl (lv_at hl 0 rfl) ?_
  refine lv_iload_n hx hb d_LM_end_21 rfl (lv_at hl 1 rfl) ?_
  refine va_put (D := (dC, dI)) (ci := 0) (v := .int n) (ty := .int) (C := R_LM) (T := TLM) (N := 7) hx hb hts (fun w h => List.mem_cons_of_mem _ (ic_LM w h)) tyLM tyLM_ok nmLM hown hK hP hD hS 0 rfl rfl 0 (by decide) (hts (.fieldLink R_LM 58 "LuaMachine" "tapeLength" "I") (List.mem_cons_of_mem _ kw_117)) (fun _ h9 => h9) rfl (tyLM_ok 0 (by decide)) rfl rfl (Nat.le_of_ble_eq_true rfl) d_LM_end_22 (fun H locs hP hD hS => ?_)
  have hP : va_P (dC, dI) vwCl [(h0, .inr (0, [.int n, .int h0_loaded, .ref oc, .ref oh, .ref om, .ref os, .ref ob]))] H := hP
  have hD : va_D A [(h0, .inr (0, [.int n, .int h0_loaded, .ref oc, .ref oh, .ref om, .ref os, .ref ob]))] := hD
  refine lv_iload_n hx hb d_LM_end_25 rfl (lv_at hl 1 rfl) ?_
  have hP9 := hP.sub (ws' := [(h0, .inr (0, [.int n, .int h0_loaded, .ref oc, .ref oh, .ref om, .ref os, .ref ob]))]) [0] rfl
  have hD9 := hD.sub (ws' := [(h0, .inr (0, [.int n, .int h0_loaded, .ref oc, .ref oh, .ref om, .ref os, .ref ob]))]) [0] (by decide) rfl
  have hK9 := hK.sub (tys' := []) [] rfl
  refine W.widen (k := 0) (n := 0) (Nat.le_of_ble_eq_true rfl) (Nat.le_of_ble_eq_true rfl) ?_
  exact W.iret (v := n) hx hb hr (fun t ht hW => ⟨⟨n, (), rfl, rfl, by rw [ht]; exact hP9, va_K.moved hW.alike hK9, hD9⟩, hS.F ht⟩) hS.2.2 d_LM_end_26

set_option maxHeartbeats 4000000 in
set_option maxRecDepth 100000 in
theorem c_LM_end_bad (l : Launch) (hst : l.stackTraces = false) (dC : Nat → ClassId) (dI : Nat → Nat → Nat) (h0 : Nat) (oc : Nat) (oh : Nat) (om : Nat) (os : Nat) (ob : Nat) (h0_loaded : Int32) (tl : Int32) (n : Int32) (sz : Nat) (g : n < 0 ∨ ¬ n ≤ tl) : MetX l y_LM_end w_LM_end ({ frames := 6, cells := 1, slots := 6, locals := 81 }) (va_Pc [.ref h0, .int n] (fun U => U.heap.size = sz ∧ va_P (dC, dI) vwCl [(h0, .inr (0, [.int tl, .int h0_loaded, .ref oc, .ref oh, .ref om, .ref os, .ref ob]))] U.heap ∧ va_K (dC, dI) vwCl [] U ∧ va_D (fun _ => True) [(h0, .inr (0, [.int tl, .int h0_loaded, .ref oc, .ref oh, .ref om, .ref os, .ref ob]))] ∧ xB U ∧ xZ (va_A [(h0, .inr (0, [.int tl, .int h0_loaded, .ref oc, .ref oh, .ref om, .ref os, .ref ob]))] sz) U U.heap)) "java/lang/IllegalArgumentException" (va_F (va_A [(h0, .inr (0, [.int tl, .int h0_loaded, .ref oc, .ref oh, .ref om, .ref os, .ref ob]))] sz)) 1 6 (va_A [(h0, .inr (0, [.int tl, .int h0_loaded, .ref oc, .ref oh, .ref om, .ref os, .ref ob]))] sz) := by
  refine MetX.ofW (cc := b_LM_end) (maxL := 2) (ret := (some .int)) (by decide) rfl ?_
  intro p e s m args below meth c s₁ B hml hex hv
  obtain ⟨rfl, hsz, hP, hK, hD0, hB, hZ⟩ := hv
  have hx := B.exec
  have hb := B.bytes
  have hr := B.returns
  have hts := atoms_spec (ws := w_LM_end) B.pre
  have hown : s.vm.findClass R_LM = some m.cls := findClass_of_methodNamed B.named
  have hlocks := B.notSynchronized
  subst hsz
  have hD := hD0.self (sz := s.heap.size)
  generalize hAe : va_A [(h0, .inr (0, [.int tl, .int h0_loaded, .ref oc, .ref oh, .ref om, .ref os, .ref ob]))] s.heap.size = A at hD hZ ⊢
  have hA : ∀ q : Nat, s.heap.size ≤ q → A q := fun q h => by rw [← hAe]; exact Or.inr h
  have hNs : ∀ q, A q → ∀ cell : Cell, s.heap[q]? = some cell → cell.vm.isStatics = false := by rw [← hAe]; exact xnos hP
  have hS : va_S A s.heap s.heap [] := va_S.rf
  have hl := lv_entry ([.ref h0, .int n]) (n := 2) (Nat.le_of_ble_eq_true rfl)
  rw [lg_entry_eq]
  generalize (lg_sl ([.ref h0, .int n]) ++ List.replicate (2 - (lg_sl ([.ref h0, .int n])).length) Slot.unset).toArray = ls at hl ⊢
  have hl : lv_has ls 2 [(0, .ref h0), (1, .int n)] := hl
  have hP : va_P (dC, dI) vwCl [(h0, .inr (0, [.int tl, .int h0_loaded, .ref oc, .ref oh, .ref om, .ref os, .ref ob]))] s.heap := hP
  have hD : va_D A [(h0, .inr (0, [.int tl, .int h0_loaded, .ref oc, .ref oh, .ref om, .ref os, .ref ob]))] := hD
  refine lv_iload_n hx hb d_LM_end_0 rfl (lv_at hl 1 rfl) ?_
  refine lv_if_lt (tgt := 12) hx hb d_LM_end_1 (by decide) (fun c_1 => ?_) (fun c_1 => ?_)
  · skip
    exact xthrow (own := R_LM) (cls := "java/lang/IllegalArgumentException") (names := ["java/lang/RuntimeException", "java/lang/Exception"]) (ik := 74) (ic := 76) hx hb hst hown (by decide) (by decide) (hts (.classLink R_LM 74 "java/lang/IllegalArgumentException") (List.mem_cons_of_mem _ kw_123)) (hts (.initialized "java/lang/IllegalArgumentException") (List.mem_cons_of_mem _ kw_124)) (hts (.instantiable "java/lang/IllegalArgumentException" 6) (List.mem_cons_of_mem _ kw_125)) (xat (fun w h => hts w (List.mem_cons_of_mem _ (xo_IllegalArgumentException w h))) xn_IllegalArgumentException hB hZ) hNs hS (by rw [hml]; exact hl.1) d_LM_end_12 d_LM_end_15 d_LM_end_16 d_LM_end_19 hex (Nat.le_of_ble_eq_true rfl) (Nat.le_of_ble_eq_true rfl) (Nat.le_of_ble_eq_true rfl) (Nat.le_of_ble_eq_true rfl) hlocks (fun U _ hF => hF) (Nat.le_of_ble_eq_true rfl) (Nat.le_of_ble_eq_true rfl)
  · skip
    refine lv_iload_n hx hb d_LM_end_4 rfl (lv_at hl 1 rfl) ?_
    refine lv_aload_n hx hb d_LM_end_5 rfl (lv_at hl 0 rfl) ?_
    refine va_get (D := (dC, dI)) (ci := 0) (v := .int tl) (C := R_LM) (T := TLM) (N := 7) hx hb hts (fun w h => List.mem_cons_of_mem _ (ic_LM w h)) hown hK hP 0 rfl rfl 0 (by decide) (hts (.fieldLink R_LM 58 "LuaMachine" "tapeLength" "I") (List.mem_cons_of_mem _ kw_117)) (fun _ h9 => h9) rfl d_LM_end_6 ?_
    refine lv_icmp_le (tgt := 20) hx hb d_LM_end_9 (by decide) (fun c_9 => absurd c_9 (g.resolve_left c_1)) (fun c_9 => ?_)
    exact xthrow (own := R_LM) (cls := "java/lang/IllegalArgumentException") (names := ["java/lang/RuntimeException", "java/lang/Exception"]) (ik := 74) (ic := 76) hx hb hst hown (by decide) (by decide) (hts (.classLink R_LM 74 "java/lang/IllegalArgumentException") (List.mem_cons_of_mem _ kw_123)) (hts (.initialized "java/lang/IllegalArgumentException") (List.mem_cons_of_mem _ kw_124)) (hts (.instantiable "java/lang/IllegalArgumentException" 6) (List.mem_cons_of_mem _ kw_125)) (xat (fun w h => hts w (List.mem_cons_of_mem _ (xo_IllegalArgumentException w h))) xn_IllegalArgumentException hB hZ) hNs hS (by rw [hml]; exact hl.1) d_LM_end_12 d_LM_end_15 d_LM_end_16 d_LM_end_19 hex (Nat.le_of_ble_eq_true rfl) (Nat.le_of_ble_eq_true rfl) (Nat.le_of_ble_eq_true rfl) (Nat.le_of_ble_eq_true rfl) hlocks (fun U _ hF => hF) (Nat.le_of_ble_eq_true rfl) (Nat.le_of_ble_eq_true rfl)

set_option maxHeartbeats 4000000 in
set_option maxRecDepth 100000 in
theorem c_LM_fault_0 (l : Launch) (dC : Nat → ClassId) (dI : Nat → Nat → Nat) (h0 : Nat) (oc : Nat) (oh : Nat) (om : Nat) (os : Nat) (ob : Nat) (h0_tapeLength : Int32) (h0_loaded : Int32) (oc_prototypes : Nat) (oc_children : Nat) (oc_code : Nat) (oc_constantKinds : Nat) (oc_constantValues : Nat) (oc_upvalues : Nat) (oc_tape : Nat) (oc_open : Nat) (oc_left : Nat) (oc_prototypeCount : Int32) (oc_constantCount : Int32) (oc_codeCount : Int32) (oc_upvalueCount : Int32) (oc_length : Int32) (oc_at : Int32) (oc_faultFound : Int32) (oc_faultPlace : Int32) (n : Int32) (sz : Nat) (g : n = 0) : Met l y_LM_fault w_LM_fault ({ frames := 0, cells := 0, slots := 0, locals := 0 }) (va_Pc [.ref h0, .int n] (fun U => U.heap.size = sz ∧ va_P (dC, dI) vwCl [(h0, .inr (0, [.int h0_tapeLength, .int h0_loaded, .ref oc, .ref oh, .ref om, .ref os, .ref ob])), (oc, .inr (1, [.ref oc_prototypes, .ref oc_children, .ref oc_code, .ref oc_constantKinds, .ref oc_constantValues, .ref oc_upvalues, .ref oc_tape, .ref oc_open, .ref oc_left, .int oc_prototypeCount, .int oc_constantCount, .int oc_codeCount, .int oc_upvalueCount, .int oc_length, .int oc_at, .int oc_faultFound, .int oc_faultPlace]))] U.heap ∧ va_K (dC, dI) vwCl [] U ∧ va_D (fun _ => True) [(h0, .inr (0, [.int h0_tapeLength, .int h0_loaded, .ref oc, .ref oh, .ref om, .ref os, .ref ob])), (oc, .inr (1, [.ref oc_prototypes, .ref oc_children, .ref oc_code, .ref oc_constantKinds, .ref oc_constantValues, .ref oc_upvalues, .ref oc_tape, .ref oc_open, .ref oc_left, .int oc_prototypeCount, .int oc_constantCount, .int oc_codeCount, .int oc_upvalueCount, .int oc_length, .int oc_at, .int oc_faultFound, .int oc_faultPlace]))] ∧ xB U ∧ xZ (va_A [(h0, .inr (0, [.int h0_tapeLength, .int h0_loaded, .ref oc, .ref oh, .ref om, .ref os, .ref ob])), (oc, .inr (1, [.ref oc_prototypes, .ref oc_children, .ref oc_code, .ref oc_constantKinds, .ref oc_constantValues, .ref oc_upvalues, .ref oc_tape, .ref oc_open, .ref oc_left, .int oc_prototypeCount, .int oc_constantCount, .int oc_codeCount, .int oc_upvalueCount, .int oc_length, .int oc_at, .int oc_faultFound, .int oc_faultPlace]))] sz) U U.heap)) (va_Qi (fun (r : Int32) (_ : Unit) => r = oc_faultFound) (fun _ t => va_P (dC, dI) vwCl [(h0, .inr (0, [.int h0_tapeLength, .int h0_loaded, .ref oc, .ref oh, .ref om, .ref os, .ref ob])), (oc, .inr (1, [.ref oc_prototypes, .ref oc_children, .ref oc_code, .ref oc_constantKinds, .ref oc_constantValues, .ref oc_upvalues, .ref oc_tape, .ref oc_open, .ref oc_left, .int oc_prototypeCount, .int oc_constantCount, .int oc_codeCount, .int oc_upvalueCount, .int oc_length, .int oc_at, .int oc_faultFound, .int oc_faultPlace]))] t.heap ∧ va_K (dC, dI) vwCl [] t ∧ va_D (va_A [(h0, .inr (0, [.int h0_tapeLength, .int h0_loaded, .ref oc, .ref oh, .ref om, .ref os, .ref ob])), (oc, .inr (1, [.ref oc_prototypes, .ref oc_children, .ref oc_code, .ref oc_constantKinds, .ref oc_constantValues, .ref oc_upvalues, .ref oc_tape, .ref oc_open, .ref oc_left, .int oc_prototypeCount, .int oc_constantCount, .int oc_codeCount, .int oc_upvalueCount, .int oc_length, .int oc_at, .int oc_faultFound, .int oc_faultPlace]))] sz) [(h0, .inr (0, [.int h0_tapeLength, .int h0_loaded, .ref oc, .ref oh, .ref om, .ref os, .ref ob])), (oc, .inr (1, [.ref oc_prototypes, .ref oc_children, .ref oc_code, .ref oc_constantKinds, .ref oc_constantValues, .ref oc_upvalues, .ref oc_tape, .ref oc_open, .ref oc_left, .int oc_prototypeCount, .int oc_constantCount, .int oc_codeCount, .int oc_upvalueCount, .int oc_length, .int oc_at, .int oc_faultFound, .int oc_faultPlace]))]) (va_A [(h0, .inr (0, [.int h0_tapeLength, .int h0_loaded, .ref oc, .ref oh, .ref om, .ref os, .ref ob])), (oc, .inr (1, [.ref oc_prototypes, .ref oc_children, .ref oc_code, .ref oc_constantKinds, .ref oc_constantValues, .ref oc_upvalues, .ref oc_tape, .ref oc_open, .ref oc_left, .int oc_prototypeCount, .int oc_constantCount, .int oc_codeCount, .int oc_upvalueCount, .int oc_length, .int oc_at, .int oc_faultFound, .int oc_faultPlace]))] sz)) 0 0 (va_A [(h0, .inr (0, [.int h0_tapeLength, .int h0_loaded, .ref oc, .ref oh, .ref om, .ref os, .ref ob])), (oc, .inr (1, [.ref oc_prototypes, .ref oc_children, .ref oc_code, .ref oc_constantKinds, .ref oc_constantValues, .ref oc_upvalues, .ref oc_tape, .ref oc_open, .ref oc_left, .int oc_prototypeCount, .int oc_constantCount, .int oc_codeCount, .int oc_upvalueCount, .int oc_length, .int oc_at, .int oc_faultFound, .int oc_faultPlace]))] sz) := by
  refine Met.ofW (cc := b_LM_fault) (maxL := 2) (ret := (some .int)) (by decide) rfl ?_
  intro p e s m args below meth c s₁ B hml hv
  obtain ⟨rfl, hsz, hP, hK, hD0, hB, hZ⟩ := hv
  have hx := B.exec
  have hb := B.bytes
  have hr := B.returns
  have hts := atoms_spec (ws := w_LM_fault) B.pre
  have hown : s.vm.findClass R_LM = some m.cls := findClass_of_methodNamed B.named
  have hlocks := B.notSynchronized
  subst hsz
  have hD := hD0.self (sz := s.heap.size)
  generalize hAe : va_A [(h0, .inr (0, [.int h0_tapeLength, .int h0_loaded, .ref oc, .ref oh, .ref om, .ref os, .ref ob])), (oc, .inr (1, [.ref oc_prototypes, .ref oc_children, .ref oc_code, .ref oc_constantKinds, .ref oc_constantValues, .ref oc_upvalues, .ref oc_tape, .ref oc_open, .ref oc_left, .int oc_prototypeCount, .int oc_constantCount, .int oc_codeCount, .int oc_upvalueCount, .int oc_length, .int oc_at, .int oc_faultFound, .int oc_faultPlace]))] s.heap.size = A at hD hZ ⊢
  have hA : ∀ q : Nat, s.heap.size ≤ q → A q := fun q h => by rw [← hAe]; exact Or.inr h
  have hS : va_S A s.heap s.heap [] := va_S.rf
  have hl := lv_entry ([.ref h0, .int n]) (n := 2) (Nat.le_of_ble_eq_true rfl)
  rw [lg_entry_eq]
  generalize (lg_sl ([.ref h0, .int n]) ++ List.replicate (2 - (lg_sl ([.ref h0, .int n])).length) Slot.unset).toArray = ls at hl ⊢
  have hl : lv_has ls 2 [(0, .ref h0), (1, .int n)] := hl
  have hP : va_P (dC, dI) vwCl [(h0, .inr (0, [.int h0_tapeLength, .int h0_loaded, .ref oc, .ref oh, .ref om, .ref os, .ref ob])), (oc, .inr (1, [.ref oc_prototypes, .ref oc_children, .ref oc_code, .ref oc_constantKinds, .ref oc_constantValues, .ref oc_upvalues, .ref oc_tape, .ref oc_open, .ref oc_left, .int oc_prototypeCount, .int oc_constantCount, .int oc_codeCount, .int oc_upvalueCount, .int oc_length, .int oc_at, .int oc_faultFound, .int oc_faultPlace]))] s.heap := hP
  have hD : va_D A [(h0, .inr (0, [.int h0_tapeLength, .int h0_loaded, .ref oc, .ref oh, .ref om, .ref os, .ref ob])), (oc, .inr (1, [.ref oc_prototypes, .ref oc_children, .ref oc_code, .ref oc_constantKinds, .ref oc_constantValues, .ref oc_upvalues, .ref oc_tape, .ref oc_open, .ref oc_left, .int oc_prototypeCount, .int oc_constantCount, .int oc_codeCount, .int oc_upvalueCount, .int oc_length, .int oc_at, .int oc_faultFound, .int oc_faultPlace]))] := hD
  refine lv_iload_n hx hb d_LM_fault_0 rfl (lv_at hl 1 rfl) ?_
  refine lv_if_eq (tgt := 17) hx hb d_LM_fault_1 (by decide) (fun c_1 => ?_) (fun c_1 => absurd g c_1)
  refine lv_iload_n hx hb d_LM_fault_17 rfl (lv_at hl 1 rfl) ?_
  refine lv_if_ne (tgt := 31) hx hb d_LM_fault_18 (by decide) (fun c_18 => absurd g c_18) (fun c_18 => ?_)
  refine lv_aload_n hx hb d_LM_fault_21 rfl (lv_at hl 0 rfl) ?_
  refine va_get (D := (dC, dI)) (ci := 0) (v := .ref oc) (C := R_LM) (T := TLM) (N := 7) hx hb hts (fun w h => List.mem_cons_of_mem _ (ic_LM w h)) hown hK hP 0 rfl rfl 2 (by decide) (hts (.fieldLink R_LM 10 "LuaMachine" "chunk" "LLuaMachine$Chunk;") (List.mem_cons_of_mem _ kw_84)) (fun _ h9 => h9) rfl d_LM_fault_22 ?_
  refine va_get (D := (dC, dI)) (ci := 1) (v := .int oc_faultFound) (C := R_Ch) (T := TCh) (N := 17) hx hb hts (fun w h => List.mem_cons_of_mem _ (ic_Ch w h)) hown hK hP 1 rfl rfl 15 (by decide) (hts (.fieldLink R_LM 101 "LuaMachine$Chunk" "faultFound" "I") (List.mem_cons_of_mem _ kw_127)) (fun _ h9 => h9) rfl d_LM_fault_25 ?_
  refine lv_goto (tgt := 38) hx hb d_LM_fault_28 (by decide) ?_
  have hP9 := hP.sub (ws' := [(h0, .inr (0, [.int h0_tapeLength, .int h0_loaded, .ref oc, .ref oh, .ref om, .ref os, .ref ob])), (oc, .inr (1, [.ref oc_prototypes, .ref oc_children, .ref oc_code, .ref oc_constantKinds, .ref oc_constantValues, .ref oc_upvalues, .ref oc_tape, .ref oc_open, .ref oc_left, .int oc_prototypeCount, .int oc_constantCount, .int oc_codeCount, .int oc_upvalueCount, .int oc_length, .int oc_at, .int oc_faultFound, .int oc_faultPlace]))]) [0, 1] rfl
  have hD9 := hD.sub (ws' := [(h0, .inr (0, [.int h0_tapeLength, .int h0_loaded, .ref oc, .ref oh, .ref om, .ref os, .ref ob])), (oc, .inr (1, [.ref oc_prototypes, .ref oc_children, .ref oc_code, .ref oc_constantKinds, .ref oc_constantValues, .ref oc_upvalues, .ref oc_tape, .ref oc_open, .ref oc_left, .int oc_prototypeCount, .int oc_constantCount, .int oc_codeCount, .int oc_upvalueCount, .int oc_length, .int oc_at, .int oc_faultFound, .int oc_faultPlace]))]) [0, 1] (by decide) rfl
  have hK9 := hK.sub (tys' := []) [] rfl
  refine W.widen (k := 0) (n := 0) (Nat.le_of_ble_eq_true rfl) (Nat.le_of_ble_eq_true rfl) ?_
  exact W.iret (v := oc_faultFound) hx hb hr (fun t ht hW => ⟨⟨oc_faultFound, (), rfl, rfl, by rw [ht]; exact hP9, va_K.moved hW.alike hK9, hD9⟩, hS.F ht⟩) hS.2.2 d_LM_fault_38

set_option maxHeartbeats 4000000 in
set_option maxRecDepth 100000 in
theorem c_LM_fault_1 (l : Launch) (dC : Nat → ClassId) (dI : Nat → Nat → Nat) (h0 : Nat) (oc : Nat) (oh : Nat) (om : Nat) (os : Nat) (ob : Nat) (h0_tapeLength : Int32) (h0_loaded : Int32) (oc_prototypes : Nat) (oc_children : Nat) (oc_code : Nat) (oc_constantKinds : Nat) (oc_constantValues : Nat) (oc_upvalues : Nat) (oc_tape : Nat) (oc_open : Nat) (oc_left : Nat) (oc_prototypeCount : Int32) (oc_constantCount : Int32) (oc_codeCount : Int32) (oc_upvalueCount : Int32) (oc_length : Int32) (oc_at : Int32) (oc_faultFound : Int32) (oc_faultPlace : Int32) (n : Int32) (sz : Nat) (g : n = 1) : Met l y_LM_fault w_LM_fault ({ frames := 0, cells := 0, slots := 0, locals := 0 }) (va_Pc [.ref h0, .int n] (fun U => U.heap.size = sz ∧ va_P (dC, dI) vwCl [(h0, .inr (0, [.int h0_tapeLength, .int h0_loaded, .ref oc, .ref oh, .ref om, .ref os, .ref ob])), (oc, .inr (1, [.ref oc_prototypes, .ref oc_children, .ref oc_code, .ref oc_constantKinds, .ref oc_constantValues, .ref oc_upvalues, .ref oc_tape, .ref oc_open, .ref oc_left, .int oc_prototypeCount, .int oc_constantCount, .int oc_codeCount, .int oc_upvalueCount, .int oc_length, .int oc_at, .int oc_faultFound, .int oc_faultPlace]))] U.heap ∧ va_K (dC, dI) vwCl [] U ∧ va_D (fun _ => True) [(h0, .inr (0, [.int h0_tapeLength, .int h0_loaded, .ref oc, .ref oh, .ref om, .ref os, .ref ob])), (oc, .inr (1, [.ref oc_prototypes, .ref oc_children, .ref oc_code, .ref oc_constantKinds, .ref oc_constantValues, .ref oc_upvalues, .ref oc_tape, .ref oc_open, .ref oc_left, .int oc_prototypeCount, .int oc_constantCount, .int oc_codeCount, .int oc_upvalueCount, .int oc_length, .int oc_at, .int oc_faultFound, .int oc_faultPlace]))] ∧ xB U ∧ xZ (va_A [(h0, .inr (0, [.int h0_tapeLength, .int h0_loaded, .ref oc, .ref oh, .ref om, .ref os, .ref ob])), (oc, .inr (1, [.ref oc_prototypes, .ref oc_children, .ref oc_code, .ref oc_constantKinds, .ref oc_constantValues, .ref oc_upvalues, .ref oc_tape, .ref oc_open, .ref oc_left, .int oc_prototypeCount, .int oc_constantCount, .int oc_codeCount, .int oc_upvalueCount, .int oc_length, .int oc_at, .int oc_faultFound, .int oc_faultPlace]))] sz) U U.heap)) (va_Qi (fun (r : Int32) (_ : Unit) => r = oc_faultPlace) (fun _ t => va_P (dC, dI) vwCl [(h0, .inr (0, [.int h0_tapeLength, .int h0_loaded, .ref oc, .ref oh, .ref om, .ref os, .ref ob])), (oc, .inr (1, [.ref oc_prototypes, .ref oc_children, .ref oc_code, .ref oc_constantKinds, .ref oc_constantValues, .ref oc_upvalues, .ref oc_tape, .ref oc_open, .ref oc_left, .int oc_prototypeCount, .int oc_constantCount, .int oc_codeCount, .int oc_upvalueCount, .int oc_length, .int oc_at, .int oc_faultFound, .int oc_faultPlace]))] t.heap ∧ va_K (dC, dI) vwCl [] t ∧ va_D (va_A [(h0, .inr (0, [.int h0_tapeLength, .int h0_loaded, .ref oc, .ref oh, .ref om, .ref os, .ref ob])), (oc, .inr (1, [.ref oc_prototypes, .ref oc_children, .ref oc_code, .ref oc_constantKinds, .ref oc_constantValues, .ref oc_upvalues, .ref oc_tape, .ref oc_open, .ref oc_left, .int oc_prototypeCount, .int oc_constantCount, .int oc_codeCount, .int oc_upvalueCount, .int oc_length, .int oc_at, .int oc_faultFound, .int oc_faultPlace]))] sz) [(h0, .inr (0, [.int h0_tapeLength, .int h0_loaded, .ref oc, .ref oh, .ref om, .ref os, .ref ob])), (oc, .inr (1, [.ref oc_prototypes, .ref oc_children, .ref oc_code, .ref oc_constantKinds, .ref oc_constantValues, .ref oc_upvalues, .ref oc_tape, .ref oc_open, .ref oc_left, .int oc_prototypeCount, .int oc_constantCount, .int oc_codeCount, .int oc_upvalueCount, .int oc_length, .int oc_at, .int oc_faultFound, .int oc_faultPlace]))]) (va_A [(h0, .inr (0, [.int h0_tapeLength, .int h0_loaded, .ref oc, .ref oh, .ref om, .ref os, .ref ob])), (oc, .inr (1, [.ref oc_prototypes, .ref oc_children, .ref oc_code, .ref oc_constantKinds, .ref oc_constantValues, .ref oc_upvalues, .ref oc_tape, .ref oc_open, .ref oc_left, .int oc_prototypeCount, .int oc_constantCount, .int oc_codeCount, .int oc_upvalueCount, .int oc_length, .int oc_at, .int oc_faultFound, .int oc_faultPlace]))] sz)) 0 0 (va_A [(h0, .inr (0, [.int h0_tapeLength, .int h0_loaded, .ref oc, .ref oh, .ref om, .ref os, .ref ob])), (oc, .inr (1, [.ref oc_prototypes, .ref oc_children, .ref oc_code, .ref oc_constantKinds, .ref oc_constantValues, .ref oc_upvalues, .ref oc_tape, .ref oc_open, .ref oc_left, .int oc_prototypeCount, .int oc_constantCount, .int oc_codeCount, .int oc_upvalueCount, .int oc_length, .int oc_at, .int oc_faultFound, .int oc_faultPlace]))] sz) := by
  refine Met.ofW (cc := b_LM_fault) (maxL := 2) (ret := (some .int)) (by decide) rfl ?_
  intro p e s m args below meth c s₁ B hml hv
  obtain ⟨rfl, hsz, hP, hK, hD0, hB, hZ⟩ := hv
  have hx := B.exec
  have hb := B.bytes
  have hr := B.returns
  have hts := atoms_spec (ws := w_LM_fault) B.pre
  have hown : s.vm.findClass R_LM = some m.cls := findClass_of_methodNamed B.named
  have hlocks := B.notSynchronized
  subst hsz
  have hD := hD0.self (sz := s.heap.size)
  generalize hAe : va_A [(h0, .inr (0, [.int h0_tapeLength, .int h0_loaded, .ref oc, .ref oh, .ref om, .ref os, .ref ob])), (oc, .inr (1, [.ref oc_prototypes, .ref oc_children, .ref oc_code, .ref oc_constantKinds, .ref oc_constantValues, .ref oc_upvalues, .ref oc_tape, .ref oc_open, .ref oc_left, .int oc_prototypeCount, .int oc_constantCount, .int oc_codeCount, .int oc_upvalueCount, .int oc_length, .int oc_at, .int oc_faultFound, .int oc_faultPlace]))] s.heap.size = A at hD hZ ⊢
  have hA : ∀ q : Nat, s.heap.size ≤ q → A q := fun q h => by rw [← hAe]; exact Or.inr h
  have hS : va_S A s.heap s.heap [] := va_S.rf
  have hl := lv_entry ([.ref h0, .int n]) (n := 2) (Nat.le_of_ble_eq_true rfl)
  rw [lg_entry_eq]
  generalize (lg_sl ([.ref h0, .int n]) ++ List.replicate (2 - (lg_sl ([.ref h0, .int n])).length) Slot.unset).toArray = ls at hl ⊢
  have hl : lv_has ls 2 [(0, .ref h0), (1, .int n)] := hl
  have hP : va_P (dC, dI) vwCl [(h0, .inr (0, [.int h0_tapeLength, .int h0_loaded, .ref oc, .ref oh, .ref om, .ref os, .ref ob])), (oc, .inr (1, [.ref oc_prototypes, .ref oc_children, .ref oc_code, .ref oc_constantKinds, .ref oc_constantValues, .ref oc_upvalues, .ref oc_tape, .ref oc_open, .ref oc_left, .int oc_prototypeCount, .int oc_constantCount, .int oc_codeCount, .int oc_upvalueCount, .int oc_length, .int oc_at, .int oc_faultFound, .int oc_faultPlace]))] s.heap := hP
  have hD : va_D A [(h0, .inr (0, [.int h0_tapeLength, .int h0_loaded, .ref oc, .ref oh, .ref om, .ref os, .ref ob])), (oc, .inr (1, [.ref oc_prototypes, .ref oc_children, .ref oc_code, .ref oc_constantKinds, .ref oc_constantValues, .ref oc_upvalues, .ref oc_tape, .ref oc_open, .ref oc_left, .int oc_prototypeCount, .int oc_constantCount, .int oc_codeCount, .int oc_upvalueCount, .int oc_length, .int oc_at, .int oc_faultFound, .int oc_faultPlace]))] := hD
  refine lv_iload_n hx hb d_LM_fault_0 rfl (lv_at hl 1 rfl) ?_
  refine lv_if_eq (tgt := 17) hx hb d_LM_fault_1 (by decide) (fun c_1 => absurd c_1 (by rw [g]; decide)) (fun c_1 => ?_)
  refine lv_iload_n hx hb d_LM_fault_4 rfl (lv_at hl 1 rfl) ?_
  refine lv_iconst (v := 1) hx hb d_LM_fault_5 (by decide) ?_
  refine lv_icmp_eq (tgt := 17) hx hb d_LM_fault_6 (by decide) (fun c_6 => ?_) (fun c_6 => absurd g c_6)
  refine lv_iload_n hx hb d_LM_fault_17 rfl (lv_at hl 1 rfl) ?_
  refine lv_if_ne (tgt := 31) hx hb d_LM_fault_18 (by decide) (fun c_18 => ?_) (fun c_18 => absurd c_18 (by rw [g]; decide))
  refine lv_aload_n hx hb d_LM_fault_31 rfl (lv_at hl 0 rfl) ?_
  refine va_get (D := (dC, dI)) (ci := 0) (v := .ref oc) (C := R_LM) (T := TLM) (N := 7) hx hb hts (fun w h => List.mem_cons_of_mem _ (ic_LM w h)) hown hK hP 0 rfl rfl 2 (by decide) (hts (.fieldLink R_LM 10 "LuaMachine" "chunk" "LLuaMachine$Chunk;") (List.mem_cons_of_mem _ kw_84)) (fun _ h9 => h9) rfl d_LM_fault_32 ?_
  refine va_get (D := (dC, dI)) (ci := 1) (v := .int oc_faultPlace) (C := R_Ch) (T := TCh) (N := 17) hx hb hts (fun w h => List.mem_cons_of_mem _ (ic_Ch w h)) hown hK hP 1 rfl rfl 16 (by decide) (hts (.fieldLink R_LM 104 "LuaMachine$Chunk" "faultPlace" "I") (List.mem_cons_of_mem _ kw_128)) (fun _ h9 => h9) rfl d_LM_fault_35 ?_
  have hP9 := hP.sub (ws' := [(h0, .inr (0, [.int h0_tapeLength, .int h0_loaded, .ref oc, .ref oh, .ref om, .ref os, .ref ob])), (oc, .inr (1, [.ref oc_prototypes, .ref oc_children, .ref oc_code, .ref oc_constantKinds, .ref oc_constantValues, .ref oc_upvalues, .ref oc_tape, .ref oc_open, .ref oc_left, .int oc_prototypeCount, .int oc_constantCount, .int oc_codeCount, .int oc_upvalueCount, .int oc_length, .int oc_at, .int oc_faultFound, .int oc_faultPlace]))]) [0, 1] rfl
  have hD9 := hD.sub (ws' := [(h0, .inr (0, [.int h0_tapeLength, .int h0_loaded, .ref oc, .ref oh, .ref om, .ref os, .ref ob])), (oc, .inr (1, [.ref oc_prototypes, .ref oc_children, .ref oc_code, .ref oc_constantKinds, .ref oc_constantValues, .ref oc_upvalues, .ref oc_tape, .ref oc_open, .ref oc_left, .int oc_prototypeCount, .int oc_constantCount, .int oc_codeCount, .int oc_upvalueCount, .int oc_length, .int oc_at, .int oc_faultFound, .int oc_faultPlace]))]) [0, 1] (by decide) rfl
  have hK9 := hK.sub (tys' := []) [] rfl
  refine W.widen (k := 0) (n := 0) (Nat.le_of_ble_eq_true rfl) (Nat.le_of_ble_eq_true rfl) ?_
  exact W.iret (v := oc_faultPlace) hx hb hr (fun t ht hW => ⟨⟨oc_faultPlace, (), rfl, rfl, by rw [ht]; exact hP9, va_K.moved hW.alike hK9, hD9⟩, hS.F ht⟩) hS.2.2 d_LM_fault_38

set_option maxHeartbeats 4000000 in
set_option maxRecDepth 100000 in
theorem c_LM_fault_bad (l : Launch) (hst : l.stackTraces = false) (dC : Nat → ClassId) (dI : Nat → Nat → Nat) (h0 : Nat) (oc : Nat) (oh : Nat) (om : Nat) (os : Nat) (ob : Nat) (h0_tapeLength : Int32) (h0_loaded : Int32) (oc_prototypes : Nat) (oc_children : Nat) (oc_code : Nat) (oc_constantKinds : Nat) (oc_constantValues : Nat) (oc_upvalues : Nat) (oc_tape : Nat) (oc_open : Nat) (oc_left : Nat) (oc_prototypeCount : Int32) (oc_constantCount : Int32) (oc_codeCount : Int32) (oc_upvalueCount : Int32) (oc_length : Int32) (oc_at : Int32) (oc_faultFound : Int32) (oc_faultPlace : Int32) (n : Int32) (sz : Nat) (g1 : ¬ n = 0) (g2 : ¬ n = 1) : MetX l y_LM_fault w_LM_fault ({ frames := 6, cells := 1, slots := 6, locals := 81 }) (va_Pc [.ref h0, .int n] (fun U => U.heap.size = sz ∧ va_P (dC, dI) vwCl [(h0, .inr (0, [.int h0_tapeLength, .int h0_loaded, .ref oc, .ref oh, .ref om, .ref os, .ref ob])), (oc, .inr (1, [.ref oc_prototypes, .ref oc_children, .ref oc_code, .ref oc_constantKinds, .ref oc_constantValues, .ref oc_upvalues, .ref oc_tape, .ref oc_open, .ref oc_left, .int oc_prototypeCount, .int oc_constantCount, .int oc_codeCount, .int oc_upvalueCount, .int oc_length, .int oc_at, .int oc_faultFound, .int oc_faultPlace]))] U.heap ∧ va_K (dC, dI) vwCl [] U ∧ va_D (fun _ => True) [(h0, .inr (0, [.int h0_tapeLength, .int h0_loaded, .ref oc, .ref oh, .ref om, .ref os, .ref ob])), (oc, .inr (1, [.ref oc_prototypes, .ref oc_children, .ref oc_code, .ref oc_constantKinds, .ref oc_constantValues, .ref oc_upvalues, .ref oc_tape, .ref oc_open, .ref oc_left, .int oc_prototypeCount, .int oc_constantCount, .int oc_codeCount, .int oc_upvalueCount, .int oc_length, .int oc_at, .int oc_faultFound, .int oc_faultPlace]))] ∧ xB U ∧ xZ (va_A [(h0, .inr (0, [.int h0_tapeLength, .int h0_loaded, .ref oc, .ref oh, .ref om, .ref os, .ref ob])), (oc, .inr (1, [.ref oc_prototypes, .ref oc_children, .ref oc_code, .ref oc_constantKinds, .ref oc_constantValues, .ref oc_upvalues, .ref oc_tape, .ref oc_open, .ref oc_left, .int oc_prototypeCount, .int oc_constantCount, .int oc_codeCount, .int oc_upvalueCount, .int oc_length, .int oc_at, .int oc_faultFound, .int oc_faultPlace]))] sz) U U.heap)) "java/lang/IllegalArgumentException" (va_F (va_A [(h0, .inr (0, [.int h0_tapeLength, .int h0_loaded, .ref oc, .ref oh, .ref om, .ref os, .ref ob])), (oc, .inr (1, [.ref oc_prototypes, .ref oc_children, .ref oc_code, .ref oc_constantKinds, .ref oc_constantValues, .ref oc_upvalues, .ref oc_tape, .ref oc_open, .ref oc_left, .int oc_prototypeCount, .int oc_constantCount, .int oc_codeCount, .int oc_upvalueCount, .int oc_length, .int oc_at, .int oc_faultFound, .int oc_faultPlace]))] sz)) 1 6 (va_A [(h0, .inr (0, [.int h0_tapeLength, .int h0_loaded, .ref oc, .ref oh, .ref om, .ref os, .ref ob])), (oc, .inr (1, [.ref oc_prototypes, .ref oc_children, .ref oc_code, .ref oc_constantKinds, .ref oc_constantValues, .ref oc_upvalues, .ref oc_tape, .ref oc_open, .ref oc_left, .int oc_prototypeCount, .int oc_constantCount, .int oc_codeCount, .int oc_upvalueCount, .int oc_length, .int oc_at, .int oc_faultFound, .int oc_faultPlace]))] sz) := by
  refine MetX.ofW (cc := b_LM_fault) (maxL := 2) (ret := (some .int)) (by decide) rfl ?_
  intro p e s m args below meth c s₁ B hml hex hv
  obtain ⟨rfl, hsz, hP, hK, hD0, hB, hZ⟩ := hv
  have hx := B.exec
  have hb := B.bytes
  have hr := B.returns
  have hts := atoms_spec (ws := w_LM_fault) B.pre
  have hown : s.vm.findClass R_LM = some m.cls := findClass_of_methodNamed B.named
  have hlocks := B.notSynchronized
  subst hsz
  have hD := hD0.self (sz := s.heap.size)
  generalize hAe : va_A [(h0, .inr (0, [.int h0_tapeLength, .int h0_loaded, .ref oc, .ref oh, .ref om, .ref os, .ref ob])), (oc, .inr (1, [.ref oc_prototypes, .ref oc_children, .ref oc_code, .ref oc_constantKinds, .ref oc_constantValues, .ref oc_upvalues, .ref oc_tape, .ref oc_open, .ref oc_left, .int oc_prototypeCount, .int oc_constantCount, .int oc_codeCount, .int oc_upvalueCount, .int oc_length, .int oc_at, .int oc_faultFound, .int oc_faultPlace]))] s.heap.size = A at hD hZ ⊢
  have hA : ∀ q : Nat, s.heap.size ≤ q → A q := fun q h => by rw [← hAe]; exact Or.inr h
  have hNs : ∀ q, A q → ∀ cell : Cell, s.heap[q]? = some cell → cell.vm.isStatics = false := by rw [← hAe]; exact xnos hP
  have hS : va_S A s.heap s.heap [] := va_S.rf
  have hl := lv_entry ([.ref h0, .int n]) (n := 2) (Nat.le_of_ble_eq_true rfl)
  rw [lg_entry_eq]
  generalize (lg_sl ([.ref h0, .int n]) ++ List.replicate (2 - (lg_sl ([.ref h0, .int n])).length) Slot.unset).toArray = ls at hl ⊢
  have hl : lv_has ls 2 [(0, .ref h0), (1, .int n)] := hl
  have hP : va_P (dC, dI) vwCl [(h0, .inr (0, [.int h0_tapeLength, .int h0_loaded, .ref oc, .ref oh, .ref om, .ref os, .ref ob])), (oc, .inr (1, [.ref oc_prototypes, .ref oc_children, .ref oc_code, .ref oc_constantKinds, .ref oc_constantValues, .ref oc_upvalues, .ref oc_tape, .ref oc_open, .ref oc_left, .int oc_prototypeCount, .int oc_constantCount, .int oc_codeCount, .int oc_upvalueCount, .int oc_length, .int oc_at, .int oc_faultFound, .int oc_faultPlace]))] s.heap := hP
  have hD : va_D A [(h0, .inr (0, [.int h0_tapeLength, .int h0_loaded, .ref oc, .ref oh, .ref om, .ref os, .ref ob])), (oc, .inr (1, [.ref oc_prototypes, .ref oc_children, .ref oc_code, .ref oc_constantKinds, .ref oc_constantValues, .ref oc_upvalues, .ref oc_tape, .ref oc_open, .ref oc_left, .int oc_prototypeCount, .int oc_constantCount, .int oc_codeCount, .int oc_upvalueCount, .int oc_length, .int oc_at, .int oc_faultFound, .int oc_faultPlace]))] := hD
  refine lv_iload_n hx hb d_LM_fault_0 rfl (lv_at hl 1 rfl) ?_
  refine lv_if_eq (tgt := 17) hx hb d_LM_fault_1 (by decide) (fun c_1 => absurd c_1 g1) (fun c_1 => ?_)
  refine lv_iload_n hx hb d_LM_fault_4 rfl (lv_at hl 1 rfl) ?_
  refine lv_iconst (v := 1) hx hb d_LM_fault_5 (by decide) ?_
  refine lv_icmp_eq (tgt := 17) hx hb d_LM_fault_6 (by decide) (fun c_6 => absurd c_6 g2) (fun c_6 => ?_)
  exact xthrow (own := R_LM) (cls := "java/lang/IllegalArgumentException") (names := ["java/lang/RuntimeException", "java/lang/Exception"]) (ik := 74) (ic := 76) hx hb hst hown (by decide) (by decide) (hts (.classLink R_LM 74 "java/lang/IllegalArgumentException") (List.mem_cons_of_mem _ kw_123)) (hts (.initialized "java/lang/IllegalArgumentException") (List.mem_cons_of_mem _ kw_124)) (hts (.instantiable "java/lang/IllegalArgumentException" 6) (List.mem_cons_of_mem _ kw_125)) (xat (fun w h => hts w (List.mem_cons_of_mem _ (xo_IllegalArgumentException w h))) xn_IllegalArgumentException hB hZ) hNs hS (by rw [hml]; exact hl.1) d_LM_fault_9 d_LM_fault_12 d_LM_fault_13 d_LM_fault_16 hex (Nat.le_of_ble_eq_true rfl) (Nat.le_of_ble_eq_true rfl) (Nat.le_of_ble_eq_true rfl) (Nat.le_of_ble_eq_true rfl) hlocks (fun U _ hF => hF) (Nat.le_of_ble_eq_true rfl) (Nat.le_of_ble_eq_true rfl)

set_option maxHeartbeats 4000000 in
set_option maxRecDepth 100000 in
theorem c_LM_limit_ok (l : Launch) (dC : Nat → ClassId) (dI : Nat → Nat → Nat) (h0 : Nat) (oc : Nat) (oh : Nat) (om : Nat) (os : Nat) (ob : Nat) (h0_tapeLength : Int32) (h0_loaded : Int32) (oh_things : Nat) (oh_slots : Int32) (oh_free : Nat) (oh_freeCount : Int32) (oh_tally : Nat) (oh_names : Nat) (oh_coroutines : Nat) (oh_buckets : Nat) (oh_work : Nat) (oh_workSize : Int32) (oh_waiting : Nat) (oh_waitingCount : Int32) (oh_loading : Int32) (oh_tables : Nat) (oh_machine : Nat) (mo : Int32) (n : Int32) (sz : Nat) (g1 : ¬ n < 200) (g2 : n ≤ 4000) : Met l y_LM_limit w_LM_limit ({ frames := 0, cells := 0, slots := 0, locals := 0 }) (va_Pc [.ref h0, .int n] (fun U => U.heap.size = sz ∧ va_P (dC, dI) vwCl [(h0, .inr (0, [.int h0_tapeLength, .int h0_loaded, .ref oc, .ref oh, .ref om, .ref os, .ref ob])), (oh, .inr (2, [.ref oh_things, .int oh_slots, .ref oh_free, .int oh_freeCount, .ref oh_tally, .ref oh_names, .ref oh_coroutines, .ref oh_buckets, .ref oh_work, .int oh_workSize, .ref oh_waiting, .int oh_waitingCount, .int mo, .int oh_loading, .ref oh_tables, .ref oh_machine]))] U.heap ∧ va_K (dC, dI) vwCl [] U ∧ va_D (fun _ => True) [(h0, .inr (0, [.int h0_tapeLength, .int h0_loaded, .ref oc, .ref oh, .ref om, .ref os, .ref ob])), (oh, .inr (2, [.ref oh_things, .int oh_slots, .ref oh_free, .int oh_freeCount, .ref oh_tally, .ref oh_names, .ref oh_coroutines, .ref oh_buckets, .ref oh_work, .int oh_workSize, .ref oh_waiting, .int oh_waitingCount, .int mo, .int oh_loading, .ref oh_tables, .ref oh_machine]))] ∧ xB U ∧ xZ (va_A [(h0, .inr (0, [.int h0_tapeLength, .int h0_loaded, .ref oc, .ref oh, .ref om, .ref os, .ref ob])), (oh, .inr (2, [.ref oh_things, .int oh_slots, .ref oh_free, .int oh_freeCount, .ref oh_tally, .ref oh_names, .ref oh_coroutines, .ref oh_buckets, .ref oh_work, .int oh_workSize, .ref oh_waiting, .int oh_waitingCount, .int mo, .int oh_loading, .ref oh_tables, .ref oh_machine]))] sz) U U.heap)) (va_Qi (fun (r : Int32) (_ : Unit) => r = mo) (fun _ t => va_P (dC, dI) vwCl [(h0, .inr (0, [.int h0_tapeLength, .int h0_loaded, .ref oc, .ref oh, .ref om, .ref os, .ref ob])), (oh, .inr (2, [.ref oh_things, .int oh_slots, .ref oh_free, .int oh_freeCount, .ref oh_tally, .ref oh_names, .ref oh_coroutines, .ref oh_buckets, .ref oh_work, .int oh_workSize, .ref oh_waiting, .int oh_waitingCount, .int n, .int oh_loading, .ref oh_tables, .ref oh_machine]))] t.heap ∧ va_K (dC, dI) vwCl [] t ∧ va_D (va_A [(h0, .inr (0, [.int h0_tapeLength, .int h0_loaded, .ref oc, .ref oh, .ref om, .ref os, .ref ob])), (oh, .inr (2, [.ref oh_things, .int oh_slots, .ref oh_free, .int oh_freeCount, .ref oh_tally, .ref oh_names, .ref oh_coroutines, .ref oh_buckets, .ref oh_work, .int oh_workSize, .ref oh_waiting, .int oh_waitingCount, .int mo, .int oh_loading, .ref oh_tables, .ref oh_machine]))] sz) [(h0, .inr (0, [.int h0_tapeLength, .int h0_loaded, .ref oc, .ref oh, .ref om, .ref os, .ref ob])), (oh, .inr (2, [.ref oh_things, .int oh_slots, .ref oh_free, .int oh_freeCount, .ref oh_tally, .ref oh_names, .ref oh_coroutines, .ref oh_buckets, .ref oh_work, .int oh_workSize, .ref oh_waiting, .int oh_waitingCount, .int n, .int oh_loading, .ref oh_tables, .ref oh_machine]))]) (va_A [(h0, .inr (0, [.int h0_tapeLength, .int h0_loaded, .ref oc, .ref oh, .ref om, .ref os, .ref ob])), (oh, .inr (2, [.ref oh_things, .int oh_slots, .ref oh_free, .int oh_freeCount, .ref oh_tally, .ref oh_names, .ref oh_coroutines, .ref oh_buckets, .ref oh_work, .int oh_workSize, .ref oh_waiting, .int oh_waitingCount, .int mo, .int oh_loading, .ref oh_tables, .ref oh_machine]))] sz)) 0 0 (va_A [(h0, .inr (0, [.int h0_tapeLength, .int h0_loaded, .ref oc, .ref oh, .ref om, .ref os, .ref ob])), (oh, .inr (2, [.ref oh_things, .int oh_slots, .ref oh_free, .int oh_freeCount, .ref oh_tally, .ref oh_names, .ref oh_coroutines, .ref oh_buckets, .ref oh_work, .int oh_workSize, .ref oh_waiting, .int oh_waitingCount, .int mo, .int oh_loading, .ref oh_tables, .ref oh_machine]))] sz) := by
  refine Met.ofW (cc := b_LM_limit) (maxL := 3) (ret := (some .int)) (by decide) rfl ?_
  intro p e s m args below meth c s₁ B hml hv
  obtain ⟨rfl, hsz, hP, hK, hD0, hB, hZ⟩ := hv
  have hx := B.exec
  have hb := B.bytes
  have hr := B.returns
  have hts := atoms_spec (ws := w_LM_limit) B.pre
  have hown : s.vm.findClass R_LM = some m.cls := findClass_of_methodNamed B.named
  have hlocks := B.notSynchronized
  subst hsz
  have hD := hD0.self (sz := s.heap.size)
  generalize hAe : va_A [(h0, .inr (0, [.int h0_tapeLength, .int h0_loaded, .ref oc, .ref oh, .ref om, .ref os, .ref ob])), (oh, .inr (2, [.ref oh_things, .int oh_slots, .ref oh_free, .int oh_freeCount, .ref oh_tally, .ref oh_names, .ref oh_coroutines, .ref oh_buckets, .ref oh_work, .int oh_workSize, .ref oh_waiting, .int oh_waitingCount, .int mo, .int oh_loading, .ref oh_tables, .ref oh_machine]))] s.heap.size = A at hD hZ ⊢
  have hA : ∀ q : Nat, s.heap.size ≤ q → A q := fun q h => by rw [← hAe]; exact Or.inr h
  have hS : va_S A s.heap s.heap [] := va_S.rf
  have hl := lv_entry ([.ref h0, .int n]) (n := 3) (Nat.le_of_ble_eq_true rfl)
  rw [lg_entry_eq]
  generalize (lg_sl ([.ref h0, .int n]) ++ List.replicate (3 - (lg_sl ([.ref h0, .int n])).length) Slot.unset).toArray = ls at hl ⊢
  have hl : lv_has ls 3 [(0, .ref h0), (1, .int n)] := hl
  have hP : va_P (dC, dI) vwCl [(h0, .inr (0, [.int h0_tapeLength, .int h0_loaded, .ref oc, .ref oh, .ref om, .ref os, .ref ob])), (oh, .inr (2, [.ref oh_things, .int oh_slots, .ref oh_free, .int oh_freeCount, .ref oh_tally, .ref oh_names, .ref oh_coroutines, .ref oh_buckets, .ref oh_work, .int oh_workSize, .ref oh_waiting, .int oh_waitingCount, .int mo, .int oh_loading, .ref oh_tables, .ref oh_machine]))] s.heap := hP
  have hD : va_D A [(h0, .inr (0, [.int h0_tapeLength, .int h0_loaded, .ref oc, .ref oh, .ref om, .ref os, .ref ob])), (oh, .inr (2, [.ref oh_things, .int oh_slots, .ref oh_free, .int oh_freeCount, .ref oh_tally, .ref oh_names, .ref oh_coroutines, .ref oh_buckets, .ref oh_work, .int oh_workSize, .ref oh_waiting, .int oh_waitingCount, .int mo, .int oh_loading, .ref oh_tables, .ref oh_machine]))] := hD
  refine lv_iload_n hx hb d_LM_limit_0 rfl (lv_at hl 1 rfl) ?_
  refine lv_sipush (v := 200) hx hb d_LM_limit_1 (by decide) ?_
  refine lv_icmp_lt (tgt := 14) hx hb d_LM_limit_4 (by decide) (fun c_4 => absurd c_4 g1) (fun c_4 => ?_)
  refine lv_iload_n hx hb d_LM_limit_7 rfl (lv_at hl 1 rfl) ?_
  refine lv_sipush (v := 4000) hx hb d_LM_limit_8 (by decide) ?_
  refine lv_icmp_le (tgt := 22) hx hb d_LM_limit_11 (by decide) (fun c_11 => ?_) (fun c_11 => absurd g2 c_11)
  refine lv_aload_n hx hb d_LM_limit_22 rfl (lv_at hl 0 rfl) ?_
  refine va_get (D := (dC, dI)) (ci := 0) (v := .ref oh) (C := R_LM) (T := TLM) (N := 7) hx hb hts (fun w h => List.mem_cons_of_mem _ (ic_LM w h)) hown hK hP 0 rfl rfl 3 (by decide) (hts (.fieldLink R_LM 19 "LuaMachine" "heap" "LLuaMachine$Heap;") (List.mem_cons_of_mem _ kw_90)) (fun _ h9 => h9) rfl d_LM_limit_23 ?_
  refine va_get (D := (dC, dI)) (ci := 2) (v := .int mo) (C := R_He) (T := THe) (N := 16) hx hb hts (fun w h => List.mem_cons_of_mem _ (ic_He w h)) hown hK hP 1 rfl rfl 12 (by decide) (hts (.fieldLink R_LM 107 "LuaMachine$Heap" "most" "I") (List.mem_cons_of_mem _ kw_129)) (fun _ h9 => h9) rfl d_LM_limit_26 ?_
  refine lv_istore_n (lv' := [(2, .int mo), (0, .ref h0), (1, .int n)]) hx hb d_LM_limit_29 rfl hl (by decide) rfl (fun ls hl => ?_)
  refine lv_aload_n hx hb d_LM_limit_30 rfl (lv_at hl 1 rfl) ?_
  refine va_get (D := (dC, dI)) (ci := 0) (v := .ref oh) (C := R_LM) (T := TLM) (N := 7) hx hb hts (fun w h => List.mem_cons_of_mem _ (ic_LM w h)) hown hK hP 0 rfl rfl 3 (by decide) (hts (.fieldLink R_LM 19 "LuaMachine" "heap" "LLuaMachine$Heap;") (List.mem_cons_of_mem _ kw_90)) (fun _ h9 => h9) rfl d_LM_limit_31 ?_
  refine lv_iload_n hx hb d_LM_limit_34 rfl (lv_at hl 2 rfl) ?_
  refine va_put (D := (dC, dI)) (ci := 2) (v := .int n) (ty := .int) (C := R_He) (T := THe) (N := 16) hx hb hts (fun w h => List.mem_cons_of_mem _ (ic_He w h)) tyHe tyHe_ok nmHe hown hK hP hD hS 1 rfl rfl 12 (by decide) (hts (.fieldLink R_LM 107 "LuaMachine$Heap" "most" "I") (List.mem_cons_of_mem _ kw_129)) (fun _ h9 => h9) rfl (tyHe_ok 12 (by decide)) rfl rfl (Nat.le_of_ble_eq_true rfl) d_LM_limit_35 (fun H locs hP hD hS => ?_)
  have hP : va_P (dC, dI) vwCl [(h0, .inr (0, [.int h0_tapeLength, .int h0_loaded, .ref oc, .ref oh, .ref om, .ref os, .ref ob])), (oh, .inr (2, [.ref oh_things, .int oh_slots, .ref oh_free, .int oh_freeCount, .ref oh_tally, .ref oh_names, .ref oh_coroutines, .ref oh_buckets, .ref oh_work, .int oh_workSize, .ref oh_waiting, .int oh_waitingCount, .int n, .int oh_loading, .ref oh_tables, .ref oh_machine]))] H := hP
  have hD : va_D A [(h0, .inr (0, [.int h0_tapeLength, .int h0_loaded, .ref oc, .ref oh, .ref om, .ref os, .ref ob])), (oh, .inr (2, [.ref oh_things, .int oh_slots, .ref oh_free, .int oh_freeCount, .ref oh_tally, .ref oh_names, .ref oh_coroutines, .ref oh_buckets, .ref oh_work, .int oh_workSize, .ref oh_waiting, .int oh_waitingCount, .int n, .int oh_loading, .ref oh_tables, .ref oh_machine]))] := hD
  refine lv_iload_n hx hb d_LM_limit_38 rfl (lv_at hl 0 rfl) ?_
  have hP9 := hP.sub (ws' := [(h0, .inr (0, [.int h0_tapeLength, .int h0_loaded, .ref oc, .ref oh, .ref om, .ref os, .ref ob])), (oh, .inr (2, [.ref oh_things, .int oh_slots, .ref oh_free, .int oh_freeCount, .ref oh_tally, .ref oh_names, .ref oh_coroutines, .ref oh_buckets, .ref oh_work, .int oh_workSize, .ref oh_waiting, .int oh_waitingCount, .int n, .int oh_loading, .ref oh_tables, .ref oh_machine]))]) [0, 1] rfl
  have hD9 := hD.sub (ws' := [(h0, .inr (0, [.int h0_tapeLength, .int h0_loaded, .ref oc, .ref oh, .ref om, .ref os, .ref ob])), (oh, .inr (2, [.ref oh_things, .int oh_slots, .ref oh_free, .int oh_freeCount, .ref oh_tally, .ref oh_names, .ref oh_coroutines, .ref oh_buckets, .ref oh_work, .int oh_workSize, .ref oh_waiting, .int oh_waitingCount, .int n, .int oh_loading, .ref oh_tables, .ref oh_machine]))]) [0, 1] (by decide) rfl
  have hK9 := hK.sub (tys' := []) [] rfl
  refine W.widen (k := 0) (n := 0) (Nat.le_of_ble_eq_true rfl) (Nat.le_of_ble_eq_true rfl) ?_
  exact W.iret (v := mo) hx hb hr (fun t ht hW => ⟨⟨mo, (), rfl, rfl, by rw [ht]; exact hP9, va_K.moved hW.alike hK9, hD9⟩, hS.F ht⟩) hS.2.2 d_LM_limit_39

set_option maxHeartbeats 4000000 in
set_option maxRecDepth 100000 in
theorem c_LM_limit_bad (l : Launch) (hst : l.stackTraces = false) (dC : Nat → ClassId) (dI : Nat → Nat → Nat) (h0 : Nat) (oc : Nat) (oh : Nat) (om : Nat) (os : Nat) (ob : Nat) (h0_tapeLength : Int32) (h0_loaded : Int32) (oh_things : Nat) (oh_slots : Int32) (oh_free : Nat) (oh_freeCount : Int32) (oh_tally : Nat) (oh_names : Nat) (oh_coroutines : Nat) (oh_buckets : Nat) (oh_work : Nat) (oh_workSize : Int32) (oh_waiting : Nat) (oh_waitingCount : Int32) (oh_loading : Int32) (oh_tables : Nat) (oh_machine : Nat) (mo : Int32) (n : Int32) (sz : Nat) (g : n < 200 ∨ ¬ n ≤ 4000) : MetX l y_LM_limit w_LM_limit ({ frames := 6, cells := 1, slots := 6, locals := 81 }) (va_Pc [.ref h0, .int n] (fun U => U.heap.size = sz ∧ va_P (dC, dI) vwCl [(h0, .inr (0, [.int h0_tapeLength, .int h0_loaded, .ref oc, .ref oh, .ref om, .ref os, .ref ob])), (oh, .inr (2, [.ref oh_things, .int oh_slots, .ref oh_free, .int oh_freeCount, .ref oh_tally, .ref oh_names, .ref oh_coroutines, .ref oh_buckets, .ref oh_work, .int oh_workSize, .ref oh_waiting, .int oh_waitingCount, .int mo, .int oh_loading, .ref oh_tables, .ref oh_machine]))] U.heap ∧ va_K (dC, dI) vwCl [] U ∧ va_D (fun _ => True) [(h0, .inr (0, [.int h0_tapeLength, .int h0_loaded, .ref oc, .ref oh, .ref om, .ref os, .ref ob])), (oh, .inr (2, [.ref oh_things, .int oh_slots, .ref oh_free, .int oh_freeCount, .ref oh_tally, .ref oh_names, .ref oh_coroutines, .ref oh_buckets, .ref oh_work, .int oh_workSize, .ref oh_waiting, .int oh_waitingCount, .int mo, .int oh_loading, .ref oh_tables, .ref oh_machine]))] ∧ xB U ∧ xZ (va_A [(h0, .inr (0, [.int h0_tapeLength, .int h0_loaded, .ref oc, .ref oh, .ref om, .ref os, .ref ob])), (oh, .inr (2, [.ref oh_things, .int oh_slots, .ref oh_free, .int oh_freeCount, .ref oh_tally, .ref oh_names, .ref oh_coroutines, .ref oh_buckets, .ref oh_work, .int oh_workSize, .ref oh_waiting, .int oh_waitingCount, .int mo, .int oh_loading, .ref oh_tables, .ref oh_machine]))] sz) U U.heap)) "java/lang/IllegalArgumentException" (va_F (va_A [(h0, .inr (0, [.int h0_tapeLength, .int h0_loaded, .ref oc, .ref oh, .ref om, .ref os, .ref ob])), (oh, .inr (2, [.ref oh_things, .int oh_slots, .ref oh_free, .int oh_freeCount, .ref oh_tally, .ref oh_names, .ref oh_coroutines, .ref oh_buckets, .ref oh_work, .int oh_workSize, .ref oh_waiting, .int oh_waitingCount, .int mo, .int oh_loading, .ref oh_tables, .ref oh_machine]))] sz)) 1 6 (va_A [(h0, .inr (0, [.int h0_tapeLength, .int h0_loaded, .ref oc, .ref oh, .ref om, .ref os, .ref ob])), (oh, .inr (2, [.ref oh_things, .int oh_slots, .ref oh_free, .int oh_freeCount, .ref oh_tally, .ref oh_names, .ref oh_coroutines, .ref oh_buckets, .ref oh_work, .int oh_workSize, .ref oh_waiting, .int oh_waitingCount, .int mo, .int oh_loading, .ref oh_tables, .ref oh_machine]))] sz) := by
  refine MetX.ofW (cc := b_LM_limit) (maxL := 3) (ret := (some .int)) (by decide) rfl ?_
  intro p e s m args below meth c s₁ B hml hex hv
  obtain ⟨rfl, hsz, hP, hK, hD0, hB, hZ⟩ := hv
  have hx := B.exec
  have hb := B.bytes
  have hr := B.returns
  have hts := atoms_spec (ws := w_LM_limit) B.pre
  have hown : s.vm.findClass R_LM = some m.cls := findClass_of_methodNamed B.named
  have hlocks := B.notSynchronized
  subst hsz
  have hD := hD0.self (sz := s.heap.size)
  generalize hAe : va_A [(h0, .inr (0, [.int h0_tapeLength, .int h0_loaded, .ref oc, .ref oh, .ref om, .ref os, .ref ob])), (oh, .inr (2, [.ref oh_things, .int oh_slots, .ref oh_free, .int oh_freeCount, .ref oh_tally, .ref oh_names, .ref oh_coroutines, .ref oh_buckets, .ref oh_work, .int oh_workSize, .ref oh_waiting, .int oh_waitingCount, .int mo, .int oh_loading, .ref oh_tables, .ref oh_machine]))] s.heap.size = A at hD hZ ⊢
  have hA : ∀ q : Nat, s.heap.size ≤ q → A q := fun q h => by rw [← hAe]; exact Or.inr h
  have hNs : ∀ q, A q → ∀ cell : Cell, s.heap[q]? = some cell → cell.vm.isStatics = false := by rw [← hAe]; exact xnos hP
  have hS : va_S A s.heap s.heap [] := va_S.rf
  have hl := lv_entry ([.ref h0, .int n]) (n := 3) (Nat.le_of_ble_eq_true rfl)
  rw [lg_entry_eq]
  generalize (lg_sl ([.ref h0, .int n]) ++ List.replicate (3 - (lg_sl ([.ref h0, .int n])).length) Slot.unset).toArray = ls at hl ⊢
  have hl : lv_has ls 3 [(0, .ref h0), (1, .int n)] := hl
  have hP : va_P (dC, dI) vwCl [(h0, .inr (0, [.int h0_tapeLength, .int h0_loaded, .ref oc, .ref oh, .ref om, .ref os, .ref ob])), (oh, .inr (2, [.ref oh_things, .int oh_slots, .ref oh_free, .int oh_freeCount, .ref oh_tally, .ref oh_names, .ref oh_coroutines, .ref oh_buckets, .ref oh_work, .int oh_workSize, .ref oh_waiting, .int oh_waitingCount, .int mo, .int oh_loading, .ref oh_tables, .ref oh_machine]))] s.heap := hP
  have hD : va_D A [(h0, .inr (0, [.int h0_tapeLength, .int h0_loaded, .ref oc, .ref oh, .ref om, .ref os, .ref ob])), (oh, .inr (2, [.ref oh_things, .int oh_slots, .ref oh_free, .int oh_freeCount, .ref oh_tally, .ref oh_names, .ref oh_coroutines, .ref oh_buckets, .ref oh_work, .int oh_workSize, .ref oh_waiting, .int oh_waitingCount, .int mo, .int oh_loading, .ref oh_tables, .ref oh_machine]))] := hD
  refine lv_iload_n hx hb d_LM_limit_0 rfl (lv_at hl 1 rfl) ?_
  refine lv_sipush (v := 200) hx hb d_LM_limit_1 (by decide) ?_
  refine lv_icmp_lt (tgt := 14) hx hb d_LM_limit_4 (by decide) (fun c_4 => ?_) (fun c_4 => ?_)
  · skip
    exact xthrow (own := R_LM) (cls := "java/lang/IllegalArgumentException") (names := ["java/lang/RuntimeException", "java/lang/Exception"]) (ik := 74) (ic := 76) hx hb hst hown (by decide) (by decide) (hts (.classLink R_LM 74 "java/lang/IllegalArgumentException") (List.mem_cons_of_mem _ kw_123)) (hts (.initialized "java/lang/IllegalArgumentException") (List.mem_cons_of_mem _ kw_124)) (hts (.instantiable "java/lang/IllegalArgumentException" 6) (List.mem_cons_of_mem _ kw_125)) (xat (fun w h => hts w (List.mem_cons_of_mem _ (xo_IllegalArgumentException w h))) xn_IllegalArgumentException hB hZ) hNs hS (by rw [hml]; exact hl.1) d_LM_limit_14 d_LM_limit_17 d_LM_limit_18 d_LM_limit_21 hex (Nat.le_of_ble_eq_true rfl) (Nat.le_of_ble_eq_true rfl) (Nat.le_of_ble_eq_true rfl) (Nat.le_of_ble_eq_true rfl) hlocks (fun U _ hF => hF) (Nat.le_of_ble_eq_true rfl) (Nat.le_of_ble_eq_true rfl)
  · skip
    refine lv_iload_n hx hb d_LM_limit_7 rfl (lv_at hl 1 rfl) ?_
    refine lv_sipush (v := 4000) hx hb d_LM_limit_8 (by decide) ?_
    refine lv_icmp_le (tgt := 22) hx hb d_LM_limit_11 (by decide) (fun c_11 => absurd c_11 (g.resolve_left c_4)) (fun c_11 => ?_)
    exact xthrow (own := R_LM) (cls := "java/lang/IllegalArgumentException") (names := ["java/lang/RuntimeException", "java/lang/Exception"]) (ik := 74) (ic := 76) hx hb hst hown (by decide) (by decide) (hts (.classLink R_LM 74 "java/lang/IllegalArgumentException") (List.mem_cons_of_mem _ kw_123)) (hts (.initialized "java/lang/IllegalArgumentException") (List.mem_cons_of_mem _ kw_124)) (hts (.instantiable "java/lang/IllegalArgumentException" 6) (List.mem_cons_of_mem _ kw_125)) (xat (fun w h => hts w (List.mem_cons_of_mem _ (xo_IllegalArgumentException w h))) xn_IllegalArgumentException hB hZ) hNs hS (by rw [hml]; exact hl.1) d_LM_limit_14 d_LM_limit_17 d_LM_limit_18 d_LM_limit_21 hex (Nat.le_of_ble_eq_true rfl) (Nat.le_of_ble_eq_true rfl) (Nat.le_of_ble_eq_true rfl) (Nat.le_of_ble_eq_true rfl) hlocks (fun U _ hF => hF) (Nat.le_of_ble_eq_true rfl) (Nat.le_of_ble_eq_true rfl)

