theorem kw_214 : Cond.fieldLink R_Mo 18 "LuaMachineModel" "thrown" "I" ∈ wA := kinm (show _ ∈ tables_1 from (List.mem_append_right _ (List.mem_append_right _ (List.mem_append_right _ (List.mem_append_right _ (List.mem_append_right _ (List.mem_append_right _ (List.mem_append_right _ (List.mem_append_right _ (List.mem_append_right _ (List.mem_append_left _ (List.mem_of_getElem? (l := tables_1_10) (i := 56) (by decide +kernel))))))))))))) (by decide +kernel)
abbrev b_Mo_refuse : ByteArray := prog_14_method_3_code
def y_Mo_refuse : MethodName := ⟨R_Mo, "refuse", "(IZ)Z"⟩
abbrev w_Mo_refuse : List Cond := .code y_Mo_refuse b_Mo_refuse 3 (some .boolean) :: wA
theorem k_Mo_refuse : Cond.code y_Mo_refuse b_Mo_refuse 3 (some .boolean) ∈ wA := kinm (show _ ∈ tables_1 from (List.mem_append_right _ (List.mem_append_right _ (List.mem_append_right _ (List.mem_append_right _ (List.mem_append_right _ (List.mem_append_right _ (List.mem_append_right _ (List.mem_append_right _ (List.mem_append_right _ (List.mem_append_right _ (List.mem_append_left _ (List.mem_of_getElem? (l := tables_1_11) (i := 129) (by decide +kernel)))))))))))))) (by decide +kernel)
theorem d_Mo_refuse_0 : decode b_Mo_refuse 0 = .ok (.iload_n 2, 1) := by decide +kernel
theorem d_Mo_refuse_1 : decode b_Mo_refuse 1 = .ok (.ifCond .eq 8, 3) := by decide +kernel
theorem d_Mo_refuse_4 : decode b_Mo_refuse 4 = .ok (.aload_n 0, 1) := by decide +kernel
theorem d_Mo_refuse_5 : decode b_Mo_refuse 5 = .ok (.iload_n 1, 1) := by decide +kernel
theorem d_Mo_refuse_6 : decode b_Mo_refuse 6 = .ok (.putfield 18, 3) := by decide +kernel
theorem d_Mo_refuse_9 : decode b_Mo_refuse 9 = .ok (.iload_n 2, 1) := by decide +kernel
theorem d_Mo_refuse_10 : decode b_Mo_refuse 10 = .ok (.ireturn, 1) := by decide +kernel

set_option maxHeartbeats 4000000 in
set_option maxRecDepth 100000 in
theorem r_Mo_refuse (l : Launch) (dC : Nat → ClassId) (dI : Nat → Nat → Nat) (ad : Nat → Nat) (adT : Int32 → Nat) (kI kB kZ : ClassId) (s s' : QS) (a1 a2 r : Int32) (ha : a2 = 0 ∨ a2 = 1) (h : M_refuse s a1 a2 = some (s', r)) (sz : Nat) : Met l y_Mo_refuse w_Mo_refuse ({ frames := 0, cells := 0, slots := 0, locals := 0 }) (va_Pc [.ref (ad 0), .int a1, .int a2] (fun U => U.heap.size = sz ∧ va_P (dC, dI) vwCl (rW ad adT kI kB kZ s) U.heap ∧ va_K (dC, dI) vwCl [] U ∧ va_D (fun _ => True) (rW ad adT kI kB kZ s) ∧ xB U)) (va_Qi (fun (v : Int32) (_ : Unit) => v = r) (fun _ t => va_P (dC, dI) vwCl (rW ad adT kI kB kZ s') t.heap ∧ va_K (dC, dI) vwCl [] t ∧ va_D (va_A (rW ad adT kI kB kZ s) sz) (rW ad adT kI kB kZ s')) (va_A (rW ad adT kI kB kZ s) sz)) 0 0 (va_A (rW ad adT kI kB kZ s) sz) := by
  refine Met.ofW (cc := b_Mo_refuse) (maxL := 3) (ret := (some .boolean)) (by decide) rfl ?_
  intro p e s0 m args below meth c s₁ B hml hv
  obtain ⟨rfl, hsz, hP, hK, hD0, hB⟩ := hv
  have hx := B.exec
  have hb := B.bytes
  have hr := B.returns
  have hts := atoms_spec (ws := w_Mo_refuse) B.pre
  have hown : s0.vm.findClass R_Mo = some m.cls := findClass_of_methodNamed B.named
  subst hsz
  have hD := hD0.self (sz := s0.heap.size)
  generalize hAe : va_A (rW ad adT kI kB kZ s) s0.heap.size = A at hD ⊢
  have hA : ∀ q : Nat, s0.heap.size ≤ q → A q := fun q h => by rw [← hAe]; exact Or.inr h
  have hS : va_S A s0.heap s0.heap [] := va_S.rf
  have hl := lv_entry ([.ref (ad 0), .int a1, .int a2]) (n := 3) (Nat.le_of_ble_eq_true rfl)
  rw [lg_entry_eq]
  generalize (lg_sl ([.ref (ad 0), .int a1, .int a2]) ++ List.replicate (3 - (lg_sl ([.ref (ad 0), .int a1, .int a2])).length) Slot.unset).toArray = ls at hl ⊢
  have hl : lv_has ls 3 [(0, .ref (ad 0)), (1, .int a1), (2, .int a2)] := hl
  unfold M_refuse at h
  have hz : narrow FieldType.boolean (Value.int a2) = Value.int a2 := by rcases ha with rfl | rfl <;> rfl
  refine lv_iload_n hx hb d_Mo_refuse_0 rfl (lv_at hl 2 rfl) ?_
  refine lv_if_eq (tgt := 9) hx hb d_Mo_refuse_1 (by decide) (fun c_1 => ?_) (fun c_1 => ?_)
  · rw [if_pos c_1] at h
    obtain ⟨rfl, rfl⟩ := Prod.mk.inj (Option.some.inj h)
    refine lv_iload_n hx hb d_Mo_refuse_9 rfl (lv_at hl 2 rfl) ?_
    refine W.widen (k := 0) (n := 0) (Nat.le_of_ble_eq_true rfl) (Nat.le_of_ble_eq_true rfl) ?_
    exact W.zret (v := a2) hx hb hr hz (fun t ht hW => ⟨⟨a2, (), rfl, rfl, by rw [ht]; exact hP, va_K.moved hW.alike hK, hD⟩, hS.F ht⟩) hS.2.2 d_Mo_refuse_10
  · rw [if_neg c_1] at h
    obtain ⟨rfl, rfl⟩ := Prod.mk.inj (Option.some.inj h)
    refine lv_aload_n hx hb d_Mo_refuse_4 rfl (lv_at hl 0 rfl) ?_
    refine lv_iload_n hx hb d_Mo_refuse_5 rfl (lv_at hl 1 rfl) ?_
    refine va_put (D := (dC, dI)) (ci := 9) (v := .int a1) (ty := .int) (C := R_Mo) (T := TMo) (N := 100) hx hb hts (fun w h => List.mem_cons_of_mem _ (ic_Mo w h)) tyMo tyMo_ok nmMo hown hK hP hD hS 0 rfl rfl 2 (by decide) (hts (.fieldLink R_Mo 18 "LuaMachineModel" "thrown" "I") (List.mem_cons_of_mem _ kw_214)) (fun _ h9 => h9) rfl (tyMo_ok 2 (by decide)) rfl rfl (Nat.le_of_ble_eq_true rfl) d_Mo_refuse_6 (fun H locs hP hD hS => ?_)
    have hP : va_P (dC, dI) vwCl (rW ad adT kI kB kZ (qI s 2 a1)) H := hP
    have hD : va_D A (rW ad adT kI kB kZ (qI s 2 a1)) := hD
    refine lv_iload_n hx hb d_Mo_refuse_9 rfl (lv_at hl 2 rfl) ?_
    refine W.widen (k := 0) (n := 0) (Nat.le_of_ble_eq_true rfl) (Nat.le_of_ble_eq_true rfl) ?_
    exact W.zret (v := a2) hx hb hr hz (fun t ht hW => ⟨⟨a2, (), rfl, rfl, by rw [ht]; exact hP, va_K.moved hW.alike hK, hD⟩, hS.F ht⟩) hS.2.2 d_Mo_refuse_10
