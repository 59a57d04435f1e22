abbrev b_Mo_a : ByteArray := prog_14_method_13_code
def y_Mo_a : MethodName := ⟨R_Mo, "a", "(I)I"⟩
abbrev w_Mo_a : List Cond := .code y_Mo_a b_Mo_a 1 (some .int) :: wA
theorem k_Mo_a : Cond.code y_Mo_a b_Mo_a 1 (some .int) ∈ wA := kinm (show _ ∈ tables_1 from (List.mem_append_right _ (List.mem_append_right _ (List.mem_append_right _ (List.mem_append_right _ (List.mem_append_right _ (List.mem_append_right _ (List.mem_append_right _ (List.mem_append_right _ (List.mem_append_right _ (List.mem_append_right _ (List.mem_append_left _ (List.mem_of_getElem? (l := tables_1_11) (i := 188) (by decide +kernel)))))))))))))) (by decide +kernel)
theorem d_Mo_a_0 : decode b_Mo_a 0 = .ok (.iload_n 0, 1) := by decide +kernel
theorem d_Mo_a_1 : decode b_Mo_a 1 = .ok (.bipush 6, 2) := by decide +kernel
theorem d_Mo_a_3 : decode b_Mo_a 3 = .ok (.ishr, 1) := by decide +kernel
theorem d_Mo_a_4 : decode b_Mo_a 4 = .ok (.sipush 255, 3) := by decide +kernel
theorem d_Mo_a_7 : decode b_Mo_a 7 = .ok (.iand, 1) := by decide +kernel
theorem d_Mo_a_8 : decode b_Mo_a 8 = .ok (.ireturn, 1) := by decide +kernel
theorem kw_39 : Cond.static y_Mo_a ∈ wA := kinm (show _ ∈ tables_1 from (List.mem_append_right _ (List.mem_append_right _ (List.mem_append_right _ (List.mem_append_right _ (List.mem_append_right _ (List.mem_append_right _ (List.mem_append_right _ (List.mem_append_right _ (List.mem_append_right _ (List.mem_append_right _ (List.mem_append_left _ (List.mem_of_getElem? (l := tables_1_11) (i := 187) (by decide +kernel)))))))))))))) (by decide +kernel)
def M_Mo_a (l0 : Int32) : M (Int32) :=
  oR ((l0 >>> (6 &&& 31)) &&& 255)

theorem cs_Mo_a : CS y_Mo_a b_Mo_a 1 (some .int) 1 := ⟨kw_39, kw_3, k_Mo_a, by decide +kernel⟩
theorem ct_Mo_a {l : Launch} {P : PP} {q : PL} {s s' : S1} {l0 : Int32} {r : Int32} (h : M_Mo_a l0 s = some (r, s')) : Ct l y_Mo_a b_Mo_a 1 (some .int) 0 0 P q s [.int l0] (some (.int r)) q s' := by
  refine ct_of (by decide) (Nat.le_of_ble_eq_true rfl) fun X ls eP el g hR hl => ?_
  have hR : Rt X q ((r, s') : Int32 × S1).2 (some (.int ((r, s') : Int32 × S1).1)) := hR
  have hl : lv_has ls 1 [(0, .int l0)] := hl
  generalize (r, s') = o at h hR
  unfold M_Mo_a at h
  refine ww_iload_n (pc := 0) g.1 d_Mo_a_0 rfl (lv_at hl 0 rfl) ?_
  refine ww_bipush (pc := 1) g.1 (v := 6) d_Mo_a_1 (by decide) ?_
  refine ww_ishr (pc := 3) g.1 d_Mo_a_3 ?_
  refine ww_sipush (pc := 4) g.1 (v := 255) d_Mo_a_4 (by decide) ?_
  refine ww_iand (pc := 7) g.1 d_Mo_a_7 ?_
  exact ww_iretH (pc := 8) g h hR d_Mo_a_8

