/-! A value is written into a closed variable. -/
def q_Sv (s s' : S1) : Prop := (∀ f i, gI s' f i = gI s f i) ∧ (∀ f i, gL s' f i = gL s f i) ∧ (∀ a i j, a ≠ 5 → gA s' a i j = gA s a i j) ∧ (∀ a i j, a ≠ 6 → gB s' a i j = gB s a i j) ∧ ∀ i, Vl false s (v_variable_k s i) (v_variable_v s i) → Vl false s (v_variable_k s' i) (v_variable_v s' i)
theorem q_Sv.A {s s' : S1} (h : q_Sv s s') (f : Nat) (hf : f ≠ 5) (i j : Int32) : gA s' f i j = gA s f i j := h.2.2.1 f i j hf
theorem q_Sv.B {s s' : S1} (h : q_Sv s s') (f : Nat) (hf : f ≠ 6) (i j : Int32) : gB s' f i j = gB s f i j := h.2.2.2.1 f i j hf
theorem Lv.sv {m : Bool} {s s' : S1} {x k : Int32} (hs : q_Sv s s') : Lv m s' x k ↔ Lv m s x k := by
  unfold Lv
  simp only [f_used, a_sort, a_marked, hs.1, hs.A 58 (by decide), hs.A 59 (by decide)]
theorem Vl.sv {m : Bool} {s s' : S1} {k : Int32} {v : Int64} (hs : q_Sv s s') : Vl m s' k v ↔ Vl m s k v := by
  unfold Vl
  simp only [Lv.sv hs]
theorem Wl.sv {m : Bool} {s s' : S1} {k : Int32} {v : Int64} (hs : q_Sv s s') : Wl m s' k v ↔ Wl m s k v := by
  unfold Wl
  simp only [Vl.sv hs, Lv.sv hs]
theorem ThV.sv {s s' : S1} {t : Int32} (h : ThV false s t) (hs : q_Sv s s') : ThV false s' t := by
  obtain ⟨h1, h2, h3⟩ := h
  unfold ThV FrV at *
  simp only [Vl.sv hs, Lv.sv hs]
  simp only [t_frames, t_openCount, t_open, t_kind, t_function, t_base, t_extra, t_rowCount, a_first, a_registers, v_row_k, v_row_v, v_stack_k, v_stack_v, v_start_n, v_start_k, v_start_v, hs.1, hs.A 20 (by decide), hs.A 23 (by decide), hs.A 26 (by decide), hs.A 29 (by decide), hs.A 30 (by decide), hs.A 31 (by decide), hs.A 32 (by decide), hs.A 33 (by decide), hs.A 34 (by decide), hs.A 35 (by decide), hs.A 36 (by decide), hs.A 44 (by decide), hs.A 58 (by decide), hs.A 59 (by decide), hs.A 60 (by decide), hs.A 61 (by decide), hs.A 62 (by decide), hs.A 63 (by decide), hs.A 64 (by decide), hs.A 65 (by decide), hs.A 66 (by decide), hs.A 67 (by decide), hs.A 68 (by decide), hs.A 69 (by decide), hs.A 70 (by decide), hs.A 73 (by decide), hs.B 21 (by decide), hs.B 24 (by decide), hs.B 27 (by decide), hs.B 71 (by decide), hs.B 72 (by decide)] at *
  exact ⟨h1, h2, h3⟩
theorem PcV.sv {s s' : S1} {x : Int32} (h : PcV false s x) (hs : q_Sv s s') : PcV false s' x := by
  obtain ⟨h1, h2, h3, h4⟩ := h
  have hv := hs.2.2.2.2
  have es : a_sort s' x = a_sort s x := hs.A 58 (by decide) 0 x
  have ef : a_first s' x = a_first s x := hs.A 62 (by decide) 0 x
  refine ⟨fun z => ?_, fun z => ?_, fun z => ?_, fun z => ?_⟩ <;> rw [es] at z
  · have := h1 z
    unfold TbV at *
    simp only [Vl.sv hs, Lv.sv hs]
    simp only [a_chain, a_first, a_third, a_ek, a_ev, a_vk, a_vv, hs.A 20 (by decide), hs.A 23 (by decide), hs.A 26 (by decide), hs.A 29 (by decide), hs.A 30 (by decide), hs.A 31 (by decide), hs.A 32 (by decide), hs.A 33 (by decide), hs.A 34 (by decide), hs.A 35 (by decide), hs.A 36 (by decide), hs.A 44 (by decide), hs.A 58 (by decide), hs.A 59 (by decide), hs.A 60 (by decide), hs.A 61 (by decide), hs.A 62 (by decide), hs.A 63 (by decide), hs.A 64 (by decide), hs.A 65 (by decide), hs.A 66 (by decide), hs.A 67 (by decide), hs.A 68 (by decide), hs.A 69 (by decide), hs.A 70 (by decide), hs.A 73 (by decide), hs.B 21 (by decide), hs.B 24 (by decide), hs.B 27 (by decide), hs.B 71 (by decide), hs.B 72 (by decide)] at *
    exact this
  · have := h2 z
    unfold FnV at *
    simp only [Lv.sv hs]
    simp only [a_first, a_second, a_third, a_follow, hs.A 20 (by decide), hs.A 23 (by decide), hs.A 26 (by decide), hs.A 29 (by decide), hs.A 30 (by decide), hs.A 31 (by decide), hs.A 32 (by decide), hs.A 33 (by decide), hs.A 34 (by decide), hs.A 35 (by decide), hs.A 36 (by decide), hs.A 44 (by decide), hs.A 58 (by decide), hs.A 59 (by decide), hs.A 60 (by decide), hs.A 61 (by decide), hs.A 62 (by decide), hs.A 63 (by decide), hs.A 64 (by decide), hs.A 65 (by decide), hs.A 66 (by decide), hs.A 67 (by decide), hs.A 68 (by decide), hs.A 69 (by decide), hs.A 70 (by decide), hs.A 73 (by decide), hs.B 21 (by decide), hs.B 24 (by decide), hs.B 27 (by decide), hs.B 71 (by decide), hs.B 72 (by decide)] at *
    exact this
  · rw [ef]
    exact (h3 z).sv hs
  · have := h4 z
    unfold VrV at *
    simp only [Vl.sv hs]
    simp only [a_first, a_second, v_stack_k, v_stack_v, hs.A 20 (by decide), hs.A 23 (by decide), hs.A 26 (by decide), hs.A 29 (by decide), hs.A 30 (by decide), hs.A 31 (by decide), hs.A 32 (by decide), hs.A 33 (by decide), hs.A 34 (by decide), hs.A 35 (by decide), hs.A 36 (by decide), hs.A 44 (by decide), hs.A 58 (by decide), hs.A 59 (by decide), hs.A 60 (by decide), hs.A 61 (by decide), hs.A 62 (by decide), hs.A 63 (by decide), hs.A 64 (by decide), hs.A 65 (by decide), hs.A 66 (by decide), hs.A 67 (by decide), hs.A 68 (by decide), hs.A 69 (by decide), hs.A 70 (by decide), hs.A 73 (by decide), hs.B 21 (by decide), hs.B 24 (by decide), hs.B 27 (by decide), hs.B 71 (by decide), hs.B 72 (by decide)] at *
    exact ⟨fun w => hv _ (this.1 w), this.2⟩
theorem Hq.sv {s s' : S1} (h : Hq s) (hs : q_Sv s s') : Hq s' := by
  obtain ⟨⟨v1, v2, v3⟩, h2, h3, h4, h5, h6, h7⟩ := h
  have eu : f_used s' = f_used s := hs.1 40 0
  have et : f_entryTop s' = f_entryTop s := hs.1 41 0
  refine ⟨⟨?_, by rw [et]; exact v2, fun x a b => ⟨?_, (v3 x a (by rw [← eu]; exact b)).2.sv hs⟩⟩, h2.sq ⟨fun a j ha => hs.A a (by rcases ha with w | w | w | w | w | w | w <;> rw [w] <;> decide) 0 j, hs.1 40 0, hs.1 38 0⟩, ?_, ?_, ?_, ?_, by rw [eu]; exact h7⟩
  · unfold Rm at *
    simp only [p_ek, p_vk, p_ev, p_vv, p_follow, p_bucket, hs.1] at *
    exact v1
  · have := (v3 x a (by rw [← eu]; exact b)).1
    unfold Sh Ts FrS at *
    simp only [a_sort, a_first, a_second, a_third, f_entryTop, t_place, t_frames, t_openCount, t_kind, t_function, t_base, t_extra, t_rowCount, a_registers, v_start_n, hs.1, hs.A 20 (by decide), hs.A 23 (by decide), hs.A 26 (by decide), hs.A 29 (by decide), hs.A 30 (by decide), hs.A 31 (by decide), hs.A 32 (by decide), hs.A 33 (by decide), hs.A 34 (by decide), hs.A 35 (by decide), hs.A 36 (by decide), hs.A 44 (by decide), hs.A 58 (by decide), hs.A 59 (by decide), hs.A 60 (by decide), hs.A 61 (by decide), hs.A 62 (by decide), hs.A 63 (by decide), hs.A 64 (by decide), hs.A 65 (by decide), hs.A 66 (by decide), hs.A 67 (by decide), hs.A 68 (by decide), hs.A 69 (by decide), hs.A 70 (by decide), hs.A 73 (by decide), hs.B 21 (by decide), hs.B 24 (by decide), hs.B 27 (by decide), hs.B 71 (by decide), hs.B 72 (by decide)] at *
    exact this
  · unfold Frl at *
    simp only [f_freed, f_existing, f_used, a_free, a_sort, hs.1, hs.A 20 (by decide), hs.A 23 (by decide), hs.A 26 (by decide), hs.A 29 (by decide), hs.A 30 (by decide), hs.A 31 (by decide), hs.A 32 (by decide), hs.A 33 (by decide), hs.A 34 (by decide), hs.A 35 (by decide), hs.A 36 (by decide), hs.A 44 (by decide), hs.A 58 (by decide), hs.A 59 (by decide), hs.A 60 (by decide), hs.A 61 (by decide), hs.A 62 (by decide), hs.A 63 (by decide), hs.A 64 (by decide), hs.A 65 (by decide), hs.A 66 (by decide), hs.A 67 (by decide), hs.A 68 (by decide), hs.A 69 (by decide), hs.A 70 (by decide), hs.A 73 (by decide), hs.B 21 (by decide), hs.B 24 (by decide), hs.B 27 (by decide), hs.B 71 (by decide), hs.B 72 (by decide)] at *
    exact h3
  · unfold Ov at *
    simp only [Lv.sv hs]
    simp only [t_place, t_openCount, t_open, a_first, hs.1, hs.A 20 (by decide), hs.A 23 (by decide), hs.A 26 (by decide), hs.A 29 (by decide), hs.A 30 (by decide), hs.A 31 (by decide), hs.A 32 (by decide), hs.A 33 (by decide), hs.A 34 (by decide), hs.A 35 (by decide), hs.A 36 (by decide), hs.A 44 (by decide), hs.A 58 (by decide), hs.A 59 (by decide), hs.A 60 (by decide), hs.A 61 (by decide), hs.A 62 (by decide), hs.A 63 (by decide), hs.A 64 (by decide), hs.A 65 (by decide), hs.A 66 (by decide), hs.A 67 (by decide), hs.A 68 (by decide), hs.A 69 (by decide), hs.A 70 (by decide), hs.A 73 (by decide), hs.B 21 (by decide), hs.B 24 (by decide), hs.B 27 (by decide), hs.B 71 (by decide), hs.B 72 (by decide)] at *
    exact h4
  · unfold Cv at *
    simp only [Lv.sv hs]
    simp only [t_place, t_openCount, t_open, a_first, hs.1, hs.A 20 (by decide), hs.A 23 (by decide), hs.A 26 (by decide), hs.A 29 (by decide), hs.A 30 (by decide), hs.A 31 (by decide), hs.A 32 (by decide), hs.A 33 (by decide), hs.A 34 (by decide), hs.A 35 (by decide), hs.A 36 (by decide), hs.A 44 (by decide), hs.A 58 (by decide), hs.A 59 (by decide), hs.A 60 (by decide), hs.A 61 (by decide), hs.A 62 (by decide), hs.A 63 (by decide), hs.A 64 (by decide), hs.A 65 (by decide), hs.A 66 (by decide), hs.A 67 (by decide), hs.A 68 (by decide), hs.A 69 (by decide), hs.A 70 (by decide), hs.A 73 (by decide), hs.B 21 (by decide), hs.B 24 (by decide), hs.B 27 (by decide), hs.B 71 (by decide), hs.B 72 (by decide)] at *
    exact h5
  · unfold q_Tp at *
    simp only [Lv.sv hs]
    simp only [t_place, a_first, hs.1, hs.A 20 (by decide), hs.A 23 (by decide), hs.A 26 (by decide), hs.A 29 (by decide), hs.A 30 (by decide), hs.A 31 (by decide), hs.A 32 (by decide), hs.A 33 (by decide), hs.A 34 (by decide), hs.A 35 (by decide), hs.A 36 (by decide), hs.A 44 (by decide), hs.A 58 (by decide), hs.A 59 (by decide), hs.A 60 (by decide), hs.A 61 (by decide), hs.A 62 (by decide), hs.A 63 (by decide), hs.A 64 (by decide), hs.A 65 (by decide), hs.A 66 (by decide), hs.A 67 (by decide), hs.A 68 (by decide), hs.A 69 (by decide), hs.A 70 (by decide), hs.A 73 (by decide), hs.B 21 (by decide), hs.B 24 (by decide), hs.B 27 (by decide), hs.B 71 (by decide), hs.B 72 (by decide)] at *
    exact h6
theorem Gm.sv {s s' : S1} (h : Gm s) (hs : q_Sv s s') : Gm s' := by
  refine ⟨h.1.sv hs, fun z => ?_⟩
  have z' : f_noCollection s = 0 := by
    have : gI s' 92 0 = 0 := z
    rw [hs.1] at this
    exact this
  obtain ⟨⟨r1, ⟨ρ, r2⟩, r3⟩, q⟩ := h.2 z'
  have e := chN_I (hs.1 72 0) (hs.1 3590)
  constructor
  · unfold RtS Rk at *
    simp only [f_current, t_resumer, v_hand_n, v_args_n, v_results_n, v_ended_n, f_used, hs.1] at *
    exact ⟨r1, ⟨ρ, r2⟩, r3⟩
  · unfold RtV RwV at *
    simp only [e, Lv.sv hs, Vl.sv hs, Wl.sv hs]
    simp only [f_globals, t_place, f_errorKind, f_errorValue, f_calledKind, f_called, a_sort, a_fixed, a_marked, f_used, hs.1, hs.2.1, hs.A 20 (by decide), hs.A 23 (by decide), hs.A 26 (by decide), hs.A 29 (by decide), hs.A 30 (by decide), hs.A 31 (by decide), hs.A 32 (by decide), hs.A 33 (by decide), hs.A 34 (by decide), hs.A 35 (by decide), hs.A 36 (by decide), hs.A 44 (by decide), hs.A 58 (by decide), hs.A 59 (by decide), hs.A 60 (by decide), hs.A 61 (by decide), hs.A 62 (by decide), hs.A 63 (by decide), hs.A 64 (by decide), hs.A 65 (by decide), hs.A 66 (by decide), hs.A 67 (by decide), hs.A 68 (by decide), hs.A 69 (by decide), hs.A 70 (by decide), hs.A 73 (by decide), hs.B 21 (by decide), hs.B 24 (by decide), hs.B 27 (by decide), hs.B 71 (by decide), hs.B 72 (by decide), Nat.reduceAdd, hs.A 8 (by decide), hs.A 11 (by decide), hs.A 14 (by decide), hs.A 17 (by decide), hs.B 9 (by decide), hs.B 12 (by decide), hs.B 15 (by decide), hs.B 18 (by decide)] at *
    exact q
theorem setV_ok (s : S1) (x k : Int32) (v : Int64) (hx : 0 ≤ x ∧ x < 4100) (hv : Vl false s k v) : ok (M_Va_set 4 0 x k v) s (fun _ s' => s' = sB (sA s 5 0 x k) 6 0 x v ∧ q_Sv s s') := by
  simp only [M_Va_set, ok_B, ok_C, ok_R, ok_L, ok_K, ok_GI, ok_GL, ok_PI, ok_PL, ok_AI, ok_AL, ok_SI, ok_SL, ok_Pr, ok_CI, cmp_lt, cmp_le, cmp_gt, cmp_ge, cmp_eq, nar0, nar1, Sum.elim_inl, Sum.elim_inr, i8_id hv.kind]
  refine ⟨hx, hx, by trivial, fun _ _ => rfl, fun _ _ => rfl, fun a p j b => ?_, fun a p j b => ?_, fun j h => ?_⟩
  · simp only [gI_sI, gI_sL, gI_sA, gI_sB, gI_sAf, gI_sBf, gL_sI, gL_sL, gL_sA, gL_sB, gL_sAf, gL_sBf, gA_sI, gA_sL, gA_sA, gA_sB, gA_sAf, gA_sBf, gB_sI, gB_sL, gB_sA, gB_sB, gB_sAf, gB_sBf, Nat.reduceEqDiff, Nat.reduceMul, Nat.reduceAdd, false_and, true_and, and_true, and_false, if_true, if_false, b]
  · simp only [gI_sI, gI_sL, gI_sA, gI_sB, gI_sAf, gI_sBf, gL_sI, gL_sL, gL_sA, gL_sB, gL_sAf, gL_sBf, gA_sI, gA_sL, gA_sA, gA_sB, gA_sAf, gA_sBf, gB_sI, gB_sL, gB_sA, gB_sB, gB_sAf, gB_sBf, Nat.reduceEqDiff, Nat.reduceMul, Nat.reduceAdd, false_and, true_and, and_true, and_false, if_true, if_false, b]
  · simp only [v_variable_k, v_variable_v, gI_sI, gI_sL, gI_sA, gI_sB, gI_sAf, gI_sBf, gL_sI, gL_sL, gL_sA, gL_sB, gL_sAf, gL_sBf, gA_sI, gA_sL, gA_sA, gA_sB, gA_sAf, gA_sBf, gB_sI, gB_sL, gB_sA, gB_sB, gB_sAf, gB_sBf, Nat.reduceEqDiff, Nat.reduceMul, Nat.reduceAdd, false_and, true_and, and_true, and_false, if_true, if_false] at *
    by_cases c : j = x
    · rw [if_pos c, if_pos c]
      exact hv
    · rw [if_neg c, if_neg c]
      exact h
