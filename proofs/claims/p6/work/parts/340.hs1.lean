/-! What does not touch the heap keeps it. -/
def Hs (s s' : S1) : Prop := (∀ a i j, gA s' a i j = gA s a i j) ∧ (∀ a i j, gB s' a i j = gB s a i j) ∧ ∀ f i, (f = 34 ∨ f = 38 ∨ f = 40 ∨ f = 41 ∨ f = 54 ∨ f = 3202 ∨ f = 3584 ∨ f = 3586 ∨ f = 3587 ∨ f = 8959 ∨ f = 9087 ∨ f = 9215 ∨ f = 9343 ∨ f = 9471 ∨ f = 9599) → gI s' f i = gI s f i
theorem Hs.I {s s' : S1} (h : Hs s s') (f : Nat) (hf : f = 34 ∨ f = 38 ∨ f = 40 ∨ f = 41 ∨ f = 54 ∨ f = 3202 ∨ f = 3584 ∨ f = 3586 ∨ f = 3587 ∨ f = 8959 ∨ f = 9087 ∨ f = 9215 ∨ f = 9343 ∨ f = 9471 ∨ f = 9599) (i : Int32) : gI s' f i = gI s f i := h.2.2 f i hf
theorem Lv.hs {m : Bool} {s s' : S1} {x k : Int32} (hs : Hs s s') : Lv m s' x k ↔ Lv m s x k := by
  unfold Lv
  simp only [a_sort, a_tag, a_first, a_second, a_third, a_chain, a_free, a_text, a_heads, a_ek, a_ev, a_vk, a_vv, a_follow, a_bucket, a_registers, f_used, v_variable_k, v_variable_v, v_stack_k, v_stack_v, v_row_k, v_row_v, v_start_n, v_start_k, v_start_v, t_place, t_frames, t_openCount, t_open, t_kind, t_function, t_base, t_extra, t_rowCount, p_ek, p_vk, p_ev, p_vv, p_follow, a_marked, hs.1, hs.2.1, hs.I 34 (by decide), hs.I 38 (by decide), hs.I 40 (by decide), hs.I 41 (by decide), hs.I 54 (by decide), hs.I 3202 (by decide), hs.I 3584 (by decide), hs.I 3586 (by decide), hs.I 3587 (by decide), hs.I 8959 (by decide), hs.I 9087 (by decide), hs.I 9215 (by decide), hs.I 9343 (by decide), hs.I 9471 (by decide), hs.I 9599 (by decide)]
theorem Vl.hs {m : Bool} {s s' : S1} {k : Int32} {v : Int64} (hs : Hs s s') : Vl m s' k v ↔ Vl m s k v := by
  unfold Vl
  simp only [Lv.hs hs]
theorem Wl.hs {m : Bool} {s s' : S1} {k : Int32} {v : Int64} (hs : Hs s s') : Wl m s' k v ↔ Wl m s k v := by
  unfold Wl
  simp only [Vl.hs hs, Lv.hs hs]
theorem ThV.hs {m : Bool} {s s' : S1} {t : Int32} (hs : Hs s s') : ThV m s' t ↔ ThV m s t := by
  unfold ThV FrV
  simp only [a_sort, a_tag, a_first, a_second, a_third, a_chain, a_free, a_text, a_heads, a_ek, a_ev, a_vk, a_vv, a_follow, a_bucket, a_registers, f_used, v_variable_k, v_variable_v, v_stack_k, v_stack_v, v_row_k, v_row_v, v_start_n, v_start_k, v_start_v, t_place, t_frames, t_openCount, t_open, t_kind, t_function, t_base, t_extra, t_rowCount, p_ek, p_vk, p_ev, p_vv, p_follow, hs.1, hs.2.1, hs.I 34 (by decide), hs.I 38 (by decide), hs.I 40 (by decide), hs.I 41 (by decide), hs.I 54 (by decide), hs.I 3202 (by decide), hs.I 3584 (by decide), hs.I 3586 (by decide), hs.I 3587 (by decide), hs.I 8959 (by decide), hs.I 9087 (by decide), hs.I 9215 (by decide), hs.I 9343 (by decide), hs.I 9471 (by decide), hs.I 9599 (by decide), Lv.hs hs, Vl.hs hs]
theorem PcV.hs {m : Bool} {s s' : S1} {x : Int32} (hs : Hs s s') : PcV m s' x ↔ PcV m s x := by
  unfold PcV TbV FnV VrV
  simp only [a_sort, a_tag, a_first, a_second, a_third, a_chain, a_free, a_text, a_heads, a_ek, a_ev, a_vk, a_vv, a_follow, a_bucket, a_registers, f_used, v_variable_k, v_variable_v, v_stack_k, v_stack_v, v_row_k, v_row_v, v_start_n, v_start_k, v_start_v, t_place, t_frames, t_openCount, t_open, t_kind, t_function, t_base, t_extra, t_rowCount, p_ek, p_vk, p_ev, p_vv, p_follow, hs.1, hs.2.1, hs.I 34 (by decide), hs.I 38 (by decide), hs.I 40 (by decide), hs.I 41 (by decide), hs.I 54 (by decide), hs.I 3202 (by decide), hs.I 3584 (by decide), hs.I 3586 (by decide), hs.I 3587 (by decide), hs.I 8959 (by decide), hs.I 9087 (by decide), hs.I 9215 (by decide), hs.I 9343 (by decide), hs.I 9471 (by decide), hs.I 9599 (by decide), Lv.hs hs, Vl.hs hs, ThV.hs hs]
theorem Ts.hs {s s' : S1} {t : Int32} (hs : Hs s s') : Ts s' t ↔ Ts s t := by
  unfold Ts FrS
  simp only [a_sort, a_tag, a_first, a_second, a_third, a_chain, a_free, a_text, a_heads, a_ek, a_ev, a_vk, a_vv, a_follow, a_bucket, a_registers, f_used, v_variable_k, v_variable_v, v_stack_k, v_stack_v, v_row_k, v_row_v, v_start_n, v_start_k, v_start_v, t_place, t_frames, t_openCount, t_open, t_kind, t_function, t_base, t_extra, t_rowCount, p_ek, p_vk, p_ev, p_vv, p_follow, hs.1, hs.2.1, hs.I 34 (by decide), hs.I 38 (by decide), hs.I 40 (by decide), hs.I 41 (by decide), hs.I 54 (by decide), hs.I 3202 (by decide), hs.I 3584 (by decide), hs.I 3586 (by decide), hs.I 3587 (by decide), hs.I 8959 (by decide), hs.I 9087 (by decide), hs.I 9215 (by decide), hs.I 9343 (by decide), hs.I 9471 (by decide), hs.I 9599 (by decide)]
theorem Sh.hs {s s' : S1} {x : Int32} (hs : Hs s s') : Sh s' x ↔ Sh s x := by
  unfold Sh
  simp only [a_sort, a_tag, a_first, a_second, a_third, a_chain, a_free, a_text, a_heads, a_ek, a_ev, a_vk, a_vv, a_follow, a_bucket, a_registers, f_used, v_variable_k, v_variable_v, v_stack_k, v_stack_v, v_row_k, v_row_v, v_start_n, v_start_k, v_start_v, t_place, t_frames, t_openCount, t_open, t_kind, t_function, t_base, t_extra, t_rowCount, p_ek, p_vk, p_ev, p_vv, p_follow, f_entryTop, hs.1, hs.2.1, hs.I 34 (by decide), hs.I 38 (by decide), hs.I 40 (by decide), hs.I 41 (by decide), hs.I 54 (by decide), hs.I 3202 (by decide), hs.I 3584 (by decide), hs.I 3586 (by decide), hs.I 3587 (by decide), hs.I 8959 (by decide), hs.I 9087 (by decide), hs.I 9215 (by decide), hs.I 9343 (by decide), hs.I 9471 (by decide), hs.I 9599 (by decide), Ts.hs hs]
theorem Hv.hs {s s' : S1} (hs : Hs s s') : Hv s' ↔ Hv s := by
  unfold Hv Rm
  simp only [a_sort, a_tag, a_first, a_second, a_third, a_chain, a_free, a_text, a_heads, a_ek, a_ev, a_vk, a_vv, a_follow, a_bucket, a_registers, f_used, v_variable_k, v_variable_v, v_stack_k, v_stack_v, v_row_k, v_row_v, v_start_n, v_start_k, v_start_v, t_place, t_frames, t_openCount, t_open, t_kind, t_function, t_base, t_extra, t_rowCount, p_ek, p_vk, p_ev, p_vv, p_follow, p_bucket, f_entryTop, hs.1, hs.2.1, hs.I 34 (by decide), hs.I 38 (by decide), hs.I 40 (by decide), hs.I 41 (by decide), hs.I 54 (by decide), hs.I 3202 (by decide), hs.I 3584 (by decide), hs.I 3586 (by decide), hs.I 3587 (by decide), hs.I 8959 (by decide), hs.I 9087 (by decide), hs.I 9215 (by decide), hs.I 9343 (by decide), hs.I 9471 (by decide), hs.I 9599 (by decide), Sh.hs hs, PcV.hs hs]
theorem Str.hs {s s' : S1} (h : Str s) (hs : Hs s s') : Str s' := h.sq ⟨fun a j _ => hs.1 a 0 j, hs.I 40 (by decide) 0, hs.I 38 (by decide) 0⟩
theorem Frl.hs {s s' : S1} (hs : Hs s s') : Frl s' ↔ Frl s := by
  unfold Frl
  simp only [a_sort, a_tag, a_first, a_second, a_third, a_chain, a_free, a_text, a_heads, a_ek, a_ev, a_vk, a_vv, a_follow, a_bucket, a_registers, f_used, v_variable_k, v_variable_v, v_stack_k, v_stack_v, v_row_k, v_row_v, v_start_n, v_start_k, v_start_v, t_place, t_frames, t_openCount, t_open, t_kind, t_function, t_base, t_extra, t_rowCount, p_ek, p_vk, p_ev, p_vv, p_follow, f_freed, f_existing, hs.1, hs.2.1, hs.I 34 (by decide), hs.I 38 (by decide), hs.I 40 (by decide), hs.I 41 (by decide), hs.I 54 (by decide), hs.I 3202 (by decide), hs.I 3584 (by decide), hs.I 3586 (by decide), hs.I 3587 (by decide), hs.I 8959 (by decide), hs.I 9087 (by decide), hs.I 9215 (by decide), hs.I 9343 (by decide), hs.I 9471 (by decide), hs.I 9599 (by decide)]
theorem Ov.hs {s s' : S1} (hs : Hs s s') : Ov s' ↔ Ov s := by
  unfold Ov
  simp only [a_sort, a_tag, a_first, a_second, a_third, a_chain, a_free, a_text, a_heads, a_ek, a_ev, a_vk, a_vv, a_follow, a_bucket, a_registers, f_used, v_variable_k, v_variable_v, v_stack_k, v_stack_v, v_row_k, v_row_v, v_start_n, v_start_k, v_start_v, t_place, t_frames, t_openCount, t_open, t_kind, t_function, t_base, t_extra, t_rowCount, p_ek, p_vk, p_ev, p_vv, p_follow, hs.1, hs.2.1, hs.I 34 (by decide), hs.I 38 (by decide), hs.I 40 (by decide), hs.I 41 (by decide), hs.I 54 (by decide), hs.I 3202 (by decide), hs.I 3584 (by decide), hs.I 3586 (by decide), hs.I 3587 (by decide), hs.I 8959 (by decide), hs.I 9087 (by decide), hs.I 9215 (by decide), hs.I 9343 (by decide), hs.I 9471 (by decide), hs.I 9599 (by decide), Lv.hs hs]
theorem Cv.hs {s s' : S1} (hs : Hs s s') : Cv s' ↔ Cv s := by
  unfold Cv
  simp only [a_sort, a_tag, a_first, a_second, a_third, a_chain, a_free, a_text, a_heads, a_ek, a_ev, a_vk, a_vv, a_follow, a_bucket, a_registers, f_used, v_variable_k, v_variable_v, v_stack_k, v_stack_v, v_row_k, v_row_v, v_start_n, v_start_k, v_start_v, t_place, t_frames, t_openCount, t_open, t_kind, t_function, t_base, t_extra, t_rowCount, p_ek, p_vk, p_ev, p_vv, p_follow, hs.1, hs.2.1, hs.I 34 (by decide), hs.I 38 (by decide), hs.I 40 (by decide), hs.I 41 (by decide), hs.I 54 (by decide), hs.I 3202 (by decide), hs.I 3584 (by decide), hs.I 3586 (by decide), hs.I 3587 (by decide), hs.I 8959 (by decide), hs.I 9087 (by decide), hs.I 9215 (by decide), hs.I 9343 (by decide), hs.I 9471 (by decide), hs.I 9599 (by decide), Lv.hs hs]
theorem Tp.hs {s s' : S1} (hs : Hs s s') : Tp s' ↔ Tp s := by
  unfold Tp
  simp only [a_sort, a_tag, a_first, a_second, a_third, a_chain, a_free, a_text, a_heads, a_ek, a_ev, a_vk, a_vv, a_follow, a_bucket, a_registers, f_used, v_variable_k, v_variable_v, v_stack_k, v_stack_v, v_row_k, v_row_v, v_start_n, v_start_k, v_start_v, t_place, t_frames, t_openCount, t_open, t_kind, t_function, t_base, t_extra, t_rowCount, p_ek, p_vk, p_ev, p_vv, p_follow, hs.1, hs.2.1, hs.I 34 (by decide), hs.I 38 (by decide), hs.I 40 (by decide), hs.I 41 (by decide), hs.I 54 (by decide), hs.I 3202 (by decide), hs.I 3584 (by decide), hs.I 3586 (by decide), hs.I 3587 (by decide), hs.I 8959 (by decide), hs.I 9087 (by decide), hs.I 9215 (by decide), hs.I 9343 (by decide), hs.I 9471 (by decide), hs.I 9599 (by decide), Lv.hs hs]
/-- the heap without its roots -/
def Hq (s : S1) : Prop := Hv s ∧ Str s ∧ Frl s ∧ Ov s ∧ Cv s ∧ Tp s ∧ 0 ≤ f_used s ∧ f_used s ≤ 4000
theorem Hp.q {s : S1} (h : Hp s) : Hq s := ⟨h.1, h.2.1, h.2.2.1, h.2.2.2.1, h.2.2.2.2.1, h.2.2.2.2.2.1, h.2.2.2.2.2.2.1.2.2.2.2.2.2⟩
theorem Hp.mk {s : S1} (h : Hq s) (h1 : RtS s) (h2 : RtV false s) : Hp s := ⟨h.1, h.2.1, h.2.2.1, h.2.2.2.1, h.2.2.2.2.1, h.2.2.2.2.2.1, h1, h2⟩
theorem Hq.hs {s s' : S1} (h : Hq s) (hs : Hs s s') : Hq s' := by
  obtain ⟨h1, h2, h3, h4, h5, h6, h7⟩ := h
  refine ⟨(Hv.hs hs).mpr h1, h2.hs hs, (Frl.hs hs).mpr h3, (Ov.hs hs).mpr h4, (Cv.hs hs).mpr h5, (Tp.hs hs).mpr h6, ?_⟩
  show 0 ≤ gI s' 40 0 ∧ gI s' 40 0 ≤ 4000
  rw [hs.I 40 (by decide)]
  exact h7
/-- the heap, and its roots where a collection may come -/
def Gm (s : S1) : Prop := Hq s ∧ (f_noCollection s = 0 → RtS s ∧ RtV false s)
theorem raise_ok (s : S1) (n : Int32) : ok (M_Mo_raise n) s (fun v s' => v = -1 ∧ s' = sI (sL (sI s 64 0 3) 65 0 n.toInt64) 73 0 (if n = 11 then 4 else 3)) := by
  simp only [M_Mo_raise, M_Mo_raise_j23, ok_B, ok_C, ok_R, ok_L, ok_K, ok_GI, ok_GL, ok_PI, ok_PL, ok_AI, ok_AL, ok_SI, ok_SL, ok_Pr, ok_CI, cmp_lt, cmp_le, cmp_gt, cmp_ge, cmp_eq, nar0, nar1, Sum.elim_inl, Sum.elim_inr]
  refine ⟨fun c => ⟨by trivial, ?_⟩, fun c => ⟨by trivial, ?_⟩⟩
  · rw [if_pos c]
  · rw [if_neg c]
theorem Gm.raise {s : S1} (h : Gm s) (n c : Int32) : Gm (sI (sL (sI s 64 0 3) 65 0 n.toInt64) 73 0 c) := by
  have hs : Hs s (sI (sL (sI s 64 0 3) 65 0 n.toInt64) 73 0 c) := ⟨fun _ _ _ => rfl, fun _ _ _ => rfl, fun f i hf => by
    rw [gI_sI, if_neg, gI_sL, gI_sI, if_neg]
    · rintro ⟨w, -⟩
      subst w
      exact absurd hf (by decide)
    · rintro ⟨w, -⟩
      subst w
      exact absurd hf (by decide)⟩
  refine ⟨h.1.hs hs, fun z => ?_⟩
  have z' : f_noCollection s = 0 := by
    simp only [f_noCollection, gI_sI, gI_sL, gI_sA, gI_sB, gI_sAf, gI_sBf, gL_sI, gL_sL, gL_sA, gL_sB, gL_sAf, gL_sBf, gA_sI, gA_sL, gA_sA, gA_sB, gA_sAf, gA_sBf, gB_sI, gB_sL, gB_sA, gB_sB, gB_sAf, gB_sBf, Nat.reduceEqDiff, Nat.reduceMul, Nat.reduceAdd, false_and, true_and, and_true, and_false, if_true, if_false] at z
    exact z
  obtain ⟨⟨r1, ⟨ρ, r2⟩, r3⟩, v1, v2, v3, v4, v5, v6, v7, v8, v9, v10⟩ := h.2 z'
  have e := chN_I (s := s) (s' := sI (sL (sI s 64 0 3) 65 0 n.toInt64) 73 0 c) (by simp only [gI_sI, gI_sL, gI_sA, gI_sB, gI_sAf, gI_sBf, gL_sI, gL_sL, gL_sA, gL_sB, gL_sAf, gL_sBf, gA_sI, gA_sL, gA_sA, gA_sB, gA_sAf, gA_sBf, gB_sI, gB_sL, gB_sA, gB_sB, gB_sAf, gB_sBf, Nat.reduceEqDiff, Nat.reduceMul, Nat.reduceAdd, false_and, true_and, and_true, and_false, if_true, if_false]) (fun i => by simp only [gI_sI, gI_sL, gI_sA, gI_sB, gI_sAf, gI_sBf, gL_sI, gL_sL, gL_sA, gL_sB, gL_sAf, gL_sBf, gA_sI, gA_sL, gA_sA, gA_sB, gA_sAf, gA_sBf, gB_sI, gB_sL, gB_sA, gB_sB, gB_sAf, gB_sBf, Nat.reduceEqDiff, Nat.reduceMul, Nat.reduceAdd, false_and, true_and, and_true, and_false, if_true, if_false])
  constructor
  · unfold RtS Rk at *
    simp only [f_current, t_resumer, v_hand_n, v_args_n, v_results_n, v_ended_n, f_used, gI_sI, gI_sL, gI_sA, gI_sB, gI_sAf, gI_sBf, gL_sI, gL_sL, gL_sA, gL_sB, gL_sAf, gL_sBf, gA_sI, gA_sL, gA_sA, gA_sB, gA_sAf, gA_sBf, gB_sI, gB_sL, gB_sA, gB_sB, gB_sAf, gB_sBf, Nat.reduceEqDiff, Nat.reduceMul, Nat.reduceAdd, false_and, true_and, and_true, and_false, if_true, if_false] at *
    exact ⟨r1, ⟨ρ, r2⟩, r3⟩
  · unfold RtV RwV at *
    simp only [e, Lv.hs hs, Vl.hs hs, Wl.hs hs] at *
    simp only [f_globals, t_place, f_errorKind, f_errorValue, f_calledKind, f_called, a_sort, a_fixed, a_marked, f_used, gI_sI, gI_sL, gI_sA, gI_sB, gI_sAf, gI_sBf, gL_sI, gL_sL, gL_sA, gL_sB, gL_sAf, gL_sBf, gA_sI, gA_sL, gA_sA, gA_sB, gA_sAf, gA_sBf, gB_sI, gB_sL, gB_sA, gB_sB, gB_sAf, gB_sBf, Nat.reduceEqDiff, Nat.reduceMul, Nat.reduceAdd, false_and, true_and, and_true, and_false, if_true, if_false] at *
    exact ⟨v1, v2, v3, v4, v5, v6, Or.inl ⟨by decide, by decide⟩, v8, v9, fun _ _ _ _ _ z => by cases z⟩
