/-! One grey place is followed. -/
def Rm (s : S1) : Prop := p_ek s = 1 ∧ p_vk s = 1 ∧ p_ev s = 1 ∧ p_vv s = 1 ∧ p_follow s = 1 ∧ p_bucket s = 1
theorem Rm.step {s s' : S1} (h : Rm s) (hs : MStep s s') : Rm s' := by
  unfold Rm at *
  simp only [a_sort, a_tag, a_first, a_second, a_third, a_chain, a_free, a_text, a_heads, a_ek, a_ev, a_vk, a_vv, a_follow, a_bucket, a_registers, f_used, v_variable_k, v_variable_v, v_stack_k, v_stack_v, v_row_k, v_row_v, v_start_n, v_start_k, v_start_v, t_place, t_frames, t_openCount, t_open, t_kind, t_function, t_base, t_extra, t_rowCount, p_ek, p_vk, p_ev, p_vv, p_follow, p_bucket, hs.A 5 (by decide), hs.A 20 (by decide), hs.A 23 (by decide), hs.A 26 (by decide), hs.A 29 (by decide), hs.A 30 (by decide), hs.A 31 (by decide), hs.A 32 (by decide), hs.A 33 (by decide), hs.A 34 (by decide), hs.A 35 (by decide), hs.A 36 (by decide), hs.A 44 (by decide), hs.A 58 (by decide), hs.A 60 (by decide), hs.A 61 (by decide), hs.A 62 (by decide), hs.A 63 (by decide), hs.A 64 (by decide), hs.A 65 (by decide), hs.A 66 (by decide), hs.A 67 (by decide), hs.A 68 (by decide), hs.A 69 (by decide), hs.A 70 (by decide), hs.A 73 (by decide), hs.B 6, hs.B 21, hs.B 24, hs.B 27, hs.B 71, hs.B 72, hs.I 40 (by decide), hs.I 3202 (by decide), hs.I 3584 (by decide), hs.I 3586 (by decide), hs.I 3587 (by decide), hs.I 8959 (by decide), hs.I 9087 (by decide), hs.I 9215 (by decide), hs.I 9343 (by decide), hs.I 9471 (by decide), hs.I 9599 (by decide)] at *
  exact h
theorem followT_ok (s : S1) (x : Int32) (hg : Grey s) (hx : 0 ≤ x ∧ x < f_used s) (hp : Rm s) (hb : 0 ≤ a_first s x ∧ 0 ≤ a_third s x ∧ a_first s x ≤ 300000 ∧ a_third s x ≤ 300000 ∧ a_first s x + a_third s x ≤ 300000)
    (hv : ∀ k, a_first s x ≤ k → k < a_first s x + a_third s x → Vl false s (a_ek s k) (a_ev s k) ∧ Vl false s (a_vk s k) (a_vv s k)) :
    ok (oW M_Mo_follow_L53 (x, a_first s x)) s (fun _ s' => Grey s' ∧ MStep s s' ∧ ∀ k, a_first s x ≤ k → k < a_first s x + a_third s x → Vl true s' (a_ek s k) (a_ev s k) ∧ Vl true s' (a_vk s k) (a_vv s k)) := by
  refine ok_W (fun y s' => y.1 = x ∧ (a_first s x ≤ y.2 ∧ y.2 ≤ a_first s x + a_third s x) ∧ Grey s' ∧ MStep s s' ∧ ∀ k, a_first s x ≤ k → k < y.2 → Vl true s' (a_ek s k) (a_ev s k) ∧ Vl true s' (a_vk s k) (a_vv s k))
    (fun y _ => (a_first s x + a_third s x - y.2).toNatClampNeg) ?_ _ _ ⟨rfl, ⟨by clear hv; grind, by clear hv; grind⟩, hg, MStep.refl s, fun k a b => by clear hv; grind⟩
  rintro ⟨x', i⟩ s1 ⟨e1, ⟨h1, h2⟩, hg1, hs, hm⟩
  dsimp only at e1 h1 h2 hm
  subst e1
  have hu := hg.1
  have hp1 := hp.step hs
  have hx1 : 0 ≤ x' ∧ x' < 4100 := by clear hm hv hs; grind
  simp only [M_Mo_follow_L53, ok_B, ok_C, ok_R, ok_L, ok_K, ok_GI, ok_GL, ok_PI, ok_PL, ok_AI, ok_AL, ok_SI, ok_SL, ok_Pr, ok_CI, cmp_lt, cmp_le, cmp_gt, cmp_ge, cmp_eq, nar0, nar1, Sum.elim_inl, Sum.elim_inr]
  unfold Rm at hp1
  simp only [a_sort, a_tag, a_first, a_second, a_third, a_chain, a_free, a_text, a_heads, a_ek, a_ev, a_vk, a_vv, a_follow, a_bucket, a_registers, f_used, v_variable_k, v_variable_v, v_stack_k, v_stack_v, v_row_k, v_row_v, v_start_n, v_start_k, v_start_v, t_place, t_frames, t_openCount, t_open, t_kind, t_function, t_base, t_extra, t_rowCount, p_ek, p_vk, p_ev, p_vv, p_follow, p_bucket, hs.A 5 (by decide), hs.A 20 (by decide), hs.A 23 (by decide), hs.A 26 (by decide), hs.A 29 (by decide), hs.A 30 (by decide), hs.A 31 (by decide), hs.A 32 (by decide), hs.A 33 (by decide), hs.A 34 (by decide), hs.A 35 (by decide), hs.A 36 (by decide), hs.A 44 (by decide), hs.A 58 (by decide), hs.A 60 (by decide), hs.A 61 (by decide), hs.A 62 (by decide), hs.A 63 (by decide), hs.A 64 (by decide), hs.A 65 (by decide), hs.A 66 (by decide), hs.A 67 (by decide), hs.A 68 (by decide), hs.A 69 (by decide), hs.A 70 (by decide), hs.A 73 (by decide), hs.B 6, hs.B 21, hs.B 24, hs.B 27, hs.B 71, hs.B 72, hs.I 40 (by decide), hs.I 3202 (by decide), hs.I 3584 (by decide), hs.I 3586 (by decide), hs.I 3587 (by decide), hs.I 8959 (by decide), hs.I 9087 (by decide), hs.I 9215 (by decide), hs.I 9343 (by decide), hs.I 9471 (by decide)] at *
  refine ⟨hx1, hx1, fun c => ⟨hg1, hs, fun k a b => hm k a (by clear hm hv hs; grind)⟩, fun c => ⟨hp1.1, ?_, hp1.2.2.1, ?_, ?_⟩⟩
  · clear hm hv hs
    grind
  · clear hm hv hs
    grind
  have hi := hv i h1 (by clear hm hv hs; grind)
  refine ok_mono (mark_ok s1 _ _ hg1 ((hi.1.step hs).lo)) fun _ s2 ⟨hg2, hs2, hk2⟩ => ?_
  have hs02 := hs.trans hs2 hg.2.1
  have hp2 := hp.step hs02
  unfold Rm at hp2
  simp only [p_vk, p_vv, p_ek, p_ev, p_follow, p_bucket] at hp2
  refine ⟨hp2.2.1, ?_, hp2.2.2.2.1, ?_, ?_⟩
  · clear hm hv hs hs2 hs02
    grind
  · clear hm hv hs hs2 hs02
    grind
  rw [hs02.A 70 (by decide), hs02.B 72]
  refine ok_mono (mark_ok s2 _ _ hg2 ((hi.2.step hs02).lo)) fun _ s3 ⟨hg3, hs3, hk3⟩ => ?_
  have hs03 := hs02.trans hs3 hg.2.1
  refine ⟨⟨by trivial, ⟨?_, ?_⟩, hg3, hs03, fun k a b => ?_⟩, ?_⟩
  · clear hm hv hs hs2 hs02 hs3 hs03
    grind
  · clear hm hv hs hs2 hs02 hs3 hs03
    grind
  · by_cases hk : k = i
    · subst hk
      exact ⟨(hi.1.mk hs02 hk2).step hs3, hi.2.mk hs03 hk3⟩
    · have := hm k a (by clear hm hv hs hs2 hs02 hs3 hs03; grind)
      exact ⟨(this.1.step hs2).step hs3, (this.2.step hs2).step hs3⟩
  · clear hm hv hs hs2 hs02 hs3 hs03
    exact clamp_lt (by grind) (by grind)
theorem followF_ok (s : S1) (x : Int32) (hg : Grey s) (hx : 0 ≤ x ∧ x < f_used s) (hp : Rm s) (hb : 0 ≤ a_second s x ∧ 0 ≤ a_third s x ∧ a_second s x ≤ 300000 ∧ a_third s x ≤ 300000 ∧ a_second s x + a_third s x ≤ 300000)
    (hv : ∀ k, 0 ≤ k → k < a_third s x → Lv false s (a_follow s (a_second s x + k)) 8) :
    ok (oW M_Mo_follow_L135 (x, 0)) s (fun _ s' => Grey s' ∧ MStep s s' ∧ ∀ k, 0 ≤ k → k < a_third s x → Lv true s' (a_follow s (a_second s x + k)) 8) := by
  refine ok_W (fun y s' => y.1 = x ∧ (0 ≤ y.2 ∧ y.2 ≤ a_third s x) ∧ Grey s' ∧ MStep s s' ∧ ∀ k, 0 ≤ k → k < y.2 → Lv true s' (a_follow s (a_second s x + k)) 8)
    (fun y _ => (a_third s x - y.2).toNatClampNeg) ?_ _ _ ⟨rfl, ⟨by clear hv; grind, by clear hv; grind⟩, hg, MStep.refl s, fun k a b => by clear hv; grind⟩
  rintro ⟨x', i⟩ s1 ⟨e1, ⟨h1, h2⟩, hg1, hs, hm⟩
  dsimp only at e1 h1 h2 hm
  subst e1
  have hu := hg.1
  have hp1 := hp.step hs
  have hx1 : 0 ≤ x' ∧ x' < 4100 := by clear hm hv hs; grind
  simp only [M_Mo_follow_L135, ok_B, ok_C, ok_R, ok_L, ok_K, ok_GI, ok_GL, ok_PI, ok_PL, ok_AI, ok_AL, ok_SI, ok_SL, ok_Pr, ok_CI, cmp_lt, cmp_le, cmp_gt, cmp_ge, cmp_eq, nar0, nar1, Sum.elim_inl, Sum.elim_inr]
  unfold Rm at hp1
  simp only [a_sort, a_tag, a_first, a_second, a_third, a_chain, a_free, a_text, a_heads, a_ek, a_ev, a_vk, a_vv, a_follow, a_bucket, a_registers, f_used, v_variable_k, v_variable_v, v_stack_k, v_stack_v, v_row_k, v_row_v, v_start_n, v_start_k, v_start_v, t_place, t_frames, t_openCount, t_open, t_kind, t_function, t_base, t_extra, t_rowCount, p_ek, p_vk, p_ev, p_vv, p_follow, p_bucket, hs.A 5 (by decide), hs.A 20 (by decide), hs.A 23 (by decide), hs.A 26 (by decide), hs.A 29 (by decide), hs.A 30 (by decide), hs.A 31 (by decide), hs.A 32 (by decide), hs.A 33 (by decide), hs.A 34 (by decide), hs.A 35 (by decide), hs.A 36 (by decide), hs.A 44 (by decide), hs.A 58 (by decide), hs.A 60 (by decide), hs.A 61 (by decide), hs.A 62 (by decide), hs.A 63 (by decide), hs.A 64 (by decide), hs.A 65 (by decide), hs.A 66 (by decide), hs.A 67 (by decide), hs.A 68 (by decide), hs.A 69 (by decide), hs.A 70 (by decide), hs.A 73 (by decide), hs.B 6, hs.B 21, hs.B 24, hs.B 27, hs.B 71, hs.B 72, hs.I 40 (by decide), hs.I 3202 (by decide), hs.I 3584 (by decide), hs.I 3586 (by decide), hs.I 3587 (by decide), hs.I 8959 (by decide), hs.I 9087 (by decide), hs.I 9215 (by decide), hs.I 9343 (by decide), hs.I 9471 (by decide)] at *
  refine ⟨hx1, fun c => ⟨hg1, hs, fun k a b => hm k a (by clear hm hv hs; grind)⟩, fun c => ⟨hp1.2.2.2.2.1, hx1, ?_, ?_⟩⟩
  · clear hm hv hs
    grind
  have hi := hv i h1 (by clear hm hv hs; grind)
  refine ok_mono (place_ok s1 _ hg1 (hi.step hs).2.1) fun _ s2 ⟨hg2, hs2, hk2⟩ => ?_
  have hs02 := hs.trans hs2 hg.2.1
  refine ⟨⟨by trivial, ⟨?_, ?_⟩, hg2, hs02, fun k a b => ?_⟩, ?_⟩
  · clear hm hv hs hs2 hs02
    grind
  · clear hm hv hs hs2 hs02
    grind
  · by_cases hk : k = i
    · subst hk
      exact hi.mk hs02 (hk2 hi.1)
    · exact (hm k a (by clear hm hv hs hs2 hs02; grind)).step hs2
  · clear hm hv hs hs2 hs02
    exact clamp_lt (by grind) (by grind)
/-- a variable's value is looked up -/
def ldK (s : S1) (x : Int32) : Int32 := if 0 ≤ a_first s x then v_stack_k s (a_first s x) (a_second s x) else v_variable_k s x
def ldV (s : S1) (x : Int32) : Int64 := if 0 ≤ a_first s x then v_stack_v s (a_first s x) (a_second s x) else v_variable_v s x
theorem q_load_ok (s : S1) (x : Int32) (hx : 0 ≤ x ∧ x < 4100) (hb : a_first s x < 33 ∧ (0 ≤ a_first s x → 0 ≤ a_second s x ∧ a_second s x < 4300)) :
    ok (M_Mo_load x) s (fun _ s' => s' = sL (sI s 66 0 (ldK s x)) 67 0 (ldV s x)) := by
  simp only [M_Mo_load, ok_B, ok_C, ok_R, ok_L, ok_K, ok_GI, ok_GL, ok_PI, ok_PL, ok_AI, ok_AL, ok_SI, ok_SL, ok_Pr, ok_CI, cmp_lt, cmp_le, cmp_gt, cmp_ge, cmp_eq, nar0, nar1, Sum.elim_inl, Sum.elim_inr, ldK, ldV, a_sort, a_tag, a_first, a_second, a_third, a_chain, a_free, a_text, a_heads, a_ek, a_ev, a_vk, a_vv, a_follow, a_bucket, a_registers, f_used, v_variable_k, v_variable_v, v_stack_k, v_stack_v, v_row_k, v_row_v, v_start_n, v_start_k, v_start_v, t_place, t_frames, t_openCount, t_open, t_kind, t_function, t_base, t_extra, t_rowCount, p_ek, p_vk, p_ev, p_vv, p_follow, gI_sI, gI_sL, gI_sA, gI_sB, gI_sAf, gI_sBf, gL_sI, gL_sL, gL_sA, gL_sB, gL_sAf, gL_sBf, gA_sI, gA_sL, gA_sA, gA_sB, gA_sAf, gA_sBf, gB_sI, gB_sL, gB_sA, gB_sB, gB_sAf, gB_sBf, Nat.reduceEqDiff, Nat.reduceMul, Nat.reduceAdd, false_and, true_and, and_true, and_false, if_true, if_false] at *
  refine ⟨hx, fun c => ⟨hx, ⟨c, hb.1⟩, hx, hb.2 c, hx, hb.2 c, ?_⟩, fun c => ⟨hx, hx, ?_⟩⟩
  · rw [if_pos c, if_pos c]
  · rw [if_neg c, if_neg c]
theorem MStep.got {s : S1} (k : Int32) (v : Int64) : MStep s (sL (sI s 66 0 k) 67 0 v) := by
  refine ⟨⟨fun f i a b => ?_, fun f i a => ?_, fun a i j _ _ => rfl, fun a i j => rfl⟩, fun _ h => h, ?_, fun _ _ _ => rfl, fun _ h => Or.inl h, rfl⟩
  · simp only [gI_sI, gI_sL, gI_sA, gI_sB, gI_sAf, gI_sBf, gL_sI, gL_sL, gL_sA, gL_sB, gL_sAf, gL_sBf, gA_sI, gA_sL, gA_sA, gA_sB, gA_sAf, gA_sBf, gB_sI, gB_sL, gB_sA, gB_sB, gB_sAf, gB_sBf, Nat.reduceEqDiff, Nat.reduceMul, Nat.reduceAdd, false_and, true_and, and_true, and_false, if_true, if_false]
    rw [if_neg (fun z => a z.1)]
  · simp only [gI_sI, gI_sL, gI_sA, gI_sB, gI_sAf, gI_sBf, gL_sI, gL_sL, gL_sA, gL_sB, gL_sAf, gL_sBf, gA_sI, gA_sL, gA_sA, gA_sB, gA_sAf, gA_sBf, gB_sI, gB_sL, gB_sA, gB_sB, gB_sAf, gB_sBf, Nat.reduceEqDiff, Nat.reduceMul, Nat.reduceAdd, false_and, true_and, and_true, and_false, if_true, if_false]
    rw [if_neg (fun z => a z.1)]
  · show f_greys s ≤ f_greys s
    grind
theorem Grey.got {s : S1} (h : Grey s) (k : Int32) (v : Int64) : Grey (sL (sI s 66 0 k) 67 0 v) := h
theorem VrV.ld {m : Bool} {s : S1} {x : Int32} (h : VrV m s x) : Vl m s (ldK s x) (ldV s x) := by
  unfold ldK ldV
  by_cases c : 0 ≤ a_first s x
  · rw [if_pos c, if_pos c]
    exact h.2 c
  · rw [if_neg c, if_neg c]
    exact h.1 (by grind)
theorem VrV.of {m : Bool} {s : S1} {x : Int32} (h : Vl m s (ldK s x) (ldV s x)) : VrV m s x := by
  unfold ldK ldV at h
  refine ⟨fun c => ?_, fun c => ?_⟩
  · have c' : ¬ 0 ≤ a_first s x := by grind
    rw [if_neg c', if_neg c'] at h
    exact h
  · rw [if_pos c, if_pos c] at h
    exact h
