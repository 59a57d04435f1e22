/-! A thread's frames, rows and open variables are followed. -/
theorem markV_ok (s : S1) (r : Nat) (u a n : Int32) (h : Grey s) (hl1 : lnI (r + 1) ≤ 20001) (hl2 : lnI (r + 1) = lnI (r + 2)) (ha : 0 ≤ a ∧ a ≤ 20001) (hn : 0 ≤ n ∧ n ≤ 20001) (hl : a + n ≤ lnI (r + 1))
    (hne : r + 1 ≠ 59 ∧ r + 1 ≠ 75) (hv : ∀ i, a ≤ i → i < a + n → Vl false s (gA s (r + 1) u i) (gB s (r + 2) u i)) :
    ok (M_Mo_markRow r u a n) s (fun _ s' => Grey s' ∧ MStep s s' ∧ ∀ i, a ≤ i → i < a + n → Vl true s' (gA s (r + 1) u i) (gB s (r + 2) u i)) :=
  ok_mono (markRow_ok s r u a n h hl1 hl2 ha hn hl hne fun i x y => (hv i x y).lo) fun _ s' ⟨h1, h2, h3⟩ => ⟨h1, h2, fun i x y => (hv i x y).mk h2 (h3 i x y)⟩
def FrS (s : S1) (t f : Int32) : Prop := t_kind s t f = 0 → (0 ≤ t_function s t f ∧ t_function s t f < 4100) ∧ (0 ≤ a_first s (t_function s t f) ∧ a_first s (t_function s t f) < 251) ∧ (0 ≤ t_extra s t f ∧ t_extra s t f ≤ t_base s t f ∧ t_base s t f ≤ 4000) ∧
  (0 ≤ a_registers s (a_first s (t_function s t f)) ∧ a_registers s (a_first s (t_function s t f)) ≤ 255 ∧ t_base s t f + a_registers s (a_first s (t_function s t f)) ≤ 4000) ∧ 0 ≤ t_rowCount s t f ∧ t_rowCount s t f ≤ 260
def Ts (s : S1) (t : Int32) : Prop := (0 ≤ v_start_n s t ∧ v_start_n s t ≤ 260) ∧ (0 ≤ t_frames s t ∧ t_frames s t ≤ 200) ∧ (0 ≤ t_openCount s t ∧ t_openCount s t ≤ 4100) ∧ ∀ f, 0 ≤ f → f < t_frames s t → FrS s t f
theorem FrS.step {s s' : S1} {t f : Int32} (h : FrS s t f) (hs : MStep s s') : FrS s' t f := by
  unfold FrS at *
  simp only [a_sort, a_tag, a_first, a_second, a_third, a_chain, a_free, a_text, a_heads, a_ek, a_ev, a_vk, a_vv, a_follow, a_bucket, a_registers, f_used, v_variable_k, v_variable_v, v_stack_k, v_stack_v, v_row_k, v_row_v, v_start_n, v_start_k, v_start_v, t_place, t_frames, t_openCount, t_open, t_kind, t_function, t_base, t_extra, t_rowCount, p_ek, p_vk, p_ev, p_vv, p_follow, hs.A 5 (by decide), hs.A 20 (by decide), hs.A 23 (by decide), hs.A 26 (by decide), hs.A 29 (by decide), hs.A 30 (by decide), hs.A 31 (by decide), hs.A 32 (by decide), hs.A 33 (by decide), hs.A 34 (by decide), hs.A 35 (by decide), hs.A 36 (by decide), hs.A 44 (by decide), hs.A 58 (by decide), hs.A 60 (by decide), hs.A 61 (by decide), hs.A 62 (by decide), hs.A 63 (by decide), hs.A 64 (by decide), hs.A 65 (by decide), hs.A 66 (by decide), hs.A 67 (by decide), hs.A 68 (by decide), hs.A 69 (by decide), hs.A 70 (by decide), hs.A 73 (by decide), hs.B 6, hs.B 21, hs.B 24, hs.B 27, hs.B 71, hs.B 72, hs.I 40 (by decide), hs.I 3202 (by decide), hs.I 3584 (by decide), hs.I 3586 (by decide), hs.I 3587 (by decide), hs.I 8959 (by decide), hs.I 9087 (by decide), hs.I 9215 (by decide), hs.I 9343 (by decide), hs.I 9471 (by decide)] at *
  exact h
theorem Ts.step {s s' : S1} {t : Int32} (h : Ts s t) (hs : MStep s s') : Ts s' t := by
  obtain ⟨h1, h2, h3, h4⟩ := h
  unfold Ts
  simp only [a_sort, a_tag, a_first, a_second, a_third, a_chain, a_free, a_text, a_heads, a_ek, a_ev, a_vk, a_vv, a_follow, a_bucket, a_registers, f_used, v_variable_k, v_variable_v, v_stack_k, v_stack_v, v_row_k, v_row_v, v_start_n, v_start_k, v_start_v, t_place, t_frames, t_openCount, t_open, t_kind, t_function, t_base, t_extra, t_rowCount, p_ek, p_vk, p_ev, p_vv, p_follow, hs.A 5 (by decide), hs.A 20 (by decide), hs.A 23 (by decide), hs.A 26 (by decide), hs.A 29 (by decide), hs.A 30 (by decide), hs.A 31 (by decide), hs.A 32 (by decide), hs.A 33 (by decide), hs.A 34 (by decide), hs.A 35 (by decide), hs.A 36 (by decide), hs.A 44 (by decide), hs.A 58 (by decide), hs.A 60 (by decide), hs.A 61 (by decide), hs.A 62 (by decide), hs.A 63 (by decide), hs.A 64 (by decide), hs.A 65 (by decide), hs.A 66 (by decide), hs.A 67 (by decide), hs.A 68 (by decide), hs.A 69 (by decide), hs.A 70 (by decide), hs.A 73 (by decide), hs.B 6, hs.B 21, hs.B 24, hs.B 27, hs.B 71, hs.B 72, hs.I 40 (by decide), hs.I 3202 (by decide), hs.I 3584 (by decide), hs.I 3586 (by decide), hs.I 3587 (by decide), hs.I 8959 (by decide), hs.I 9087 (by decide), hs.I 9215 (by decide), hs.I 9343 (by decide), hs.I 9471 (by decide)] at *
  exact ⟨h1, h2, h3, fun f a b => (h4 f a b).step hs⟩
theorem reachF_ok (s : S1) (t f : Int32) (hg : Grey s) (hf : 0 ≤ f ∧ f < t_frames s t ∧ t_frames s t ≤ 200) (hs0 : FrS s t f) (hv : FrV false s t f) :
    ok (M_Th_reach_j45 t f) s (fun y s' => y = Sum.inl (t, f + 1) ∧ Grey s' ∧ MStep s s' ∧ (t_kind s t f = 0 → (∀ i, t_base s t f - t_extra s t f ≤ i → i < t_base s t f - t_extra s t f + (a_registers s (a_first s (t_function s t f)) + t_extra s t f) → Vl true s' (v_stack_k s t i) (v_stack_v s t i)) ∧
    (f = t_frames s t - 1 → ∀ i, 0 ≤ i → i < 0 + t_rowCount s t f → Vl true s' (v_row_k s t i) (v_row_v s t i)))) := by
  have hf1 : 0 ≤ f ∧ f < 201 := by clear hv; grind
  unfold FrS at hs0
  have hv2 := hv.2
  clear hv
  simp only [M_Th_reach_j45, M_Th_reach_j126, ok_B, ok_C, ok_R, ok_L, ok_K, ok_GI, ok_GL, ok_PI, ok_PL, ok_AI, ok_AL, ok_SI, ok_SL, ok_Pr, ok_CI, cmp_lt, cmp_le, cmp_gt, cmp_ge, cmp_eq, nar0, nar1, Sum.elim_inl, Sum.elim_inr]
  simp only [a_sort, a_tag, a_first, a_second, a_third, a_chain, a_free, a_text, a_heads, a_ek, a_ev, a_vk, a_vv, a_follow, a_bucket, a_registers, f_used, v_variable_k, v_variable_v, v_stack_k, v_stack_v, v_row_k, v_row_v, v_start_n, v_start_k, v_start_v, t_place, t_frames, t_openCount, t_open, t_kind, t_function, t_base, t_extra, t_rowCount, p_ek, p_vk, p_ev, p_vv, p_follow] at *
  refine ⟨hf1, fun c => ?_, fun c => ⟨by trivial, hg, MStep.refl s, fun z => absurd z c⟩⟩
  obtain ⟨q1, q2, q3, q4, q5⟩ := hs0 c
  obtain ⟨v1, v2⟩ := hv2 c
  refine ⟨hf1, hf1, hf1, q1, q2, hf1, ?_⟩
  refine ok_mono (markV_ok s 19 t _ _ hg (by decide) (by decide) ?_ ?_ ?_ (by decide) v1) fun _ s1 ⟨hg1, hs, hk1⟩ => ?_
  · clear v1 v2 hv2
    grind
  · clear v1 v2 hv2
    grind
  · show _ ≤ (4300 : Int32)
    clear v1 v2 hv2
    grind
  simp only [hs.A 5 (by decide), hs.A 20 (by decide), hs.A 23 (by decide), hs.A 26 (by decide), hs.A 29 (by decide), hs.A 30 (by decide), hs.A 31 (by decide), hs.A 32 (by decide), hs.A 33 (by decide), hs.A 34 (by decide), hs.A 35 (by decide), hs.A 36 (by decide), hs.A 44 (by decide), hs.A 58 (by decide), hs.A 60 (by decide), hs.A 61 (by decide), hs.A 62 (by decide), hs.A 63 (by decide), hs.A 64 (by decide), hs.A 65 (by decide), hs.A 66 (by decide), hs.A 67 (by decide), hs.A 68 (by decide), hs.A 69 (by decide), hs.A 70 (by decide), hs.A 73 (by decide), hs.B 6, hs.B 21, hs.B 24, hs.B 27, hs.B 71, hs.B 72, hs.I 40 (by decide), hs.I 3202 (by decide), hs.I 3584 (by decide), hs.I 3586 (by decide), hs.I 3587 (by decide), hs.I 8959 (by decide), hs.I 9087 (by decide), hs.I 9215 (by decide), hs.I 9343 (by decide), hs.I 9471 (by decide)]
  refine ⟨fun d => ⟨hf1, ?_⟩, fun d => ⟨by trivial, hg1, hs, fun _ => ⟨hk1, fun z => absurd z d⟩⟩⟩
  refine ok_mono (markV_ok s1 22 t _ _ hg1 (by decide) (by decide) ⟨by decide, by decide⟩ ?_ ?_ (by decide) ?_) fun _ s2 ⟨hg2, hs2, hk2⟩ => ?_
  · clear v1 v2 hv2 hk1 hs
    grind
  · show _ ≤ (260 : Int32)
    clear v1 v2 hv2 hk1 hs
    grind
  · intro i x y
    simp only [Nat.reduceAdd, hs.A 5 (by decide), hs.A 20 (by decide), hs.A 23 (by decide), hs.A 26 (by decide), hs.A 29 (by decide), hs.A 30 (by decide), hs.A 31 (by decide), hs.A 32 (by decide), hs.A 33 (by decide), hs.A 34 (by decide), hs.A 35 (by decide), hs.A 36 (by decide), hs.A 44 (by decide), hs.A 58 (by decide), hs.A 60 (by decide), hs.A 61 (by decide), hs.A 62 (by decide), hs.A 63 (by decide), hs.A 64 (by decide), hs.A 65 (by decide), hs.A 66 (by decide), hs.A 67 (by decide), hs.A 68 (by decide), hs.A 69 (by decide), hs.A 70 (by decide), hs.A 73 (by decide), hs.B 6, hs.B 21, hs.B 24, hs.B 27, hs.B 71, hs.B 72, hs.I 40 (by decide), hs.I 3202 (by decide), hs.I 3584 (by decide), hs.I 3586 (by decide), hs.I 3587 (by decide), hs.I 8959 (by decide), hs.I 9087 (by decide), hs.I 9215 (by decide), hs.I 9343 (by decide), hs.I 9471 (by decide)]
    exact (v2 d i x y).step hs
  · simp only [Nat.reduceAdd, hs.A 5 (by decide), hs.A 20 (by decide), hs.A 23 (by decide), hs.A 26 (by decide), hs.A 29 (by decide), hs.A 30 (by decide), hs.A 31 (by decide), hs.A 32 (by decide), hs.A 33 (by decide), hs.A 34 (by decide), hs.A 35 (by decide), hs.A 36 (by decide), hs.A 44 (by decide), hs.A 58 (by decide), hs.A 60 (by decide), hs.A 61 (by decide), hs.A 62 (by decide), hs.A 63 (by decide), hs.A 64 (by decide), hs.A 65 (by decide), hs.A 66 (by decide), hs.A 67 (by decide), hs.A 68 (by decide), hs.A 69 (by decide), hs.A 70 (by decide), hs.A 73 (by decide), hs.B 6, hs.B 21, hs.B 24, hs.B 27, hs.B 71, hs.B 72, hs.I 40 (by decide), hs.I 3202 (by decide), hs.I 3584 (by decide), hs.I 3586 (by decide), hs.I 3587 (by decide), hs.I 8959 (by decide), hs.I 9087 (by decide), hs.I 9215 (by decide), hs.I 9343 (by decide), hs.I 9471 (by decide)] at hk2
    exact ⟨by trivial, hg2, hs.trans hs2 hg.2.1, fun _ => ⟨fun i x y => (hk1 i x y).step hs2, fun _ i x y => hk2 i x y⟩⟩
theorem q_reach_ok (s : S1) (t : Int32) (hg : Grey s) (ht : Ts s t) (hv : ThV false s t) : ok (M_Th_reach t) s (fun _ s' => Grey s' ∧ MStep s s' ∧ ThV true s' t) := by
  obtain ⟨t1, t2, t3, t4⟩ := ht
  obtain ⟨v1, v2, v3⟩ := hv
  simp only [M_Th_reach, ok_B, ok_C, ok_R, ok_L, ok_K, ok_GI, ok_GL, ok_PI, ok_PL, ok_AI, ok_AL, ok_SI, ok_SL, ok_Pr, ok_CI, cmp_lt, cmp_le, cmp_gt, cmp_ge, cmp_eq, nar0, nar1, Sum.elim_inl, Sum.elim_inr]
  refine ok_mono (markV_ok s 25 t 0 _ hg (by decide) (by decide) ⟨by decide, by decide⟩ ?_ ?_ (by decide) v1) fun _ s1 ⟨hg1, hs1, hk1⟩ => ?_
  · clear v1 v2 v3 t4
    simp only [a_sort, a_tag, a_first, a_second, a_third, a_chain, a_free, a_text, a_heads, a_ek, a_ev, a_vk, a_vv, a_follow, a_bucket, a_registers, f_used, v_variable_k, v_variable_v, v_stack_k, v_stack_v, v_row_k, v_row_v, v_start_n, v_start_k, v_start_v, t_place, t_frames, t_openCount, t_open, t_kind, t_function, t_base, t_extra, t_rowCount, p_ek, p_vk, p_ev, p_vv, p_follow] at *
    grind
  · show _ ≤ (260 : Int32)
    clear v1 v2 v3 t4
    simp only [a_sort, a_tag, a_first, a_second, a_third, a_chain, a_free, a_text, a_heads, a_ek, a_ev, a_vk, a_vv, a_follow, a_bucket, a_registers, f_used, v_variable_k, v_variable_v, v_stack_k, v_stack_v, v_row_k, v_row_v, v_start_n, v_start_k, v_start_v, t_place, t_frames, t_openCount, t_open, t_kind, t_function, t_base, t_extra, t_rowCount, p_ek, p_vk, p_ev, p_vv, p_follow] at *
    grind
  refine ok_mono (P := fun y s' => y = t ∧ Grey s' ∧ MStep s s' ∧ MStep s1 s' ∧ ∀ f, 0 ≤ f → f < t_frames s t → FrV true s' t f) ?_ ?_
  · refine ok_W (fun y s' => y.1 = t ∧ (0 ≤ y.2 ∧ y.2 ≤ t_frames s t) ∧ Grey s' ∧ MStep s s' ∧ MStep s1 s' ∧ ∀ f, 0 ≤ f → f < y.2 → FrV true s' t f)
      (fun y _ => (t_frames s t - y.2).toNatClampNeg) ?_ _ _ ⟨rfl, ⟨(show (0 : Int32) ≤ 0 by decide), t2.1⟩, hg1, hs1, MStep.refl s1, fun f a b => by clear v1 v2 v3 t4 hk1 hs1; grind⟩
    rintro ⟨t', f⟩ s2 ⟨e1, ⟨h1, h2⟩, hg2, hs, hs12, hm⟩
    dsimp only at e1 h1 h2 hm
    subst e1
    simp only [M_Th_reach_L18, ok_B, ok_C, ok_R, ok_L, ok_K, ok_GI, ok_GL, ok_PI, ok_PL, ok_AI, ok_AL, ok_SI, ok_SL, ok_Pr, ok_CI, cmp_lt, cmp_le, cmp_gt, cmp_ge, cmp_eq, nar0, nar1, Sum.elim_inl, Sum.elim_inr]
    simp only [a_sort, a_tag, a_first, a_second, a_third, a_chain, a_free, a_text, a_heads, a_ek, a_ev, a_vk, a_vv, a_follow, a_bucket, a_registers, f_used, v_variable_k, v_variable_v, v_stack_k, v_stack_v, v_row_k, v_row_v, v_start_n, v_start_k, v_start_v, t_place, t_frames, t_openCount, t_open, t_kind, t_function, t_base, t_extra, t_rowCount, p_ek, p_vk, p_ev, p_vv, p_follow, hs.A 5 (by decide), hs.A 20 (by decide), hs.A 23 (by decide), hs.A 26 (by decide), hs.A 29 (by decide), hs.A 30 (by decide), hs.A 31 (by decide), hs.A 32 (by decide), hs.A 33 (by decide), hs.A 34 (by decide), hs.A 35 (by decide), hs.A 36 (by decide), hs.A 44 (by decide), hs.A 58 (by decide), hs.A 60 (by decide), hs.A 61 (by decide), hs.A 62 (by decide), hs.A 63 (by decide), hs.A 64 (by decide), hs.A 65 (by decide), hs.A 66 (by decide), hs.A 67 (by decide), hs.A 68 (by decide), hs.A 69 (by decide), hs.A 70 (by decide), hs.A 73 (by decide), hs.B 6, hs.B 21, hs.B 24, hs.B 27, hs.B 71, hs.B 72, hs.I 40 (by decide), hs.I 3202 (by decide), hs.I 3584 (by decide), hs.I 3586 (by decide), hs.I 3587 (by decide), hs.I 8959 (by decide), hs.I 9087 (by decide), hs.I 9215 (by decide), hs.I 9343 (by decide), hs.I 9471 (by decide)] at *
    have hf1 : ¬ gI s 3586 t' ≤ f → 0 ≤ f ∧ f < 201 := fun c => by clear v1 v2 v3 t4 hk1 hs1 hm hs; grind
    have hend : gI s 3586 t' ≤ f → f = gI s 3586 t' := fun c => by clear v1 v2 v3 t4 hk1 hs1 hm hs; grind
    refine ⟨fun c => ⟨by trivial, hg2, hs, hs12, fun j a b => hm j a (by rw [hend c]; exact b)⟩, fun c => ⟨hf1 c, ?_⟩⟩
    have hfl : f < gI s 3586 t' := by clear v1 v2 v3 t4 hk1 hs1 hm hs; grind
    have hF := v2 f h1 hfl
    have hS := t4 f h1 hfl
    have fin : ∀ s3, Grey s3 → MStep s s3 → MStep s2 s3 → (0 ≤ gA s 31 t' f → Lv true s3 (gA s 31 t' f) 6) → ok (M_Th_reach_j45 t' f) s3 (fun y s' => Sum.elim (fun z => (z.1 = t' ∧ (0 ≤ z.2 ∧ z.2 ≤ gI s 3586 t') ∧ Grey s' ∧ MStep s s' ∧ MStep s1 s' ∧ ∀ g, 0 ≤ g → g < z.2 → FrV true s' t' g) ∧ (gI s 3586 t' - z.2).toNatClampNeg < (gI s 3586 t' - f).toNatClampNeg) (fun e => e = t' ∧ Grey s' ∧ MStep s s' ∧ MStep s1 s' ∧ ∀ g, 0 ≤ g → g < gI s 3586 t' → FrV true s' t' g) y) := fun s3 hg3 hs3 hs23 hl3 => by
      refine ok_mono (reachF_ok s3 t' f hg3 ⟨h1, ?_, ?_⟩ (hS.step hs3) (hF.step hs3)) fun y s4 ⟨ey, hg4, hs4, hk4⟩ => ?_
      · simp only [a_sort, a_tag, a_first, a_second, a_third, a_chain, a_free, a_text, a_heads, a_ek, a_ev, a_vk, a_vv, a_follow, a_bucket, a_registers, f_used, v_variable_k, v_variable_v, v_stack_k, v_stack_v, v_row_k, v_row_v, v_start_n, v_start_k, v_start_v, t_place, t_frames, t_openCount, t_open, t_kind, t_function, t_base, t_extra, t_rowCount, p_ek, p_vk, p_ev, p_vv, p_follow]
        rw [hs3.I 3586 (by decide)]
        exact hfl
      · simp only [a_sort, a_tag, a_first, a_second, a_third, a_chain, a_free, a_text, a_heads, a_ek, a_ev, a_vk, a_vv, a_follow, a_bucket, a_registers, f_used, v_variable_k, v_variable_v, v_stack_k, v_stack_v, v_row_k, v_row_v, v_start_n, v_start_k, v_start_v, t_place, t_frames, t_openCount, t_open, t_kind, t_function, t_base, t_extra, t_rowCount, p_ek, p_vk, p_ev, p_vv, p_follow]
        rw [hs3.I 3586 (by decide)]
        exact t2.2
      · subst ey
        have hs04 := hs3.trans hs4 hg.2.1
        refine ⟨⟨rfl, ⟨?_, ?_⟩, hg4, hs04, (hs12.trans hs23 hg1.2.1).trans hs4 hg1.2.1, fun g a b => ?_⟩, ?_⟩
        · clear v1 v2 v3 t4 hk1 hs1 hm hs hs3 hs23 hs4 hk4 hs04 hF hS hl3
          grind
        · clear v1 v2 v3 t4 hk1 hs1 hm hs hs3 hs23 hs4 hk4 hs04 hF hS hl3
          grind
        · by_cases hgf : g = f
          · subst hgf
            unfold FrV
            have hs := hs04
            simp only [a_sort, a_tag, a_first, a_second, a_third, a_chain, a_free, a_text, a_heads, a_ek, a_ev, a_vk, a_vv, a_follow, a_bucket, a_registers, f_used, v_variable_k, v_variable_v, v_stack_k, v_stack_v, v_row_k, v_row_v, v_start_n, v_start_k, v_start_v, t_place, t_frames, t_openCount, t_open, t_kind, t_function, t_base, t_extra, t_rowCount, p_ek, p_vk, p_ev, p_vv, p_follow, hs.A 5 (by decide), hs.A 20 (by decide), hs.A 23 (by decide), hs.A 26 (by decide), hs.A 29 (by decide), hs.A 30 (by decide), hs.A 31 (by decide), hs.A 32 (by decide), hs.A 33 (by decide), hs.A 34 (by decide), hs.A 35 (by decide), hs.A 36 (by decide), hs.A 44 (by decide), hs.A 58 (by decide), hs.A 60 (by decide), hs.A 61 (by decide), hs.A 62 (by decide), hs.A 63 (by decide), hs.A 64 (by decide), hs.A 65 (by decide), hs.A 66 (by decide), hs.A 67 (by decide), hs.A 68 (by decide), hs.A 69 (by decide), hs.A 70 (by decide), hs.A 73 (by decide), hs.B 6, hs.B 21, hs.B 24, hs.B 27, hs.B 71, hs.B 72, hs.I 40 (by decide), hs.I 3202 (by decide), hs.I 3584 (by decide), hs.I 3586 (by decide), hs.I 3587 (by decide), hs.I 8959 (by decide), hs.I 9087 (by decide), hs.I 9215 (by decide), hs.I 9343 (by decide), hs.I 9471 (by decide)] at *
            have hs := hs3
            simp only [hs.A 5 (by decide), hs.A 20 (by decide), hs.A 23 (by decide), hs.A 26 (by decide), hs.A 29 (by decide), hs.A 30 (by decide), hs.A 31 (by decide), hs.A 32 (by decide), hs.A 33 (by decide), hs.A 34 (by decide), hs.A 35 (by decide), hs.A 36 (by decide), hs.A 44 (by decide), hs.A 58 (by decide), hs.A 60 (by decide), hs.A 61 (by decide), hs.A 62 (by decide), hs.A 63 (by decide), hs.A 64 (by decide), hs.A 65 (by decide), hs.A 66 (by decide), hs.A 67 (by decide), hs.A 68 (by decide), hs.A 69 (by decide), hs.A 70 (by decide), hs.A 73 (by decide), hs.B 6, hs.B 21, hs.B 24, hs.B 27, hs.B 71, hs.B 72, hs.I 40 (by decide), hs.I 3202 (by decide), hs.I 3584 (by decide), hs.I 3586 (by decide), hs.I 3587 (by decide), hs.I 8959 (by decide), hs.I 9087 (by decide), hs.I 9215 (by decide), hs.I 9343 (by decide), hs.I 9471 (by decide)] at hk4
            exact ⟨fun z => (hl3 z).step hs4, fun z => hk4 z⟩
          · exact ((hm g a (by clear v1 v2 v3 t4 hk1 hs1 hm hs hs3 hs23 hs4 hk4 hs04 hF hS hl3; grind)).step hs23).step hs4
        · clear v1 v2 v3 t4 hk1 hs1 hm hs hs3 hs23 hs4 hk4 hs04 hF hS hl3
          exact clamp_lt (by grind) (by grind)
    refine ⟨fun d => fin s2 hg2 hs (MStep.refl s2) (fun z => by clear v1 v2 v3 t4 hk1 hs1 hm hs fin; grind), fun d => ⟨hf1 c, ?_⟩⟩
    have hp : 0 ≤ gA s 31 t' f := by clear v1 v2 v3 t4 hk1 hs1 hm hs fin; grind
    have hL : Lv false s (gA s 31 t' f) 6 := hF.1 hp
    refine ok_mono (place_ok s2 _ hg2 (hL.step hs).2.1) fun _ s3 ⟨hg3, hs3, hk3⟩ => ?_
    have hs03 := hs.trans hs3 hg.2.1
    exact fin s3 hg3 hs03 hs3 (fun z => hL.mk hs03 (hk3 z))
  · rintro y s2 ⟨ey, hg2, hs2, hs12, hk2⟩
    subst ey
    refine ok_mono (P := fun _ s' => Grey s' ∧ MStep s s' ∧ MStep s2 s' ∧ ∀ k, 0 ≤ k → k < t_openCount s y → Lv true s' (t_open s y k) 8) ?_ ?_
    · refine ok_W (fun z s' => z.1 = y ∧ (0 ≤ z.2 ∧ z.2 ≤ t_openCount s y) ∧ Grey s' ∧ MStep s s' ∧ MStep s2 s' ∧ ∀ k, 0 ≤ k → k < z.2 → Lv true s' (t_open s y k) 8)
        (fun z _ => (t_openCount s y - z.2).toNatClampNeg) ?_ _ _ ⟨rfl, ⟨(show (0 : Int32) ≤ 0 by decide), t3.1⟩, hg2, hs2, MStep.refl s2, fun f a b => by clear v1 v2 v3 t4 hk1 hs1 hs2 hk2; grind⟩
      rintro ⟨t', f⟩ s3 ⟨e1, ⟨h1, h2⟩, hg3, hs, hs23, hm⟩
      dsimp only at e1 h1 h2 hm
      subst e1
      simp only [M_Th_reach_L134, ok_B, ok_C, ok_R, ok_L, ok_K, ok_GI, ok_GL, ok_PI, ok_PL, ok_AI, ok_AL, ok_SI, ok_SL, ok_Pr, ok_CI, cmp_lt, cmp_le, cmp_gt, cmp_ge, cmp_eq, nar0, nar1, Sum.elim_inl, Sum.elim_inr]
      simp only [a_sort, a_tag, a_first, a_second, a_third, a_chain, a_free, a_text, a_heads, a_ek, a_ev, a_vk, a_vv, a_follow, a_bucket, a_registers, f_used, v_variable_k, v_variable_v, v_stack_k, v_stack_v, v_row_k, v_row_v, v_start_n, v_start_k, v_start_v, t_place, t_frames, t_openCount, t_open, t_kind, t_function, t_base, t_extra, t_rowCount, p_ek, p_vk, p_ev, p_vv, p_follow, hs.A 5 (by decide), hs.A 20 (by decide), hs.A 23 (by decide), hs.A 26 (by decide), hs.A 29 (by decide), hs.A 30 (by decide), hs.A 31 (by decide), hs.A 32 (by decide), hs.A 33 (by decide), hs.A 34 (by decide), hs.A 35 (by decide), hs.A 36 (by decide), hs.A 44 (by decide), hs.A 58 (by decide), hs.A 60 (by decide), hs.A 61 (by decide), hs.A 62 (by decide), hs.A 63 (by decide), hs.A 64 (by decide), hs.A 65 (by decide), hs.A 66 (by decide), hs.A 67 (by decide), hs.A 68 (by decide), hs.A 69 (by decide), hs.A 70 (by decide), hs.A 73 (by decide), hs.B 6, hs.B 21, hs.B 24, hs.B 27, hs.B 71, hs.B 72, hs.I 40 (by decide), hs.I 3202 (by decide), hs.I 3584 (by decide), hs.I 3586 (by decide), hs.I 3587 (by decide), hs.I 8959 (by decide), hs.I 9087 (by decide), hs.I 9215 (by decide), hs.I 9343 (by decide), hs.I 9471 (by decide)] at *
      have hf1 : ¬ gI s 3587 t' ≤ f → 0 ≤ f ∧ f < 4100 := fun c => by clear v1 v2 v3 t4 hk1 hs1 hm hs hs2 hk2 hs23; grind
      refine ⟨fun c => ⟨hg3, hs, hs23, fun j a b => hm j a (by clear v1 v2 v3 t4 hk1 hs1 hm hs hs2 hk2 hs23; grind)⟩, fun c => ⟨hf1 c, ?_⟩⟩
      have hL := v3 f h1 (by clear v1 v2 v3 t4 hk1 hs1 hm hs hs2 hk2 hs23; grind)
      refine ok_mono (place_ok s3 _ hg3 (hL.step hs).2.1) fun _ s4 ⟨hg4, hs4, hk4⟩ => ?_
      have hs04 := hs.trans hs4 hg.2.1
      refine ⟨⟨by trivial, ⟨?_, ?_⟩, hg4, hs04, hs23.trans hs4 hg2.2.1, fun k a b => ?_⟩, ?_⟩
      · clear v1 v2 v3 t4 hk1 hs1 hm hs hs2 hk2 hs23 hs4 hs04
        grind
      · clear v1 v2 v3 t4 hk1 hs1 hm hs hs2 hk2 hs23 hs4 hs04
        grind
      · by_cases hk : k = f
        · subst hk
          exact hL.mk hs04 (hk4 hL.1)
        · exact (hm k a (by clear v1 v2 v3 t4 hk1 hs1 hm hs hs2 hk2 hs23 hs4 hs04; grind)).step hs4
      · clear v1 v2 v3 t4 hk1 hs1 hm hs hs2 hk2 hs23 hs4 hs04
        exact clamp_lt (by grind) (by grind)
    · rintro _ s3 ⟨hg3, hs, hs23, hk3⟩
      refine ⟨hg3, hs, ?_⟩
      unfold ThV
      simp only [a_sort, a_tag, a_first, a_second, a_third, a_chain, a_free, a_text, a_heads, a_ek, a_ev, a_vk, a_vv, a_follow, a_bucket, a_registers, f_used, v_variable_k, v_variable_v, v_stack_k, v_stack_v, v_row_k, v_row_v, v_start_n, v_start_k, v_start_v, t_place, t_frames, t_openCount, t_open, t_kind, t_function, t_base, t_extra, t_rowCount, p_ek, p_vk, p_ev, p_vv, p_follow, hs.A 5 (by decide), hs.A 20 (by decide), hs.A 23 (by decide), hs.A 26 (by decide), hs.A 29 (by decide), hs.A 30 (by decide), hs.A 31 (by decide), hs.A 32 (by decide), hs.A 33 (by decide), hs.A 34 (by decide), hs.A 35 (by decide), hs.A 36 (by decide), hs.A 44 (by decide), hs.A 58 (by decide), hs.A 60 (by decide), hs.A 61 (by decide), hs.A 62 (by decide), hs.A 63 (by decide), hs.A 64 (by decide), hs.A 65 (by decide), hs.A 66 (by decide), hs.A 67 (by decide), hs.A 68 (by decide), hs.A 69 (by decide), hs.A 70 (by decide), hs.A 73 (by decide), hs.B 6, hs.B 21, hs.B 24, hs.B 27, hs.B 71, hs.B 72, hs.I 40 (by decide), hs.I 3202 (by decide), hs.I 3584 (by decide), hs.I 3586 (by decide), hs.I 3587 (by decide), hs.I 8959 (by decide), hs.I 9087 (by decide), hs.I 9215 (by decide), hs.I 9343 (by decide), hs.I 9471 (by decide)] at *
      exact ⟨fun i a b => ((hk1 i a b).step hs12).step hs23, fun f a b => (hk2 f a b).step hs23, hk3⟩
/-- what shape a place has, by its sort -/
def Sh (s : S1) (x : Int32) : Prop := (a_sort s x = 5 → 0 ≤ a_first s x ∧ 0 ≤ a_third s x ∧ a_third s x ≤ a_second s x ∧ a_first s x ≤ 300000 ∧ a_second s x ≤ 300000 ∧ a_first s x + a_second s x ≤ f_entryTop s) ∧
  (a_sort s x = 6 → a_first s x < 251 ∧ (0 ≤ a_first s x → 0 ≤ a_second s x ∧ 0 ≤ a_third s x ∧ a_second s x ≤ 300000 ∧ a_third s x ≤ 64 ∧ a_second s x + a_third s x ≤ f_entryTop s)) ∧
  (a_sort s x = 7 → 0 ≤ a_first s x ∧ a_first s x < 33 ∧ t_place s (a_first s x) = x ∧ Ts s (a_first s x)) ∧
  (a_sort s x = 8 → a_first s x < 33 ∧ (0 ≤ a_first s x → 0 ≤ a_second s x ∧ a_second s x < 4000))
theorem Sh.step {s s' : S1} {x : Int32} (h : Sh s x) (hs : MStep s s') : Sh s' x := by
  unfold Sh at *
  simp only [a_sort, a_tag, a_first, a_second, a_third, a_chain, a_free, a_text, a_heads, a_ek, a_ev, a_vk, a_vv, a_follow, a_bucket, a_registers, f_used, v_variable_k, v_variable_v, v_stack_k, v_stack_v, v_row_k, v_row_v, v_start_n, v_start_k, v_start_v, t_place, t_frames, t_openCount, t_open, t_kind, t_function, t_base, t_extra, t_rowCount, p_ek, p_vk, p_ev, p_vv, p_follow, f_entryTop, hs.A 5 (by decide), hs.A 20 (by decide), hs.A 23 (by decide), hs.A 26 (by decide), hs.A 29 (by decide), hs.A 30 (by decide), hs.A 31 (by decide), hs.A 32 (by decide), hs.A 33 (by decide), hs.A 34 (by decide), hs.A 35 (by decide), hs.A 36 (by decide), hs.A 44 (by decide), hs.A 58 (by decide), hs.A 60 (by decide), hs.A 61 (by decide), hs.A 62 (by decide), hs.A 63 (by decide), hs.A 64 (by decide), hs.A 65 (by decide), hs.A 66 (by decide), hs.A 67 (by decide), hs.A 68 (by decide), hs.A 69 (by decide), hs.A 70 (by decide), hs.A 73 (by decide), hs.B 6, hs.B 21, hs.B 24, hs.B 27, hs.B 71, hs.B 72, hs.I 40 (by decide), hs.I 3202 (by decide), hs.I 3584 (by decide), hs.I 3586 (by decide), hs.I 3587 (by decide), hs.I 8959 (by decide), hs.I 9087 (by decide), hs.I 9215 (by decide), hs.I 9343 (by decide), hs.I 9471 (by decide), hs.I 41 (by decide)] at *
  exact ⟨h.1, h.2.1, fun z => ⟨(h.2.2.1 z).1, (h.2.2.1 z).2.1, (h.2.2.1 z).2.2.1, (h.2.2.1 z).2.2.2.step hs⟩, h.2.2.2⟩
theorem follow_ok (s : S1) (x : Int32) (hg : Grey s) (hx : 0 ≤ x ∧ x < f_used s) (hp : Rm s) (ht : 0 ≤ f_entryTop s ∧ f_entryTop s ≤ 300000) (hsh : Sh s x) (hv : PcV false s x) :
    ok (M_Mo_follow x) s (fun _ s' => Grey s' ∧ MStep s s' ∧ PcV true s' x) := by
  have hu := hg.1
  have hx1 : 0 ≤ x ∧ x < 4100 := by clear hsh hv; grind
  obtain ⟨z5, z6, z7, z8⟩ := hsh
  obtain ⟨v5, v6, v7, v8⟩ := hv
  simp only [M_Mo_follow, ok_B, ok_C, ok_R, ok_L, ok_K, ok_GI, ok_GL, ok_PI, ok_PL, ok_AI, ok_AL, ok_SI, ok_SL, ok_Pr, ok_CI, cmp_lt, cmp_le, cmp_gt, cmp_ge, cmp_eq, nar0, nar1, Sum.elim_inl, Sum.elim_inr]
  refine ⟨hx1, fun c => ⟨hx1, ?_⟩, fun c => ⟨fun d => ⟨hx1, fun e => ?_, fun e => ⟨hx1, ?_⟩⟩, fun d => ⟨fun e => ⟨hx1, ?_⟩, fun e => ⟨fun g => ?_, fun g => ?_⟩⟩⟩⟩
  · obtain ⟨w1, w2⟩ := v5 c
    have b := z5 c
    refine ok_mono (place_ok s _ hg ?_) fun _ s1 ⟨hg1, hs1, hk1⟩ => ⟨hx1, ?_⟩
    · rcases w1 with w | w
      · simp only [a_sort, a_tag, a_first, a_second, a_third, a_chain, a_free, a_text, a_heads, a_ek, a_ev, a_vk, a_vv, a_follow, a_bucket, a_registers, f_used, v_variable_k, v_variable_v, v_stack_k, v_stack_v, v_row_k, v_row_v, v_start_n, v_start_k, v_start_v, t_place, t_frames, t_openCount, t_open, t_kind, t_function, t_base, t_extra, t_rowCount, p_ek, p_vk, p_ev, p_vv, p_follow] at *
        clear w2 z5 z6 z7 z8 v5 v6 v7 v8
        grind
      · exact w.2.1
    · have ef : gA s1 62 0 x = a_first s x := hs1.A 62 (by decide) 0 x
      have ef' : a_first s1 x = a_first s x := ef
      have et : a_third s1 x = a_third s x := hs1.A 64 (by decide) 0 x
      rw [ef, ← ef']
      refine ok_mono (followT_ok s1 x hg1 ?_ (hp.step hs1) ?_ ?_) fun _ s2 ⟨hg2, hs2, hk2⟩ => ?_
      · show 0 ≤ x ∧ x < gI s1 40 0
        rw [hs1.I 40 (by decide)]
        exact hx
      · rw [ef', et]
        simp only [a_sort, a_tag, a_first, a_second, a_third, a_chain, a_free, a_text, a_heads, a_ek, a_ev, a_vk, a_vv, a_follow, a_bucket, a_registers, f_used, v_variable_k, v_variable_v, v_stack_k, v_stack_v, v_row_k, v_row_v, v_start_n, v_start_k, v_start_v, t_place, t_frames, t_openCount, t_open, t_kind, t_function, t_base, t_extra, t_rowCount, p_ek, p_vk, p_ev, p_vv, p_follow, f_entryTop] at *
        clear w1 w2 z5 z6 z7 z8 v5 v6 v7 v8 hs1
        grind
      · rw [ef', et]
        intro k a b
        have := w2 k a b
        have hs := hs1
        simp only [a_sort, a_tag, a_first, a_second, a_third, a_chain, a_free, a_text, a_heads, a_ek, a_ev, a_vk, a_vv, a_follow, a_bucket, a_registers, f_used, v_variable_k, v_variable_v, v_stack_k, v_stack_v, v_row_k, v_row_v, v_start_n, v_start_k, v_start_v, t_place, t_frames, t_openCount, t_open, t_kind, t_function, t_base, t_extra, t_rowCount, p_ek, p_vk, p_ev, p_vv, p_follow, hs.A 5 (by decide), hs.A 20 (by decide), hs.A 23 (by decide), hs.A 26 (by decide), hs.A 29 (by decide), hs.A 30 (by decide), hs.A 31 (by decide), hs.A 32 (by decide), hs.A 33 (by decide), hs.A 34 (by decide), hs.A 35 (by decide), hs.A 36 (by decide), hs.A 44 (by decide), hs.A 58 (by decide), hs.A 60 (by decide), hs.A 61 (by decide), hs.A 62 (by decide), hs.A 63 (by decide), hs.A 64 (by decide), hs.A 65 (by decide), hs.A 66 (by decide), hs.A 67 (by decide), hs.A 68 (by decide), hs.A 69 (by decide), hs.A 70 (by decide), hs.A 73 (by decide), hs.B 6, hs.B 21, hs.B 24, hs.B 27, hs.B 71, hs.B 72, hs.I 40 (by decide), hs.I 3202 (by decide), hs.I 3584 (by decide), hs.I 3586 (by decide), hs.I 3587 (by decide), hs.I 8959 (by decide), hs.I 9087 (by decide), hs.I 9215 (by decide), hs.I 9343 (by decide), hs.I 9471 (by decide)] at *
        exact ⟨this.1.step hs, this.2.step hs⟩
      · have hs := hs1.trans hs2 hg.2.1
        refine ⟨hg2, hs, ?_⟩
        rw [ef', et] at hk2
        have h5 : TbV true s2 x := by
          unfold TbV
          refine ⟨?_, ?_⟩
          · rcases w1 with w | w
            · left
              simp only [a_sort, a_tag, a_first, a_second, a_third, a_chain, a_free, a_text, a_heads, a_ek, a_ev, a_vk, a_vv, a_follow, a_bucket, a_registers, f_used, v_variable_k, v_variable_v, v_stack_k, v_stack_v, v_row_k, v_row_v, v_start_n, v_start_k, v_start_v, t_place, t_frames, t_openCount, t_open, t_kind, t_function, t_base, t_extra, t_rowCount, p_ek, p_vk, p_ev, p_vv, p_follow, hs.A 5 (by decide), hs.A 20 (by decide), hs.A 23 (by decide), hs.A 26 (by decide), hs.A 29 (by decide), hs.A 30 (by decide), hs.A 31 (by decide), hs.A 32 (by decide), hs.A 33 (by decide), hs.A 34 (by decide), hs.A 35 (by decide), hs.A 36 (by decide), hs.A 44 (by decide), hs.A 58 (by decide), hs.A 60 (by decide), hs.A 61 (by decide), hs.A 62 (by decide), hs.A 63 (by decide), hs.A 64 (by decide), hs.A 65 (by decide), hs.A 66 (by decide), hs.A 67 (by decide), hs.A 68 (by decide), hs.A 69 (by decide), hs.A 70 (by decide), hs.A 73 (by decide), hs.B 6, hs.B 21, hs.B 24, hs.B 27, hs.B 71, hs.B 72, hs.I 40 (by decide), hs.I 3202 (by decide), hs.I 3584 (by decide), hs.I 3586 (by decide), hs.I 3587 (by decide), hs.I 8959 (by decide), hs.I 9087 (by decide), hs.I 9215 (by decide), hs.I 9343 (by decide), hs.I 9471 (by decide)] at *
              exact w
            · right
              have := (w.mk hs1 (hk1 w.1)).step hs2
              simp only [a_sort, a_tag, a_first, a_second, a_third, a_chain, a_free, a_text, a_heads, a_ek, a_ev, a_vk, a_vv, a_follow, a_bucket, a_registers, f_used, v_variable_k, v_variable_v, v_stack_k, v_stack_v, v_row_k, v_row_v, v_start_n, v_start_k, v_start_v, t_place, t_frames, t_openCount, t_open, t_kind, t_function, t_base, t_extra, t_rowCount, p_ek, p_vk, p_ev, p_vv, p_follow, hs.A 5 (by decide), hs.A 20 (by decide), hs.A 23 (by decide), hs.A 26 (by decide), hs.A 29 (by decide), hs.A 30 (by decide), hs.A 31 (by decide), hs.A 32 (by decide), hs.A 33 (by decide), hs.A 34 (by decide), hs.A 35 (by decide), hs.A 36 (by decide), hs.A 44 (by decide), hs.A 58 (by decide), hs.A 60 (by decide), hs.A 61 (by decide), hs.A 62 (by decide), hs.A 63 (by decide), hs.A 64 (by decide), hs.A 65 (by decide), hs.A 66 (by decide), hs.A 67 (by decide), hs.A 68 (by decide), hs.A 69 (by decide), hs.A 70 (by decide), hs.A 73 (by decide), hs.B 6, hs.B 21, hs.B 24, hs.B 27, hs.B 71, hs.B 72, hs.I 40 (by decide), hs.I 3202 (by decide), hs.I 3584 (by decide), hs.I 3586 (by decide), hs.I 3587 (by decide), hs.I 8959 (by decide), hs.I 9087 (by decide), hs.I 9215 (by decide), hs.I 9343 (by decide), hs.I 9471 (by decide)] at *
              exact this
          · intro k a b
            have hk := hk2 k
            simp only [a_sort, a_tag, a_first, a_second, a_third, a_chain, a_free, a_text, a_heads, a_ek, a_ev, a_vk, a_vv, a_follow, a_bucket, a_registers, f_used, v_variable_k, v_variable_v, v_stack_k, v_stack_v, v_row_k, v_row_v, v_start_n, v_start_k, v_start_v, t_place, t_frames, t_openCount, t_open, t_kind, t_function, t_base, t_extra, t_rowCount, p_ek, p_vk, p_ev, p_vv, p_follow, hs.A 5 (by decide), hs.A 20 (by decide), hs.A 23 (by decide), hs.A 26 (by decide), hs.A 29 (by decide), hs.A 30 (by decide), hs.A 31 (by decide), hs.A 32 (by decide), hs.A 33 (by decide), hs.A 34 (by decide), hs.A 35 (by decide), hs.A 36 (by decide), hs.A 44 (by decide), hs.A 58 (by decide), hs.A 60 (by decide), hs.A 61 (by decide), hs.A 62 (by decide), hs.A 63 (by decide), hs.A 64 (by decide), hs.A 65 (by decide), hs.A 66 (by decide), hs.A 67 (by decide), hs.A 68 (by decide), hs.A 69 (by decide), hs.A 70 (by decide), hs.A 73 (by decide), hs.B 6, hs.B 21, hs.B 24, hs.B 27, hs.B 71, hs.B 72, hs.I 40 (by decide), hs.I 3202 (by decide), hs.I 3584 (by decide), hs.I 3586 (by decide), hs.I 3587 (by decide), hs.I 8959 (by decide), hs.I 9087 (by decide), hs.I 9215 (by decide), hs.I 9343 (by decide), hs.I 9471 (by decide)] at *
            have hs := hs1
            simp only [hs.A 5 (by decide), hs.A 20 (by decide), hs.A 23 (by decide), hs.A 26 (by decide), hs.A 29 (by decide), hs.A 30 (by decide), hs.A 31 (by decide), hs.A 32 (by decide), hs.A 33 (by decide), hs.A 34 (by decide), hs.A 35 (by decide), hs.A 36 (by decide), hs.A 44 (by decide), hs.A 58 (by decide), hs.A 60 (by decide), hs.A 61 (by decide), hs.A 62 (by decide), hs.A 63 (by decide), hs.A 64 (by decide), hs.A 65 (by decide), hs.A 66 (by decide), hs.A 67 (by decide), hs.A 68 (by decide), hs.A 69 (by decide), hs.A 70 (by decide), hs.A 73 (by decide), hs.B 6, hs.B 21, hs.B 24, hs.B 27, hs.B 71, hs.B 72, hs.I 40 (by decide), hs.I 3202 (by decide), hs.I 3584 (by decide), hs.I 3586 (by decide), hs.I 3587 (by decide), hs.I 8959 (by decide), hs.I 9087 (by decide), hs.I 9215 (by decide), hs.I 9343 (by decide), hs.I 9471 (by decide)] at *
            exact hk a b
        have es : a_sort s2 x = 5 := by
          simp only [a_sort, a_tag, a_first, a_second, a_third, a_chain, a_free, a_text, a_heads, a_ek, a_ev, a_vk, a_vv, a_follow, a_bucket, a_registers, f_used, v_variable_k, v_variable_v, v_stack_k, v_stack_v, v_row_k, v_row_v, v_start_n, v_start_k, v_start_v, t_place, t_frames, t_openCount, t_open, t_kind, t_function, t_base, t_extra, t_rowCount, p_ek, p_vk, p_ev, p_vv, p_follow, hs.A 5 (by decide), hs.A 20 (by decide), hs.A 23 (by decide), hs.A 26 (by decide), hs.A 29 (by decide), hs.A 30 (by decide), hs.A 31 (by decide), hs.A 32 (by decide), hs.A 33 (by decide), hs.A 34 (by decide), hs.A 35 (by decide), hs.A 36 (by decide), hs.A 44 (by decide), hs.A 58 (by decide), hs.A 60 (by decide), hs.A 61 (by decide), hs.A 62 (by decide), hs.A 63 (by decide), hs.A 64 (by decide), hs.A 65 (by decide), hs.A 66 (by decide), hs.A 67 (by decide), hs.A 68 (by decide), hs.A 69 (by decide), hs.A 70 (by decide), hs.A 73 (by decide), hs.B 6, hs.B 21, hs.B 24, hs.B 27, hs.B 71, hs.B 72, hs.I 40 (by decide), hs.I 3202 (by decide), hs.I 3584 (by decide), hs.I 3586 (by decide), hs.I 3587 (by decide), hs.I 8959 (by decide), hs.I 9087 (by decide), hs.I 9215 (by decide), hs.I 9343 (by decide), hs.I 9471 (by decide)] at *
          exact c
        exact ⟨fun _ => h5, fun z => absurd (es.symm.trans z) (by decide), fun z => absurd (es.symm.trans z) (by decide), fun z => absurd (es.symm.trans z) (by decide)⟩
  · obtain ⟨w1, w2⟩ := v6 d
    have b := (z6 d).2 e
    refine ok_mono (followF_ok s x hg hx hp ?_ (w2 e)) fun _ s2 ⟨hg2, hs, hk2⟩ => ⟨hg2, hs, ?_⟩
    · simp only [a_sort, a_tag, a_first, a_second, a_third, a_chain, a_free, a_text, a_heads, a_ek, a_ev, a_vk, a_vv, a_follow, a_bucket, a_registers, f_used, v_variable_k, v_variable_v, v_stack_k, v_stack_v, v_row_k, v_row_v, v_start_n, v_start_k, v_start_v, t_place, t_frames, t_openCount, t_open, t_kind, t_function, t_base, t_extra, t_rowCount, p_ek, p_vk, p_ev, p_vv, p_follow, f_entryTop] at *
      clear w1 w2 z5 z6 z7 z8 v5 v6 v7 v8
      grind
    · have h5 : FnV true s2 x := by
        unfold FnV
        simp only [a_sort, a_tag, a_first, a_second, a_third, a_chain, a_free, a_text, a_heads, a_ek, a_ev, a_vk, a_vv, a_follow, a_bucket, a_registers, f_used, v_variable_k, v_variable_v, v_stack_k, v_stack_v, v_row_k, v_row_v, v_start_n, v_start_k, v_start_v, t_place, t_frames, t_openCount, t_open, t_kind, t_function, t_base, t_extra, t_rowCount, p_ek, p_vk, p_ev, p_vv, p_follow, hs.A 5 (by decide), hs.A 20 (by decide), hs.A 23 (by decide), hs.A 26 (by decide), hs.A 29 (by decide), hs.A 30 (by decide), hs.A 31 (by decide), hs.A 32 (by decide), hs.A 33 (by decide), hs.A 34 (by decide), hs.A 35 (by decide), hs.A 36 (by decide), hs.A 44 (by decide), hs.A 58 (by decide), hs.A 60 (by decide), hs.A 61 (by decide), hs.A 62 (by decide), hs.A 63 (by decide), hs.A 64 (by decide), hs.A 65 (by decide), hs.A 66 (by decide), hs.A 67 (by decide), hs.A 68 (by decide), hs.A 69 (by decide), hs.A 70 (by decide), hs.A 73 (by decide), hs.B 6, hs.B 21, hs.B 24, hs.B 27, hs.B 71, hs.B 72, hs.I 40 (by decide), hs.I 3202 (by decide), hs.I 3584 (by decide), hs.I 3586 (by decide), hs.I 3587 (by decide), hs.I 8959 (by decide), hs.I 9087 (by decide), hs.I 9215 (by decide), hs.I 9343 (by decide), hs.I 9471 (by decide)] at *
        exact ⟨fun z => by clear w1 w2 z5 z6 z7 z8 v5 v6 v7 v8 hk2 hs; grind, fun _ => hk2⟩
      have es : a_sort s2 x = 6 := by
        simp only [a_sort, a_tag, a_first, a_second, a_third, a_chain, a_free, a_text, a_heads, a_ek, a_ev, a_vk, a_vv, a_follow, a_bucket, a_registers, f_used, v_variable_k, v_variable_v, v_stack_k, v_stack_v, v_row_k, v_row_v, v_start_n, v_start_k, v_start_v, t_place, t_frames, t_openCount, t_open, t_kind, t_function, t_base, t_extra, t_rowCount, p_ek, p_vk, p_ev, p_vv, p_follow, hs.A 5 (by decide), hs.A 20 (by decide), hs.A 23 (by decide), hs.A 26 (by decide), hs.A 29 (by decide), hs.A 30 (by decide), hs.A 31 (by decide), hs.A 32 (by decide), hs.A 33 (by decide), hs.A 34 (by decide), hs.A 35 (by decide), hs.A 36 (by decide), hs.A 44 (by decide), hs.A 58 (by decide), hs.A 60 (by decide), hs.A 61 (by decide), hs.A 62 (by decide), hs.A 63 (by decide), hs.A 64 (by decide), hs.A 65 (by decide), hs.A 66 (by decide), hs.A 67 (by decide), hs.A 68 (by decide), hs.A 69 (by decide), hs.A 70 (by decide), hs.A 73 (by decide), hs.B 6, hs.B 21, hs.B 24, hs.B 27, hs.B 71, hs.B 72, hs.I 40 (by decide), hs.I 3202 (by decide), hs.I 3584 (by decide), hs.I 3586 (by decide), hs.I 3587 (by decide), hs.I 8959 (by decide), hs.I 9087 (by decide), hs.I 9215 (by decide), hs.I 9343 (by decide), hs.I 9471 (by decide)] at *
        exact d
      exact ⟨fun z => absurd (es.symm.trans z) (by decide), fun _ => h5, fun z => absurd (es.symm.trans z) (by decide), fun z => absurd (es.symm.trans z) (by decide)⟩
  · obtain ⟨w1, w2⟩ := v6 d
    have e' : a_first s x < 0 := by
      simp only [a_sort, a_tag, a_first, a_second, a_third, a_chain, a_free, a_text, a_heads, a_ek, a_ev, a_vk, a_vv, a_follow, a_bucket, a_registers, f_used, v_variable_k, v_variable_v, v_stack_k, v_stack_v, v_row_k, v_row_v, v_start_n, v_start_k, v_start_v, t_place, t_frames, t_openCount, t_open, t_kind, t_function, t_base, t_extra, t_rowCount, p_ek, p_vk, p_ev, p_vv, p_follow] at *
      clear w1 w2 z5 z6 z7 z8 v5 v6 v7 v8
      grind
    have w := w1 e'
    refine ok_mono (place_ok s _ hg w.2.1) fun _ s2 ⟨hg2, hs, hk2⟩ => ⟨hg2, hs, ?_⟩
    have h5 : FnV true s2 x := by
      have wm := w.mk hs (hk2 w.1)
      unfold FnV
      simp only [a_sort, a_tag, a_first, a_second, a_third, a_chain, a_free, a_text, a_heads, a_ek, a_ev, a_vk, a_vv, a_follow, a_bucket, a_registers, f_used, v_variable_k, v_variable_v, v_stack_k, v_stack_v, v_row_k, v_row_v, v_start_n, v_start_k, v_start_v, t_place, t_frames, t_openCount, t_open, t_kind, t_function, t_base, t_extra, t_rowCount, p_ek, p_vk, p_ev, p_vv, p_follow, hs.A 5 (by decide), hs.A 20 (by decide), hs.A 23 (by decide), hs.A 26 (by decide), hs.A 29 (by decide), hs.A 30 (by decide), hs.A 31 (by decide), hs.A 32 (by decide), hs.A 33 (by decide), hs.A 34 (by decide), hs.A 35 (by decide), hs.A 36 (by decide), hs.A 44 (by decide), hs.A 58 (by decide), hs.A 60 (by decide), hs.A 61 (by decide), hs.A 62 (by decide), hs.A 63 (by decide), hs.A 64 (by decide), hs.A 65 (by decide), hs.A 66 (by decide), hs.A 67 (by decide), hs.A 68 (by decide), hs.A 69 (by decide), hs.A 70 (by decide), hs.A 73 (by decide), hs.B 6, hs.B 21, hs.B 24, hs.B 27, hs.B 71, hs.B 72, hs.I 40 (by decide), hs.I 3202 (by decide), hs.I 3584 (by decide), hs.I 3586 (by decide), hs.I 3587 (by decide), hs.I 8959 (by decide), hs.I 9087 (by decide), hs.I 9215 (by decide), hs.I 9343 (by decide), hs.I 9471 (by decide)] at *
      exact ⟨fun z => wm, fun z => absurd z e⟩
    have es : a_sort s2 x = 6 := by
      simp only [a_sort, a_tag, a_first, a_second, a_third, a_chain, a_free, a_text, a_heads, a_ek, a_ev, a_vk, a_vv, a_follow, a_bucket, a_registers, f_used, v_variable_k, v_variable_v, v_stack_k, v_stack_v, v_row_k, v_row_v, v_start_n, v_start_k, v_start_v, t_place, t_frames, t_openCount, t_open, t_kind, t_function, t_base, t_extra, t_rowCount, p_ek, p_vk, p_ev, p_vv, p_follow, hs.A 5 (by decide), hs.A 20 (by decide), hs.A 23 (by decide), hs.A 26 (by decide), hs.A 29 (by decide), hs.A 30 (by decide), hs.A 31 (by decide), hs.A 32 (by decide), hs.A 33 (by decide), hs.A 34 (by decide), hs.A 35 (by decide), hs.A 36 (by decide), hs.A 44 (by decide), hs.A 58 (by decide), hs.A 60 (by decide), hs.A 61 (by decide), hs.A 62 (by decide), hs.A 63 (by decide), hs.A 64 (by decide), hs.A 65 (by decide), hs.A 66 (by decide), hs.A 67 (by decide), hs.A 68 (by decide), hs.A 69 (by decide), hs.A 70 (by decide), hs.A 73 (by decide), hs.B 6, hs.B 21, hs.B 24, hs.B 27, hs.B 71, hs.B 72, hs.I 40 (by decide), hs.I 3202 (by decide), hs.I 3584 (by decide), hs.I 3586 (by decide), hs.I 3587 (by decide), hs.I 8959 (by decide), hs.I 9087 (by decide), hs.I 9215 (by decide), hs.I 9343 (by decide), hs.I 9471 (by decide)] at *
      exact d
    exact ⟨fun z => absurd (es.symm.trans z) (by decide), fun _ => h5, fun z => absurd (es.symm.trans z) (by decide), fun z => absurd (es.symm.trans z) (by decide)⟩
  · obtain ⟨y1, y2, -, y4⟩ := z7 e
    refine ⟨⟨y1, y2⟩, ?_⟩
    refine ok_mono (q_reach_ok s _ hg y4 (v7 e)) fun _ s2 ⟨hg2, hs, hk2⟩ => ⟨hg2, hs, ?_⟩
    have es : a_sort s2 x = 7 := by
      simp only [a_sort, a_tag, a_first, a_second, a_third, a_chain, a_free, a_text, a_heads, a_ek, a_ev, a_vk, a_vv, a_follow, a_bucket, a_registers, f_used, v_variable_k, v_variable_v, v_stack_k, v_stack_v, v_row_k, v_row_v, v_start_n, v_start_k, v_start_v, t_place, t_frames, t_openCount, t_open, t_kind, t_function, t_base, t_extra, t_rowCount, p_ek, p_vk, p_ev, p_vv, p_follow, hs.A 5 (by decide), hs.A 20 (by decide), hs.A 23 (by decide), hs.A 26 (by decide), hs.A 29 (by decide), hs.A 30 (by decide), hs.A 31 (by decide), hs.A 32 (by decide), hs.A 33 (by decide), hs.A 34 (by decide), hs.A 35 (by decide), hs.A 36 (by decide), hs.A 44 (by decide), hs.A 58 (by decide), hs.A 60 (by decide), hs.A 61 (by decide), hs.A 62 (by decide), hs.A 63 (by decide), hs.A 64 (by decide), hs.A 65 (by decide), hs.A 66 (by decide), hs.A 67 (by decide), hs.A 68 (by decide), hs.A 69 (by decide), hs.A 70 (by decide), hs.A 73 (by decide), hs.B 6, hs.B 21, hs.B 24, hs.B 27, hs.B 71, hs.B 72, hs.I 40 (by decide), hs.I 3202 (by decide), hs.I 3584 (by decide), hs.I 3586 (by decide), hs.I 3587 (by decide), hs.I 8959 (by decide), hs.I 9087 (by decide), hs.I 9215 (by decide), hs.I 9343 (by decide), hs.I 9471 (by decide)] at *
      exact e
    have ef : a_first s2 x = a_first s x := hs.A 62 (by decide) 0 x
    exact ⟨fun z => absurd (es.symm.trans z) (by decide), fun z => absurd (es.symm.trans z) (by decide), fun _ => by rw [ef]; exact hk2, fun z => absurd (es.symm.trans z) (by decide)⟩
  · obtain ⟨y1, y2⟩ := z8 g
    have hl := (v8 g).ld
    refine ok_mono (q_load_ok s x hx1 ⟨y1, fun z => ⟨(y2 z).1, by have := (y2 z).2; clear y2 z5 z6 z7 z8 v5 v6 v7 v8; grind⟩⟩) fun _ s1 e1 => ?_
    subst e1
    have hs1 := MStep.got (s := s) (ldK s x) (ldV s x)
    have ek : gI (sL (sI s 66 0 (ldK s x)) 67 0 (ldV s x)) 66 0 = ldK s x := by simp only [gI_sI, gI_sL, gI_sA, gI_sB, gI_sAf, gI_sBf, gL_sI, gL_sL, gL_sA, gL_sB, gL_sAf, gL_sBf, gA_sI, gA_sL, gA_sA, gA_sB, gA_sAf, gA_sBf, gB_sI, gB_sL, gB_sA, gB_sB, gB_sAf, gB_sBf, Nat.reduceEqDiff, Nat.reduceMul, Nat.reduceAdd, false_and, true_and, and_true, and_false, if_true, if_false]
    have ev : gL (sL (sI s 66 0 (ldK s x)) 67 0 (ldV s x)) 67 0 = ldV s x := by simp only [gI_sI, gI_sL, gI_sA, gI_sB, gI_sAf, gI_sBf, gL_sI, gL_sL, gL_sA, gL_sB, gL_sAf, gL_sBf, gA_sI, gA_sL, gA_sA, gA_sB, gA_sAf, gA_sBf, gB_sI, gB_sL, gB_sA, gB_sB, gB_sAf, gB_sBf, Nat.reduceEqDiff, Nat.reduceMul, Nat.reduceAdd, false_and, true_and, and_true, and_false, if_true, if_false]
    rw [ek, ev]
    refine ok_mono (mark_ok _ _ _ (hg.got _ _) (hl.step hs1).lo) fun _ s2 ⟨hg2, hs2, hk2⟩ => ?_
    have hs := hs1.trans hs2 hg.2.1
    refine ⟨hg2, hs, ?_⟩
    have es : a_sort s2 x = 8 := by
      simp only [a_sort, a_tag, a_first, a_second, a_third, a_chain, a_free, a_text, a_heads, a_ek, a_ev, a_vk, a_vv, a_follow, a_bucket, a_registers, f_used, v_variable_k, v_variable_v, v_stack_k, v_stack_v, v_row_k, v_row_v, v_start_n, v_start_k, v_start_v, t_place, t_frames, t_openCount, t_open, t_kind, t_function, t_base, t_extra, t_rowCount, p_ek, p_vk, p_ev, p_vv, p_follow, hs.A 5 (by decide), hs.A 20 (by decide), hs.A 23 (by decide), hs.A 26 (by decide), hs.A 29 (by decide), hs.A 30 (by decide), hs.A 31 (by decide), hs.A 32 (by decide), hs.A 33 (by decide), hs.A 34 (by decide), hs.A 35 (by decide), hs.A 36 (by decide), hs.A 44 (by decide), hs.A 58 (by decide), hs.A 60 (by decide), hs.A 61 (by decide), hs.A 62 (by decide), hs.A 63 (by decide), hs.A 64 (by decide), hs.A 65 (by decide), hs.A 66 (by decide), hs.A 67 (by decide), hs.A 68 (by decide), hs.A 69 (by decide), hs.A 70 (by decide), hs.A 73 (by decide), hs.B 6, hs.B 21, hs.B 24, hs.B 27, hs.B 71, hs.B 72, hs.I 40 (by decide), hs.I 3202 (by decide), hs.I 3584 (by decide), hs.I 3586 (by decide), hs.I 3587 (by decide), hs.I 8959 (by decide), hs.I 9087 (by decide), hs.I 9215 (by decide), hs.I 9343 (by decide), hs.I 9471 (by decide)] at *
      exact g
    have hm := hl.mk hs hk2
    refine ⟨fun z => absurd (es.symm.trans z) (by decide), fun z => absurd (es.symm.trans z) (by decide), fun z => absurd (es.symm.trans z) (by decide), fun _ => VrV.of ?_⟩
    unfold ldK ldV at *
    simp only [a_sort, a_tag, a_first, a_second, a_third, a_chain, a_free, a_text, a_heads, a_ek, a_ev, a_vk, a_vv, a_follow, a_bucket, a_registers, f_used, v_variable_k, v_variable_v, v_stack_k, v_stack_v, v_row_k, v_row_v, v_start_n, v_start_k, v_start_v, t_place, t_frames, t_openCount, t_open, t_kind, t_function, t_base, t_extra, t_rowCount, p_ek, p_vk, p_ev, p_vv, p_follow, hs.A 5 (by decide), hs.A 20 (by decide), hs.A 23 (by decide), hs.A 26 (by decide), hs.A 29 (by decide), hs.A 30 (by decide), hs.A 31 (by decide), hs.A 32 (by decide), hs.A 33 (by decide), hs.A 34 (by decide), hs.A 35 (by decide), hs.A 36 (by decide), hs.A 44 (by decide), hs.A 58 (by decide), hs.A 60 (by decide), hs.A 61 (by decide), hs.A 62 (by decide), hs.A 63 (by decide), hs.A 64 (by decide), hs.A 65 (by decide), hs.A 66 (by decide), hs.A 67 (by decide), hs.A 68 (by decide), hs.A 69 (by decide), hs.A 70 (by decide), hs.A 73 (by decide), hs.B 6, hs.B 21, hs.B 24, hs.B 27, hs.B 71, hs.B 72, hs.I 40 (by decide), hs.I 3202 (by decide), hs.I 3584 (by decide), hs.I 3586 (by decide), hs.I 3587 (by decide), hs.I 8959 (by decide), hs.I 9087 (by decide), hs.I 9215 (by decide), hs.I 9343 (by decide), hs.I 9471 (by decide)] at *
    exact hm
  · exact ⟨hg, MStep.refl s, fun z => absurd z c, fun z => absurd z d, fun z => absurd z e, fun z => absurd z g⟩
