/-! A variable is closed. -/
theorem i8_id {k : Int32} (h : 0 ≤ k ∧ k ≤ 8) : k.toInt8.toInt32 = k := by
  have : k = 0 ∨ k = 1 ∨ k = 2 ∨ k = 3 ∨ k = 4 ∨ k = 5 ∨ k = 6 ∨ k = 7 ∨ k = 8 := by grind
  rcases this with rfl | rfl | rfl | rfl | rfl | rfl | rfl | rfl | rfl <;> rfl
theorem Vl.kind {m : Bool} {s : S1} {k : Int32} {v : Int64} (h : Vl m s k v) : 0 ≤ k ∧ k ≤ 8 := by
  rcases h with h | h | ⟨h1, h2, h3, h4, h5⟩
  · grind
  · have := h.1
    clear h
    grind
  · clear h3 h4 h5
    grind
def Cl (s s' : S1) (y : Int32) : Prop := (∀ f i, f ≠ 66 → gI s' f i = gI s f i) ∧ (∀ f i, f ≠ 67 → gL s' f i = gL s f i) ∧ (∀ a i j, a ≠ 5 → a ≠ 62 → gA s' a i j = gA s a i j) ∧ (∀ a i j, a ≠ 6 → gB s' a i j = gB s a i j) ∧
  (∀ z, gA s' 62 0 z = if z = y then -1 else gA s 62 0 z) ∧ (∀ z, gA s' 5 0 z = if z = y then ldK s y else gA s 5 0 z) ∧ ∀ z, gB s' 6 0 z = if z = y then ldV s y else gB s 6 0 z
theorem closeVariable_ok (s : S1) (y : Int32) (hy : 0 ≤ y ∧ y < 4100) (hb : a_first s y < 33 ∧ (0 ≤ a_first s y → 0 ≤ a_second s y ∧ a_second s y < 4300)) (hk : 0 ≤ ldK s y ∧ ldK s y ≤ 8) : ok (M_Mo_closeVariable y) s (fun _ s' => Cl s s' y) := by
  simp only [M_Mo_closeVariable, M_Va_set, ok_B, ok_C, ok_R, ok_L, ok_K, ok_GI, ok_GL, ok_PI, ok_PL, ok_AI, ok_AL, ok_SI, ok_SL, ok_Pr, ok_CI, cmp_lt, cmp_le, cmp_gt, cmp_ge, cmp_eq, nar0, nar1, Sum.elim_inl, Sum.elim_inr]
  refine ok_mono (q_load_ok s y hy hb) fun _ s1 e1 => ⟨hy, hy, hy, ?_⟩
  subst e1
  generalize ek : ldK s y = k at *
  generalize ev : ldV s y = v at *
  simp only [gI_sI, gI_sL, gI_sA, gI_sB, gI_sAf, gI_sBf, gL_sI, gL_sL, gL_sA, gL_sB, gL_sAf, gL_sBf, gA_sI, gA_sL, gA_sA, gA_sB, gA_sAf, gA_sBf, gB_sI, gB_sL, gB_sA, gB_sB, gB_sAf, gB_sBf, Nat.reduceEqDiff, Nat.reduceMul, Nat.reduceAdd, false_and, true_and, and_true, and_false, if_true, if_false]
  rw [i8_id hk, i8_id hk]
  refine ⟨fun f i a => ?_, fun f i a => ?_, fun a i j b c => ?_, fun a i j b => ?_, fun z => ?_, fun z => ?_, fun z => ?_⟩
  · simp only [gI_sI, gI_sL, gI_sA, gI_sB, gI_sAf, gI_sBf, gL_sI, gL_sL, gL_sA, gL_sB, gL_sAf, gL_sBf, gA_sI, gA_sL, gA_sA, gA_sB, gA_sAf, gA_sBf, gB_sI, gB_sL, gB_sA, gB_sB, gB_sAf, gB_sBf, Nat.reduceEqDiff, Nat.reduceMul, Nat.reduceAdd, false_and, true_and, and_true, and_false, if_true, if_false, a]
  · simp only [gI_sI, gI_sL, gI_sA, gI_sB, gI_sAf, gI_sBf, gL_sI, gL_sL, gL_sA, gL_sB, gL_sAf, gL_sBf, gA_sI, gA_sL, gA_sA, gA_sB, gA_sAf, gA_sBf, gB_sI, gB_sL, gB_sA, gB_sB, gB_sAf, gB_sBf, Nat.reduceEqDiff, Nat.reduceMul, Nat.reduceAdd, false_and, true_and, and_true, and_false, if_true, if_false, a]
  · simp only [gI_sI, gI_sL, gI_sA, gI_sB, gI_sAf, gI_sBf, gL_sI, gL_sL, gL_sA, gL_sB, gL_sAf, gL_sBf, gA_sI, gA_sL, gA_sA, gA_sB, gA_sAf, gA_sBf, gB_sI, gB_sL, gB_sA, gB_sB, gB_sAf, gB_sBf, Nat.reduceEqDiff, Nat.reduceMul, Nat.reduceAdd, false_and, true_and, and_true, and_false, if_true, if_false, b, c]
  · simp only [gI_sI, gI_sL, gI_sA, gI_sB, gI_sAf, gI_sBf, gL_sI, gL_sL, gL_sA, gL_sB, gL_sAf, gL_sBf, gA_sI, gA_sL, gA_sA, gA_sB, gA_sAf, gA_sBf, gB_sI, gB_sL, gB_sA, gB_sB, gB_sAf, gB_sBf, Nat.reduceEqDiff, Nat.reduceMul, Nat.reduceAdd, false_and, true_and, and_true, and_false, if_true, if_false, b]
  · simp only [gI_sI, gI_sL, gI_sA, gI_sB, gI_sAf, gI_sBf, gL_sI, gL_sL, gL_sA, gL_sB, gL_sAf, gL_sBf, gA_sI, gA_sL, gA_sA, gA_sB, gA_sAf, gA_sBf, gB_sI, gB_sL, gB_sA, gB_sB, gB_sAf, gB_sBf, Nat.reduceEqDiff, Nat.reduceMul, Nat.reduceAdd, false_and, true_and, and_true, and_false, if_true, if_false]
  · simp only [gI_sI, gI_sL, gI_sA, gI_sB, gI_sAf, gI_sBf, gL_sI, gL_sL, gL_sA, gL_sB, gL_sAf, gL_sBf, gA_sI, gA_sL, gA_sA, gA_sB, gA_sAf, gA_sBf, gB_sI, gB_sL, gB_sA, gB_sB, gB_sAf, gB_sBf, Nat.reduceEqDiff, Nat.reduceMul, Nat.reduceAdd, false_and, true_and, and_true, and_false, if_true, if_false, ek]
  · simp only [gI_sI, gI_sL, gI_sA, gI_sB, gI_sAf, gI_sBf, gL_sI, gL_sL, gL_sA, gL_sB, gL_sAf, gL_sBf, gA_sI, gA_sL, gA_sA, gA_sB, gA_sAf, gA_sBf, gB_sI, gB_sL, gB_sA, gB_sB, gB_sAf, gB_sBf, Nat.reduceEqDiff, Nat.reduceMul, Nat.reduceAdd, false_and, true_and, and_true, and_false, if_true, if_false, ev]
theorem Cl.I {s s' : S1} {y : Int32} (h : Cl s s' y) (f : Nat) (hf : f ≠ 66) (i : Int32) : gI s' f i = gI s f i := h.1 f i hf
theorem Cl.A {s s' : S1} {y : Int32} (h : Cl s s' y) (f : Nat) (hf : f ≠ 5 ∧ f ≠ 62) (i j : Int32) : gA s' f i j = gA s f i j := h.2.2.1 f i j hf.1 hf.2
theorem Cl.B {s s' : S1} {y : Int32} (h : Cl s s' y) (f : Nat) (hf : f ≠ 6) (i j : Int32) : gB s' f i j = gB s f i j := h.2.2.2.1 f i j hf
theorem Cl.F {s s' : S1} {y : Int32} (h : Cl s s' y) {z : Int32} (hz : z ≠ y) : gA s' 62 0 z = gA s 62 0 z := by rw [h.2.2.2.2.1, if_neg hz]
theorem Lv.cl {m : Bool} {s s' : S1} {x k y : Int32} (hs : Cl s s' y) : Lv m s' x k ↔ Lv m s x k := by
  unfold Lv
  simp only [f_used, a_sort, a_marked, hs.A 20 (by decide), hs.A 23 (by decide), hs.A 26 (by decide), hs.A 29 (by decide), hs.A 30 (by decide), hs.A 31 (by decide), hs.A 32 (by decide), hs.A 33 (by decide), hs.A 34 (by decide), hs.A 35 (by decide), hs.A 36 (by decide), hs.A 44 (by decide), hs.A 58 (by decide), hs.A 59 (by decide), hs.A 60 (by decide), hs.A 61 (by decide), hs.A 63 (by decide), hs.A 64 (by decide), hs.A 65 (by decide), hs.A 66 (by decide), hs.A 67 (by decide), hs.A 68 (by decide), hs.A 69 (by decide), hs.A 70 (by decide), hs.A 73 (by decide), hs.B 21 (by decide), hs.B 24 (by decide), hs.B 27 (by decide), hs.B 71 (by decide), hs.B 72 (by decide), hs.I 40 (by decide), hs.I 41 (by decide), hs.I 3202 (by decide), hs.I 3584 (by decide), hs.I 3586 (by decide), hs.I 3587 (by decide), hs.I 8959 (by decide), hs.I 9087 (by decide), hs.I 9215 (by decide), hs.I 9343 (by decide), hs.I 9471 (by decide)]
theorem Vl.cl {m : Bool} {s s' : S1} {k : Int32} {v : Int64} {y : Int32} (hs : Cl s s' y) : Vl m s' k v ↔ Vl m s k v := by
  unfold Vl
  simp only [Lv.cl hs]
def ShN (s : S1) (x : Int32) : Prop := (a_sort s x = 5 → 0 ≤ a_first s x ∧ 0 ≤ a_third s x ∧ a_third s x ≤ a_second s x ∧ a_first s x ≤ 300000 ∧ a_second s x ≤ 300000 ∧ a_first s x + a_second s x ≤ f_entryTop s) ∧
  (a_sort s x = 6 → a_first s x < 251 ∧ (0 ≤ a_first s x → 0 ≤ a_second s x ∧ 0 ≤ a_third s x ∧ a_second s x ≤ 300000 ∧ a_third s x ≤ 64 ∧ a_second s x + a_third s x ≤ f_entryTop s)) ∧
  (a_sort s x = 7 → 0 ≤ a_first s x ∧ a_first s x < 33 ∧ Ts s (a_first s x)) ∧
  (a_sort s x = 8 → a_first s x < 33 ∧ (0 ≤ a_first s x → 0 ≤ a_second s x ∧ a_second s x < 4000))
theorem Sh.n {s : S1} {x : Int32} (h : Sh s x) : ShN s x := ⟨h.1, h.2.1, fun z => ⟨(h.2.2.1 z).1, (h.2.2.1 z).2.1, (h.2.2.1 z).2.2.2⟩, h.2.2.2⟩
theorem ShN.sh {s : S1} {x : Int32} (h : ShN s x) (hp : a_sort s x = 7 → t_place s (a_first s x) = x) : Sh s x := ⟨h.1, h.2.1, fun z => ⟨(h.2.2.1 z).1, (h.2.2.1 z).2.1, hp z, (h.2.2.1 z).2.2⟩, h.2.2.2⟩
/-- of a thread's frames that run code, the function is one -/
def FrF (s : S1) (t : Int32) : Prop := ∀ f, 0 ≤ f → f < t_frames s t → t_kind s t f = 0 → a_sort s (t_function s t f) = 6
theorem ThV.fn {m : Bool} {s : S1} {t : Int32} (h : ThV m s t) (ht : Ts s t) : FrF s t := fun f a b c => ((h.2.1 f a b).1 (ht.2.2.2 f a b c).1.1).2.2.1
theorem Ts.cl {s s' : S1} {t y : Int32} (h : Ts s t) (hs : Cl s s' y) (hy : a_sort s y = 8) (hf : FrF s t) : Ts s' t := by
  obtain ⟨h1, h2, h3, h4⟩ := h
  unfold Ts
  simp only [a_sort, a_tag, a_first, a_second, a_third, a_chain, a_free, a_text, a_heads, a_ek, a_ev, a_vk, a_vv, a_follow, a_bucket, a_registers, f_used, v_variable_k, v_variable_v, v_stack_k, v_stack_v, v_row_k, v_row_v, v_start_n, v_start_k, v_start_v, t_place, t_frames, t_openCount, t_open, t_kind, t_function, t_base, t_extra, t_rowCount, p_ek, p_vk, p_ev, p_vv, p_follow, hs.A 20 (by decide), hs.A 23 (by decide), hs.A 26 (by decide), hs.A 29 (by decide), hs.A 30 (by decide), hs.A 31 (by decide), hs.A 32 (by decide), hs.A 33 (by decide), hs.A 34 (by decide), hs.A 35 (by decide), hs.A 36 (by decide), hs.A 44 (by decide), hs.A 58 (by decide), hs.A 59 (by decide), hs.A 60 (by decide), hs.A 61 (by decide), hs.A 63 (by decide), hs.A 64 (by decide), hs.A 65 (by decide), hs.A 66 (by decide), hs.A 67 (by decide), hs.A 68 (by decide), hs.A 69 (by decide), hs.A 70 (by decide), hs.A 73 (by decide), hs.B 21 (by decide), hs.B 24 (by decide), hs.B 27 (by decide), hs.B 71 (by decide), hs.B 72 (by decide), hs.I 40 (by decide), hs.I 41 (by decide), hs.I 3202 (by decide), hs.I 3584 (by decide), hs.I 3586 (by decide), hs.I 3587 (by decide), hs.I 8959 (by decide), hs.I 9087 (by decide), hs.I 9215 (by decide), hs.I 9343 (by decide), hs.I 9471 (by decide)] at *
  refine ⟨h1, h2, h3, fun f a b => ?_⟩
  have h5 := h4 f a b
  have h6 := hf f a b
  unfold FrS at *
  simp only [a_sort, a_tag, a_first, a_second, a_third, a_chain, a_free, a_text, a_heads, a_ek, a_ev, a_vk, a_vv, a_follow, a_bucket, a_registers, f_used, v_variable_k, v_variable_v, v_stack_k, v_stack_v, v_row_k, v_row_v, v_start_n, v_start_k, v_start_v, t_place, t_frames, t_openCount, t_open, t_kind, t_function, t_base, t_extra, t_rowCount, p_ek, p_vk, p_ev, p_vv, p_follow, hs.A 20 (by decide), hs.A 23 (by decide), hs.A 26 (by decide), hs.A 29 (by decide), hs.A 30 (by decide), hs.A 31 (by decide), hs.A 32 (by decide), hs.A 33 (by decide), hs.A 34 (by decide), hs.A 35 (by decide), hs.A 36 (by decide), hs.A 44 (by decide), hs.A 58 (by decide), hs.A 59 (by decide), hs.A 60 (by decide), hs.A 61 (by decide), hs.A 63 (by decide), hs.A 64 (by decide), hs.A 65 (by decide), hs.A 66 (by decide), hs.A 67 (by decide), hs.A 68 (by decide), hs.A 69 (by decide), hs.A 70 (by decide), hs.A 73 (by decide), hs.B 21 (by decide), hs.B 24 (by decide), hs.B 27 (by decide), hs.B 71 (by decide), hs.B 72 (by decide), hs.I 40 (by decide), hs.I 41 (by decide), hs.I 3202 (by decide), hs.I 3584 (by decide), hs.I 3586 (by decide), hs.I 3587 (by decide), hs.I 8959 (by decide), hs.I 9087 (by decide), hs.I 9215 (by decide), hs.I 9343 (by decide), hs.I 9471 (by decide)] at *
  intro c
  have hne : gA s 31 t f ≠ y := fun z => by
    have := h6 c
    rw [z, hy] at this
    exact absurd this (by decide)
  rw [hs.F hne]
  exact h5 c
theorem ThV.cl {m : Bool} {s s' : S1} {t y : Int32} (h : ThV m s t) (hs : Cl s s' y) (hy : a_sort s y = 8) (hf : FrF s t) : ThV m s' t := by
  obtain ⟨h1, h2, h3⟩ := h
  unfold ThV
  simp only [a_sort, a_tag, a_first, a_second, a_third, a_chain, a_free, a_text, a_heads, a_ek, a_ev, a_vk, a_vv, a_follow, a_bucket, a_registers, f_used, v_variable_k, v_variable_v, v_stack_k, v_stack_v, v_row_k, v_row_v, v_start_n, v_start_k, v_start_v, t_place, t_frames, t_openCount, t_open, t_kind, t_function, t_base, t_extra, t_rowCount, p_ek, p_vk, p_ev, p_vv, p_follow, hs.A 20 (by decide), hs.A 23 (by decide), hs.A 26 (by decide), hs.A 29 (by decide), hs.A 30 (by decide), hs.A 31 (by decide), hs.A 32 (by decide), hs.A 33 (by decide), hs.A 34 (by decide), hs.A 35 (by decide), hs.A 36 (by decide), hs.A 44 (by decide), hs.A 58 (by decide), hs.A 59 (by decide), hs.A 60 (by decide), hs.A 61 (by decide), hs.A 63 (by decide), hs.A 64 (by decide), hs.A 65 (by decide), hs.A 66 (by decide), hs.A 67 (by decide), hs.A 68 (by decide), hs.A 69 (by decide), hs.A 70 (by decide), hs.A 73 (by decide), hs.B 21 (by decide), hs.B 24 (by decide), hs.B 27 (by decide), hs.B 71 (by decide), hs.B 72 (by decide), hs.I 40 (by decide), hs.I 41 (by decide), hs.I 3202 (by decide), hs.I 3584 (by decide), hs.I 3586 (by decide), hs.I 3587 (by decide), hs.I 8959 (by decide), hs.I 9087 (by decide), hs.I 9215 (by decide), hs.I 9343 (by decide), hs.I 9471 (by decide), Lv.cl hs, Vl.cl hs] at *
  refine ⟨h1, fun f a b => ?_, h3⟩
  have h5 := h2 f a b
  have h6 := hf f a b
  unfold FrV at *
  simp only [a_sort, a_tag, a_first, a_second, a_third, a_chain, a_free, a_text, a_heads, a_ek, a_ev, a_vk, a_vv, a_follow, a_bucket, a_registers, f_used, v_variable_k, v_variable_v, v_stack_k, v_stack_v, v_row_k, v_row_v, v_start_n, v_start_k, v_start_v, t_place, t_frames, t_openCount, t_open, t_kind, t_function, t_base, t_extra, t_rowCount, p_ek, p_vk, p_ev, p_vv, p_follow, hs.A 20 (by decide), hs.A 23 (by decide), hs.A 26 (by decide), hs.A 29 (by decide), hs.A 30 (by decide), hs.A 31 (by decide), hs.A 32 (by decide), hs.A 33 (by decide), hs.A 34 (by decide), hs.A 35 (by decide), hs.A 36 (by decide), hs.A 44 (by decide), hs.A 58 (by decide), hs.A 59 (by decide), hs.A 60 (by decide), hs.A 61 (by decide), hs.A 63 (by decide), hs.A 64 (by decide), hs.A 65 (by decide), hs.A 66 (by decide), hs.A 67 (by decide), hs.A 68 (by decide), hs.A 69 (by decide), hs.A 70 (by decide), hs.A 73 (by decide), hs.B 21 (by decide), hs.B 24 (by decide), hs.B 27 (by decide), hs.B 71 (by decide), hs.B 72 (by decide), hs.I 40 (by decide), hs.I 41 (by decide), hs.I 3202 (by decide), hs.I 3584 (by decide), hs.I 3586 (by decide), hs.I 3587 (by decide), hs.I 8959 (by decide), hs.I 9087 (by decide), hs.I 9215 (by decide), hs.I 9343 (by decide), hs.I 9471 (by decide), Lv.cl hs, Vl.cl hs] at *
  refine ⟨h5.1, fun c => ?_⟩
  have hne : gA s 31 t f ≠ y := fun z => by
    have := h6 c
    rw [z, hy] at this
    exact absurd this (by decide)
  rw [hs.F hne]
  exact h5.2 c
theorem PcV.cl {m : Bool} {s s' : S1} {x y : Int32} (h : PcV m s x) (hs : Cl s s' y) (hy : a_sort s y = 8) (hf : a_sort s x = 7 → FrF s (a_first s x)) : PcV m s' x := by
  obtain ⟨h1, h2, h3, h4⟩ := h
  have hne : a_sort s x ≠ 8 → x ≠ y := fun a z => a (z ▸ hy)
  unfold PcV
  simp only [a_sort, a_tag, a_first, a_second, a_third, a_chain, a_free, a_text, a_heads, a_ek, a_ev, a_vk, a_vv, a_follow, a_bucket, a_registers, f_used, v_variable_k, v_variable_v, v_stack_k, v_stack_v, v_row_k, v_row_v, v_start_n, v_start_k, v_start_v, t_place, t_frames, t_openCount, t_open, t_kind, t_function, t_base, t_extra, t_rowCount, p_ek, p_vk, p_ev, p_vv, p_follow, hs.A 20 (by decide), hs.A 23 (by decide), hs.A 26 (by decide), hs.A 29 (by decide), hs.A 30 (by decide), hs.A 31 (by decide), hs.A 32 (by decide), hs.A 33 (by decide), hs.A 34 (by decide), hs.A 35 (by decide), hs.A 36 (by decide), hs.A 44 (by decide), hs.A 58 (by decide), hs.A 59 (by decide), hs.A 60 (by decide), hs.A 61 (by decide), hs.A 63 (by decide), hs.A 64 (by decide), hs.A 65 (by decide), hs.A 66 (by decide), hs.A 67 (by decide), hs.A 68 (by decide), hs.A 69 (by decide), hs.A 70 (by decide), hs.A 73 (by decide), hs.B 21 (by decide), hs.B 24 (by decide), hs.B 27 (by decide), hs.B 71 (by decide), hs.B 72 (by decide), hs.I 40 (by decide), hs.I 41 (by decide), hs.I 3202 (by decide), hs.I 3584 (by decide), hs.I 3586 (by decide), hs.I 3587 (by decide), hs.I 8959 (by decide), hs.I 9087 (by decide), hs.I 9215 (by decide), hs.I 9343 (by decide), hs.I 9471 (by decide)] at *
  refine ⟨fun z => ?_, fun z => ?_, fun z => ?_, fun z => ?_⟩
  · have e := hs.F (hne (by rw [z]; decide))
    have h5 := h1 z
    unfold TbV at *
    simp only [a_sort, a_tag, a_first, a_second, a_third, a_chain, a_free, a_text, a_heads, a_ek, a_ev, a_vk, a_vv, a_follow, a_bucket, a_registers, f_used, v_variable_k, v_variable_v, v_stack_k, v_stack_v, v_row_k, v_row_v, v_start_n, v_start_k, v_start_v, t_place, t_frames, t_openCount, t_open, t_kind, t_function, t_base, t_extra, t_rowCount, p_ek, p_vk, p_ev, p_vv, p_follow, hs.A 20 (by decide), hs.A 23 (by decide), hs.A 26 (by decide), hs.A 29 (by decide), hs.A 30 (by decide), hs.A 31 (by decide), hs.A 32 (by decide), hs.A 33 (by decide), hs.A 34 (by decide), hs.A 35 (by decide), hs.A 36 (by decide), hs.A 44 (by decide), hs.A 58 (by decide), hs.A 59 (by decide), hs.A 60 (by decide), hs.A 61 (by decide), hs.A 63 (by decide), hs.A 64 (by decide), hs.A 65 (by decide), hs.A 66 (by decide), hs.A 67 (by decide), hs.A 68 (by decide), hs.A 69 (by decide), hs.A 70 (by decide), hs.A 73 (by decide), hs.B 21 (by decide), hs.B 24 (by decide), hs.B 27 (by decide), hs.B 71 (by decide), hs.B 72 (by decide), hs.I 40 (by decide), hs.I 41 (by decide), hs.I 3202 (by decide), hs.I 3584 (by decide), hs.I 3586 (by decide), hs.I 3587 (by decide), hs.I 8959 (by decide), hs.I 9087 (by decide), hs.I 9215 (by decide), hs.I 9343 (by decide), hs.I 9471 (by decide), Lv.cl hs, Vl.cl hs, e] at *
    exact h5
  · have e := hs.F (hne (by rw [z]; decide))
    have h5 := h2 z
    unfold FnV at *
    simp only [a_sort, a_tag, a_first, a_second, a_third, a_chain, a_free, a_text, a_heads, a_ek, a_ev, a_vk, a_vv, a_follow, a_bucket, a_registers, f_used, v_variable_k, v_variable_v, v_stack_k, v_stack_v, v_row_k, v_row_v, v_start_n, v_start_k, v_start_v, t_place, t_frames, t_openCount, t_open, t_kind, t_function, t_base, t_extra, t_rowCount, p_ek, p_vk, p_ev, p_vv, p_follow, hs.A 20 (by decide), hs.A 23 (by decide), hs.A 26 (by decide), hs.A 29 (by decide), hs.A 30 (by decide), hs.A 31 (by decide), hs.A 32 (by decide), hs.A 33 (by decide), hs.A 34 (by decide), hs.A 35 (by decide), hs.A 36 (by decide), hs.A 44 (by decide), hs.A 58 (by decide), hs.A 59 (by decide), hs.A 60 (by decide), hs.A 61 (by decide), hs.A 63 (by decide), hs.A 64 (by decide), hs.A 65 (by decide), hs.A 66 (by decide), hs.A 67 (by decide), hs.A 68 (by decide), hs.A 69 (by decide), hs.A 70 (by decide), hs.A 73 (by decide), hs.B 21 (by decide), hs.B 24 (by decide), hs.B 27 (by decide), hs.B 71 (by decide), hs.B 72 (by decide), hs.I 40 (by decide), hs.I 41 (by decide), hs.I 3202 (by decide), hs.I 3584 (by decide), hs.I 3586 (by decide), hs.I 3587 (by decide), hs.I 8959 (by decide), hs.I 9087 (by decide), hs.I 9215 (by decide), hs.I 9343 (by decide), hs.I 9471 (by decide), Lv.cl hs, Vl.cl hs, e] at *
    exact h5
  · have e := hs.F (hne (by rw [z]; decide))
    rw [e]
    exact (h3 z).cl hs hy (hf z)
  · have h5 := h4 z
    by_cases c : x = y
    · subst c
      have h6 := h5.ld
      unfold VrV
      simp only [a_sort, a_tag, a_first, a_second, a_third, a_chain, a_free, a_text, a_heads, a_ek, a_ev, a_vk, a_vv, a_follow, a_bucket, a_registers, f_used, v_variable_k, v_variable_v, v_stack_k, v_stack_v, v_row_k, v_row_v, v_start_n, v_start_k, v_start_v, t_place, t_frames, t_openCount, t_open, t_kind, t_function, t_base, t_extra, t_rowCount, p_ek, p_vk, p_ev, p_vv, p_follow, hs.A 20 (by decide), hs.A 23 (by decide), hs.A 26 (by decide), hs.A 29 (by decide), hs.A 30 (by decide), hs.A 31 (by decide), hs.A 32 (by decide), hs.A 33 (by decide), hs.A 34 (by decide), hs.A 35 (by decide), hs.A 36 (by decide), hs.A 44 (by decide), hs.A 58 (by decide), hs.A 59 (by decide), hs.A 60 (by decide), hs.A 61 (by decide), hs.A 63 (by decide), hs.A 64 (by decide), hs.A 65 (by decide), hs.A 66 (by decide), hs.A 67 (by decide), hs.A 68 (by decide), hs.A 69 (by decide), hs.A 70 (by decide), hs.A 73 (by decide), hs.B 21 (by decide), hs.B 24 (by decide), hs.B 27 (by decide), hs.B 71 (by decide), hs.B 72 (by decide), hs.I 40 (by decide), hs.I 41 (by decide), hs.I 3202 (by decide), hs.I 3584 (by decide), hs.I 3586 (by decide), hs.I 3587 (by decide), hs.I 8959 (by decide), hs.I 9087 (by decide), hs.I 9215 (by decide), hs.I 9343 (by decide), hs.I 9471 (by decide), Vl.cl hs, hs.2.2.2.2.1, hs.2.2.2.2.2.1, hs.2.2.2.2.2.2, if_true]
      exact ⟨fun _ => h6, fun w => absurd w (by decide)⟩
    · have e := hs.F c
      unfold VrV at *
      simp only [a_sort, a_tag, a_first, a_second, a_third, a_chain, a_free, a_text, a_heads, a_ek, a_ev, a_vk, a_vv, a_follow, a_bucket, a_registers, f_used, v_variable_k, v_variable_v, v_stack_k, v_stack_v, v_row_k, v_row_v, v_start_n, v_start_k, v_start_v, t_place, t_frames, t_openCount, t_open, t_kind, t_function, t_base, t_extra, t_rowCount, p_ek, p_vk, p_ev, p_vv, p_follow, hs.A 20 (by decide), hs.A 23 (by decide), hs.A 26 (by decide), hs.A 29 (by decide), hs.A 30 (by decide), hs.A 31 (by decide), hs.A 32 (by decide), hs.A 33 (by decide), hs.A 34 (by decide), hs.A 35 (by decide), hs.A 36 (by decide), hs.A 44 (by decide), hs.A 58 (by decide), hs.A 59 (by decide), hs.A 60 (by decide), hs.A 61 (by decide), hs.A 63 (by decide), hs.A 64 (by decide), hs.A 65 (by decide), hs.A 66 (by decide), hs.A 67 (by decide), hs.A 68 (by decide), hs.A 69 (by decide), hs.A 70 (by decide), hs.A 73 (by decide), hs.B 21 (by decide), hs.B 24 (by decide), hs.B 27 (by decide), hs.B 71 (by decide), hs.B 72 (by decide), hs.I 40 (by decide), hs.I 41 (by decide), hs.I 3202 (by decide), hs.I 3584 (by decide), hs.I 3586 (by decide), hs.I 3587 (by decide), hs.I 8959 (by decide), hs.I 9087 (by decide), hs.I 9215 (by decide), hs.I 9343 (by decide), hs.I 9471 (by decide), Vl.cl hs, e, hs.2.2.2.2.2.1, hs.2.2.2.2.2.2, if_neg c] at *
      exact h5
theorem ShN.cl {s s' : S1} {x y : Int32} (h : ShN s x) (hs : Cl s s' y) (hy : a_sort s y = 8) (hf : a_sort s x = 7 → FrF s (a_first s x)) : ShN s' x := by
  obtain ⟨h1, h2, h3, h4⟩ := h
  have hne : a_sort s x ≠ 8 → x ≠ y := fun a z => a (z ▸ hy)
  unfold ShN
  simp only [a_sort, a_tag, a_first, a_second, a_third, a_chain, a_free, a_text, a_heads, a_ek, a_ev, a_vk, a_vv, a_follow, a_bucket, a_registers, f_used, v_variable_k, v_variable_v, v_stack_k, v_stack_v, v_row_k, v_row_v, v_start_n, v_start_k, v_start_v, t_place, t_frames, t_openCount, t_open, t_kind, t_function, t_base, t_extra, t_rowCount, p_ek, p_vk, p_ev, p_vv, p_follow, f_entryTop, hs.A 20 (by decide), hs.A 23 (by decide), hs.A 26 (by decide), hs.A 29 (by decide), hs.A 30 (by decide), hs.A 31 (by decide), hs.A 32 (by decide), hs.A 33 (by decide), hs.A 34 (by decide), hs.A 35 (by decide), hs.A 36 (by decide), hs.A 44 (by decide), hs.A 58 (by decide), hs.A 59 (by decide), hs.A 60 (by decide), hs.A 61 (by decide), hs.A 63 (by decide), hs.A 64 (by decide), hs.A 65 (by decide), hs.A 66 (by decide), hs.A 67 (by decide), hs.A 68 (by decide), hs.A 69 (by decide), hs.A 70 (by decide), hs.A 73 (by decide), hs.B 21 (by decide), hs.B 24 (by decide), hs.B 27 (by decide), hs.B 71 (by decide), hs.B 72 (by decide), hs.I 40 (by decide), hs.I 41 (by decide), hs.I 3202 (by decide), hs.I 3584 (by decide), hs.I 3586 (by decide), hs.I 3587 (by decide), hs.I 8959 (by decide), hs.I 9087 (by decide), hs.I 9215 (by decide), hs.I 9343 (by decide), hs.I 9471 (by decide)] at *
  refine ⟨fun z => ?_, fun z => ?_, fun z => ?_, fun z => ?_⟩
  · rw [hs.F (hne (by rw [z]; decide))]
    exact h1 z
  · rw [hs.F (hne (by rw [z]; decide))]
    exact h2 z
  · rw [hs.F (hne (by rw [z]; decide))]
    exact ⟨(h3 z).1, (h3 z).2.1, (h3 z).2.2.cl hs hy (hf z)⟩
  · by_cases c : x = y
    · subst c
      rw [hs.2.2.2.2.1, if_pos rfl]
      exact ⟨by decide, fun w => absurd w (by decide)⟩
    · rw [hs.F c]
      exact h4 z
