/-! The core of the state: all but the marks, what is grey and what was got. With m: what is marked stays so. -/
def Cr (m : Bool) (s s' : S1) : Prop := ((∀ f i, f ≠ 35 → f ≠ 66 → f ≠ 69 → gI s' f i = gI s f i) ∧ (∀ f i, f ≠ 67 → gL s' f i = gL s f i) ∧ (∀ a i j, a ≠ 59 → a ≠ 75 → gA s' a i j = gA s a i j) ∧ ∀ a i j, gB s' a i j = gB s a i j) ∧ (m = true → ∀ y, a_marked s y ≠ 0 → a_marked s' y ≠ 0)
theorem Cr.I {m : Bool} {s s' : S1} (h : Cr m s s') (f : Nat) (hf : f ≠ 35 ∧ f ≠ 66 ∧ f ≠ 69) (i : Int32) : gI s' f i = gI s f i := h.1.1 f i hf.1 hf.2.1 hf.2.2
theorem Cr.A {m : Bool} {s s' : S1} (h : Cr m s s') (f : Nat) (hf : f ≠ 59 ∧ f ≠ 75) (i j : Int32) : gA s' f i j = gA s f i j := h.1.2.2.1 f i j hf.1 hf.2
theorem Cr.B {m : Bool} {s s' : S1} (h : Cr m s s') (f : Nat) (i j : Int32) : gB s' f i j = gB s f i j := h.1.2.2.2 f i j
theorem Cr.L {m : Bool} {s s' : S1} (h : Cr m s s') (f : Nat) (hf : f ≠ 67) (i : Int32) : gL s' f i = gL s f i := h.1.2.1 f i hf
theorem MStep.cr {s s' : S1} (m : Bool) (h : MStep s s') : Cr m s s' := ⟨⟨fun f i _ b c => h.1.1 f i b c, h.1.2.1, h.1.2.2.1, h.1.2.2.2⟩, fun _ => h.2.1⟩
theorem Cr.refl (m : Bool) (s : S1) : Cr m s s := (MStep.refl s).cr m
theorem Cr.trans {m : Bool} {a b c : S1} (p : Cr m a b) (q : Cr m b c) : Cr m a c := ⟨⟨fun f i h h' h2 => (q.1.1 f i h h' h2).trans (p.1.1 f i h h' h2), fun f i h => (q.1.2.1 f i h).trans (p.1.2.1 f i h), fun x i j h h' => (q.1.2.2.1 x i j h h').trans (p.1.2.2.1 x i j h h'), fun x i j => (q.1.2.2.2 x i j).trans (p.1.2.2.2 x i j)⟩, fun z y hy => q.2 z y (p.2 z y hy)⟩
theorem Cr.low {m : Bool} {s s' : S1} (h : Cr m s s') : Cr false s s' := ⟨h.1, fun z => by cases z⟩
theorem Lv.cr {m : Bool} {s s' : S1} {x k : Int32} (h : Lv m s x k) (hs : Cr m s s') : Lv m s' x k := by
  have e : m = true → a_marked s x ≠ 0 → a_marked s' x ≠ 0 := fun z => hs.2 z x
  unfold Lv at *
  simp only [f_used, a_sort, hs.A 5 (by decide), hs.A 20 (by decide), hs.A 23 (by decide), hs.A 26 (by decide), hs.A 29 (by decide), hs.A 30 (by decide), hs.A 31 (by decide), hs.A 32 (by decide), hs.A 33 (by decide), hs.A 34 (by decide), hs.A 35 (by decide), hs.A 36 (by decide), hs.A 44 (by decide), hs.A 58 (by decide), hs.A 60 (by decide), hs.A 61 (by decide), hs.A 62 (by decide), hs.A 63 (by decide), hs.A 64 (by decide), hs.A 65 (by decide), hs.A 66 (by decide), hs.A 67 (by decide), hs.A 68 (by decide), hs.A 69 (by decide), hs.A 70 (by decide), hs.A 73 (by decide), hs.B 6, hs.B 21, hs.B 24, hs.B 27, hs.B 71, hs.B 72, hs.I 40 (by decide), hs.I 3202 (by decide), hs.I 3584 (by decide), hs.I 3586 (by decide), hs.I 3587 (by decide), hs.I 8959 (by decide), hs.I 9087 (by decide), hs.I 9215 (by decide), hs.I 9343 (by decide), hs.I 9471 (by decide)] at *
  exact ⟨h.1, h.2.1, h.2.2.1, fun z => e z (h.2.2.2 z)⟩
theorem Vl.cr {m : Bool} {s s' : S1} {k : Int32} {v : Int64} (h : Vl m s k v) (hs : Cr m s s') : Vl m s' k v := by
  rcases h with h | h | ⟨h1, h2, h3, h4, h5⟩
  · exact Or.inl h
  · exact Or.inr (Or.inl h)
  · exact Or.inr (Or.inr ⟨h1, h2, h3, h4, h5.cr hs⟩)
theorem FrV.cr {m : Bool} {s s' : S1} {t f : Int32} (h : FrV m s t f) (hs : Cr m s s') : FrV m s' t f := by
  obtain ⟨h1, h2⟩ := h
  unfold FrV
  simp only [a_sort, a_tag, a_first, a_second, a_third, a_chain, a_free, a_text, a_heads, a_ek, a_ev, a_vk, a_vv, a_follow, a_bucket, a_registers, f_used, v_variable_k, v_variable_v, v_stack_k, v_stack_v, v_row_k, v_row_v, v_start_n, v_start_k, v_start_v, t_place, t_frames, t_openCount, t_open, t_kind, t_function, t_base, t_extra, t_rowCount, p_ek, p_vk, p_ev, p_vv, p_follow, hs.A 5 (by decide), hs.A 20 (by decide), hs.A 23 (by decide), hs.A 26 (by decide), hs.A 29 (by decide), hs.A 30 (by decide), hs.A 31 (by decide), hs.A 32 (by decide), hs.A 33 (by decide), hs.A 34 (by decide), hs.A 35 (by decide), hs.A 36 (by decide), hs.A 44 (by decide), hs.A 58 (by decide), hs.A 60 (by decide), hs.A 61 (by decide), hs.A 62 (by decide), hs.A 63 (by decide), hs.A 64 (by decide), hs.A 65 (by decide), hs.A 66 (by decide), hs.A 67 (by decide), hs.A 68 (by decide), hs.A 69 (by decide), hs.A 70 (by decide), hs.A 73 (by decide), hs.B 6, hs.B 21, hs.B 24, hs.B 27, hs.B 71, hs.B 72, hs.I 40 (by decide), hs.I 3202 (by decide), hs.I 3584 (by decide), hs.I 3586 (by decide), hs.I 3587 (by decide), hs.I 8959 (by decide), hs.I 9087 (by decide), hs.I 9215 (by decide), hs.I 9343 (by decide), hs.I 9471 (by decide)] at *
  exact ⟨fun z => (h1 z).cr hs, fun z => ⟨fun i a b => ((h2 z).1 i a b).cr hs, fun y i a b => ((h2 z).2 y i a b).cr hs⟩⟩
theorem ThV.cr {m : Bool} {s s' : S1} {t : Int32} (h : ThV m s t) (hs : Cr m s s') : ThV m s' t := by
  obtain ⟨h1, h2, h3⟩ := h
  unfold ThV
  simp only [a_sort, a_tag, a_first, a_second, a_third, a_chain, a_free, a_text, a_heads, a_ek, a_ev, a_vk, a_vv, a_follow, a_bucket, a_registers, f_used, v_variable_k, v_variable_v, v_stack_k, v_stack_v, v_row_k, v_row_v, v_start_n, v_start_k, v_start_v, t_place, t_frames, t_openCount, t_open, t_kind, t_function, t_base, t_extra, t_rowCount, p_ek, p_vk, p_ev, p_vv, p_follow, hs.A 5 (by decide), hs.A 20 (by decide), hs.A 23 (by decide), hs.A 26 (by decide), hs.A 29 (by decide), hs.A 30 (by decide), hs.A 31 (by decide), hs.A 32 (by decide), hs.A 33 (by decide), hs.A 34 (by decide), hs.A 35 (by decide), hs.A 36 (by decide), hs.A 44 (by decide), hs.A 58 (by decide), hs.A 60 (by decide), hs.A 61 (by decide), hs.A 62 (by decide), hs.A 63 (by decide), hs.A 64 (by decide), hs.A 65 (by decide), hs.A 66 (by decide), hs.A 67 (by decide), hs.A 68 (by decide), hs.A 69 (by decide), hs.A 70 (by decide), hs.A 73 (by decide), hs.B 6, hs.B 21, hs.B 24, hs.B 27, hs.B 71, hs.B 72, hs.I 40 (by decide), hs.I 3202 (by decide), hs.I 3584 (by decide), hs.I 3586 (by decide), hs.I 3587 (by decide), hs.I 8959 (by decide), hs.I 9087 (by decide), hs.I 9215 (by decide), hs.I 9343 (by decide), hs.I 9471 (by decide)] at *
  exact ⟨fun i a b => (h1 i a b).cr hs, fun f a b => (h2 f a b).cr hs, fun k a b => (h3 k a b).cr hs⟩
theorem PcV.cr {m : Bool} {s s' : S1} {x : Int32} (h : PcV m s x) (hs : Cr m s s') : PcV m s' x := by
  obtain ⟨h1, h2, h3, h4⟩ := h
  refine ⟨fun z => ?_, fun z => ?_, fun z => ?_, fun z => ?_⟩
  · simp only [a_sort, a_tag, a_first, a_second, a_third, a_chain, a_free, a_text, a_heads, a_ek, a_ev, a_vk, a_vv, a_follow, a_bucket, a_registers, f_used, v_variable_k, v_variable_v, v_stack_k, v_stack_v, v_row_k, v_row_v, v_start_n, v_start_k, v_start_v, t_place, t_frames, t_openCount, t_open, t_kind, t_function, t_base, t_extra, t_rowCount, p_ek, p_vk, p_ev, p_vv, p_follow, hs.A 5 (by decide), hs.A 20 (by decide), hs.A 23 (by decide), hs.A 26 (by decide), hs.A 29 (by decide), hs.A 30 (by decide), hs.A 31 (by decide), hs.A 32 (by decide), hs.A 33 (by decide), hs.A 34 (by decide), hs.A 35 (by decide), hs.A 36 (by decide), hs.A 44 (by decide), hs.A 58 (by decide), hs.A 60 (by decide), hs.A 61 (by decide), hs.A 62 (by decide), hs.A 63 (by decide), hs.A 64 (by decide), hs.A 65 (by decide), hs.A 66 (by decide), hs.A 67 (by decide), hs.A 68 (by decide), hs.A 69 (by decide), hs.A 70 (by decide), hs.A 73 (by decide), hs.B 6, hs.B 21, hs.B 24, hs.B 27, hs.B 71, hs.B 72, hs.I 40 (by decide), hs.I 3202 (by decide), hs.I 3584 (by decide), hs.I 3586 (by decide), hs.I 3587 (by decide), hs.I 8959 (by decide), hs.I 9087 (by decide), hs.I 9215 (by decide), hs.I 9343 (by decide), hs.I 9471 (by decide)] at *
    obtain ⟨a, b⟩ := h1 z
    unfold TbV
    simp only [a_sort, a_tag, a_first, a_second, a_third, a_chain, a_free, a_text, a_heads, a_ek, a_ev, a_vk, a_vv, a_follow, a_bucket, a_registers, f_used, v_variable_k, v_variable_v, v_stack_k, v_stack_v, v_row_k, v_row_v, v_start_n, v_start_k, v_start_v, t_place, t_frames, t_openCount, t_open, t_kind, t_function, t_base, t_extra, t_rowCount, p_ek, p_vk, p_ev, p_vv, p_follow, hs.A 5 (by decide), hs.A 20 (by decide), hs.A 23 (by decide), hs.A 26 (by decide), hs.A 29 (by decide), hs.A 30 (by decide), hs.A 31 (by decide), hs.A 32 (by decide), hs.A 33 (by decide), hs.A 34 (by decide), hs.A 35 (by decide), hs.A 36 (by decide), hs.A 44 (by decide), hs.A 58 (by decide), hs.A 60 (by decide), hs.A 61 (by decide), hs.A 62 (by decide), hs.A 63 (by decide), hs.A 64 (by decide), hs.A 65 (by decide), hs.A 66 (by decide), hs.A 67 (by decide), hs.A 68 (by decide), hs.A 69 (by decide), hs.A 70 (by decide), hs.A 73 (by decide), hs.B 6, hs.B 21, hs.B 24, hs.B 27, hs.B 71, hs.B 72, hs.I 40 (by decide), hs.I 3202 (by decide), hs.I 3584 (by decide), hs.I 3586 (by decide), hs.I 3587 (by decide), hs.I 8959 (by decide), hs.I 9087 (by decide), hs.I 9215 (by decide), hs.I 9343 (by decide), hs.I 9471 (by decide)] at *
    exact ⟨a.imp id (fun y => y.cr hs), fun k c d => ⟨(b k c d).1.cr hs, (b k c d).2.cr hs⟩⟩
  · simp only [a_sort, a_tag, a_first, a_second, a_third, a_chain, a_free, a_text, a_heads, a_ek, a_ev, a_vk, a_vv, a_follow, a_bucket, a_registers, f_used, v_variable_k, v_variable_v, v_stack_k, v_stack_v, v_row_k, v_row_v, v_start_n, v_start_k, v_start_v, t_place, t_frames, t_openCount, t_open, t_kind, t_function, t_base, t_extra, t_rowCount, p_ek, p_vk, p_ev, p_vv, p_follow, hs.A 5 (by decide), hs.A 20 (by decide), hs.A 23 (by decide), hs.A 26 (by decide), hs.A 29 (by decide), hs.A 30 (by decide), hs.A 31 (by decide), hs.A 32 (by decide), hs.A 33 (by decide), hs.A 34 (by decide), hs.A 35 (by decide), hs.A 36 (by decide), hs.A 44 (by decide), hs.A 58 (by decide), hs.A 60 (by decide), hs.A 61 (by decide), hs.A 62 (by decide), hs.A 63 (by decide), hs.A 64 (by decide), hs.A 65 (by decide), hs.A 66 (by decide), hs.A 67 (by decide), hs.A 68 (by decide), hs.A 69 (by decide), hs.A 70 (by decide), hs.A 73 (by decide), hs.B 6, hs.B 21, hs.B 24, hs.B 27, hs.B 71, hs.B 72, hs.I 40 (by decide), hs.I 3202 (by decide), hs.I 3584 (by decide), hs.I 3586 (by decide), hs.I 3587 (by decide), hs.I 8959 (by decide), hs.I 9087 (by decide), hs.I 9215 (by decide), hs.I 9343 (by decide), hs.I 9471 (by decide)] at *
    obtain ⟨a, b⟩ := h2 z
    unfold FnV
    simp only [a_sort, a_tag, a_first, a_second, a_third, a_chain, a_free, a_text, a_heads, a_ek, a_ev, a_vk, a_vv, a_follow, a_bucket, a_registers, f_used, v_variable_k, v_variable_v, v_stack_k, v_stack_v, v_row_k, v_row_v, v_start_n, v_start_k, v_start_v, t_place, t_frames, t_openCount, t_open, t_kind, t_function, t_base, t_extra, t_rowCount, p_ek, p_vk, p_ev, p_vv, p_follow, hs.A 5 (by decide), hs.A 20 (by decide), hs.A 23 (by decide), hs.A 26 (by decide), hs.A 29 (by decide), hs.A 30 (by decide), hs.A 31 (by decide), hs.A 32 (by decide), hs.A 33 (by decide), hs.A 34 (by decide), hs.A 35 (by decide), hs.A 36 (by decide), hs.A 44 (by decide), hs.A 58 (by decide), hs.A 60 (by decide), hs.A 61 (by decide), hs.A 62 (by decide), hs.A 63 (by decide), hs.A 64 (by decide), hs.A 65 (by decide), hs.A 66 (by decide), hs.A 67 (by decide), hs.A 68 (by decide), hs.A 69 (by decide), hs.A 70 (by decide), hs.A 73 (by decide), hs.B 6, hs.B 21, hs.B 24, hs.B 27, hs.B 71, hs.B 72, hs.I 40 (by decide), hs.I 3202 (by decide), hs.I 3584 (by decide), hs.I 3586 (by decide), hs.I 3587 (by decide), hs.I 8959 (by decide), hs.I 9087 (by decide), hs.I 9215 (by decide), hs.I 9343 (by decide), hs.I 9471 (by decide)] at *
    exact ⟨fun y => (a y).cr hs, fun y k c d => (b y k c d).cr hs⟩
  · simp only [a_sort, a_tag, a_first, a_second, a_third, a_chain, a_free, a_text, a_heads, a_ek, a_ev, a_vk, a_vv, a_follow, a_bucket, a_registers, f_used, v_variable_k, v_variable_v, v_stack_k, v_stack_v, v_row_k, v_row_v, v_start_n, v_start_k, v_start_v, t_place, t_frames, t_openCount, t_open, t_kind, t_function, t_base, t_extra, t_rowCount, p_ek, p_vk, p_ev, p_vv, p_follow, hs.A 5 (by decide), hs.A 20 (by decide), hs.A 23 (by decide), hs.A 26 (by decide), hs.A 29 (by decide), hs.A 30 (by decide), hs.A 31 (by decide), hs.A 32 (by decide), hs.A 33 (by decide), hs.A 34 (by decide), hs.A 35 (by decide), hs.A 36 (by decide), hs.A 44 (by decide), hs.A 58 (by decide), hs.A 60 (by decide), hs.A 61 (by decide), hs.A 62 (by decide), hs.A 63 (by decide), hs.A 64 (by decide), hs.A 65 (by decide), hs.A 66 (by decide), hs.A 67 (by decide), hs.A 68 (by decide), hs.A 69 (by decide), hs.A 70 (by decide), hs.A 73 (by decide), hs.B 6, hs.B 21, hs.B 24, hs.B 27, hs.B 71, hs.B 72, hs.I 40 (by decide), hs.I 3202 (by decide), hs.I 3584 (by decide), hs.I 3586 (by decide), hs.I 3587 (by decide), hs.I 8959 (by decide), hs.I 9087 (by decide), hs.I 9215 (by decide), hs.I 9343 (by decide), hs.I 9471 (by decide)] at *
    exact (h3 z).cr hs
  · simp only [a_sort, a_tag, a_first, a_second, a_third, a_chain, a_free, a_text, a_heads, a_ek, a_ev, a_vk, a_vv, a_follow, a_bucket, a_registers, f_used, v_variable_k, v_variable_v, v_stack_k, v_stack_v, v_row_k, v_row_v, v_start_n, v_start_k, v_start_v, t_place, t_frames, t_openCount, t_open, t_kind, t_function, t_base, t_extra, t_rowCount, p_ek, p_vk, p_ev, p_vv, p_follow, hs.A 5 (by decide), hs.A 20 (by decide), hs.A 23 (by decide), hs.A 26 (by decide), hs.A 29 (by decide), hs.A 30 (by decide), hs.A 31 (by decide), hs.A 32 (by decide), hs.A 33 (by decide), hs.A 34 (by decide), hs.A 35 (by decide), hs.A 36 (by decide), hs.A 44 (by decide), hs.A 58 (by decide), hs.A 60 (by decide), hs.A 61 (by decide), hs.A 62 (by decide), hs.A 63 (by decide), hs.A 64 (by decide), hs.A 65 (by decide), hs.A 66 (by decide), hs.A 67 (by decide), hs.A 68 (by decide), hs.A 69 (by decide), hs.A 70 (by decide), hs.A 73 (by decide), hs.B 6, hs.B 21, hs.B 24, hs.B 27, hs.B 71, hs.B 72, hs.I 40 (by decide), hs.I 3202 (by decide), hs.I 3584 (by decide), hs.I 3586 (by decide), hs.I 3587 (by decide), hs.I 8959 (by decide), hs.I 9087 (by decide), hs.I 9215 (by decide), hs.I 9343 (by decide), hs.I 9471 (by decide)] at *
    obtain ⟨a, b⟩ := h4 z
    unfold VrV
    simp only [a_sort, a_tag, a_first, a_second, a_third, a_chain, a_free, a_text, a_heads, a_ek, a_ev, a_vk, a_vv, a_follow, a_bucket, a_registers, f_used, v_variable_k, v_variable_v, v_stack_k, v_stack_v, v_row_k, v_row_v, v_start_n, v_start_k, v_start_v, t_place, t_frames, t_openCount, t_open, t_kind, t_function, t_base, t_extra, t_rowCount, p_ek, p_vk, p_ev, p_vv, p_follow, hs.A 5 (by decide), hs.A 20 (by decide), hs.A 23 (by decide), hs.A 26 (by decide), hs.A 29 (by decide), hs.A 30 (by decide), hs.A 31 (by decide), hs.A 32 (by decide), hs.A 33 (by decide), hs.A 34 (by decide), hs.A 35 (by decide), hs.A 36 (by decide), hs.A 44 (by decide), hs.A 58 (by decide), hs.A 60 (by decide), hs.A 61 (by decide), hs.A 62 (by decide), hs.A 63 (by decide), hs.A 64 (by decide), hs.A 65 (by decide), hs.A 66 (by decide), hs.A 67 (by decide), hs.A 68 (by decide), hs.A 69 (by decide), hs.A 70 (by decide), hs.A 73 (by decide), hs.B 6, hs.B 21, hs.B 24, hs.B 27, hs.B 71, hs.B 72, hs.I 40 (by decide), hs.I 3202 (by decide), hs.I 3584 (by decide), hs.I 3586 (by decide), hs.I 3587 (by decide), hs.I 8959 (by decide), hs.I 9087 (by decide), hs.I 9215 (by decide), hs.I 9343 (by decide), hs.I 9471 (by decide)] at *
    exact ⟨fun y => (a y).cr hs, fun y => (b y).cr hs⟩
theorem Rm.cr {s s' : S1} (h : Rm s) (hs : Cr false s s') : Rm s' := by
  unfold Rm at *
  simp only [a_sort, a_tag, a_first, a_second, a_third, a_chain, a_free, a_text, a_heads, a_ek, a_ev, a_vk, a_vv, a_follow, a_bucket, a_registers, f_used, v_variable_k, v_variable_v, v_stack_k, v_stack_v, v_row_k, v_row_v, v_start_n, v_start_k, v_start_v, t_place, t_frames, t_openCount, t_open, t_kind, t_function, t_base, t_extra, t_rowCount, p_ek, p_vk, p_ev, p_vv, p_follow, p_bucket, hs.A 5 (by decide), hs.A 20 (by decide), hs.A 23 (by decide), hs.A 26 (by decide), hs.A 29 (by decide), hs.A 30 (by decide), hs.A 31 (by decide), hs.A 32 (by decide), hs.A 33 (by decide), hs.A 34 (by decide), hs.A 35 (by decide), hs.A 36 (by decide), hs.A 44 (by decide), hs.A 58 (by decide), hs.A 60 (by decide), hs.A 61 (by decide), hs.A 62 (by decide), hs.A 63 (by decide), hs.A 64 (by decide), hs.A 65 (by decide), hs.A 66 (by decide), hs.A 67 (by decide), hs.A 68 (by decide), hs.A 69 (by decide), hs.A 70 (by decide), hs.A 73 (by decide), hs.B 6, hs.B 21, hs.B 24, hs.B 27, hs.B 71, hs.B 72, hs.I 40 (by decide), hs.I 3202 (by decide), hs.I 3584 (by decide), hs.I 3586 (by decide), hs.I 3587 (by decide), hs.I 8959 (by decide), hs.I 9087 (by decide), hs.I 9215 (by decide), hs.I 9343 (by decide), hs.I 9471 (by decide), hs.I 9599 (by decide)] at *
  exact h
theorem FrS.cr {s s' : S1} {t f : Int32} (h : FrS s t f) (hs : Cr false s s') : FrS s' t f := by
  unfold FrS at *
  simp only [a_sort, a_tag, a_first, a_second, a_third, a_chain, a_free, a_text, a_heads, a_ek, a_ev, a_vk, a_vv, a_follow, a_bucket, a_registers, f_used, v_variable_k, v_variable_v, v_stack_k, v_stack_v, v_row_k, v_row_v, v_start_n, v_start_k, v_start_v, t_place, t_frames, t_openCount, t_open, t_kind, t_function, t_base, t_extra, t_rowCount, p_ek, p_vk, p_ev, p_vv, p_follow, hs.A 5 (by decide), hs.A 20 (by decide), hs.A 23 (by decide), hs.A 26 (by decide), hs.A 29 (by decide), hs.A 30 (by decide), hs.A 31 (by decide), hs.A 32 (by decide), hs.A 33 (by decide), hs.A 34 (by decide), hs.A 35 (by decide), hs.A 36 (by decide), hs.A 44 (by decide), hs.A 58 (by decide), hs.A 60 (by decide), hs.A 61 (by decide), hs.A 62 (by decide), hs.A 63 (by decide), hs.A 64 (by decide), hs.A 65 (by decide), hs.A 66 (by decide), hs.A 67 (by decide), hs.A 68 (by decide), hs.A 69 (by decide), hs.A 70 (by decide), hs.A 73 (by decide), hs.B 6, hs.B 21, hs.B 24, hs.B 27, hs.B 71, hs.B 72, hs.I 40 (by decide), hs.I 3202 (by decide), hs.I 3584 (by decide), hs.I 3586 (by decide), hs.I 3587 (by decide), hs.I 8959 (by decide), hs.I 9087 (by decide), hs.I 9215 (by decide), hs.I 9343 (by decide), hs.I 9471 (by decide)] at *
  exact h
theorem Ts.cr {s s' : S1} {t : Int32} (h : Ts s t) (hs : Cr false s s') : Ts s' t := by
  obtain ⟨h1, h2, h3, h4⟩ := h
  unfold Ts
  simp only [a_sort, a_tag, a_first, a_second, a_third, a_chain, a_free, a_text, a_heads, a_ek, a_ev, a_vk, a_vv, a_follow, a_bucket, a_registers, f_used, v_variable_k, v_variable_v, v_stack_k, v_stack_v, v_row_k, v_row_v, v_start_n, v_start_k, v_start_v, t_place, t_frames, t_openCount, t_open, t_kind, t_function, t_base, t_extra, t_rowCount, p_ek, p_vk, p_ev, p_vv, p_follow, hs.A 5 (by decide), hs.A 20 (by decide), hs.A 23 (by decide), hs.A 26 (by decide), hs.A 29 (by decide), hs.A 30 (by decide), hs.A 31 (by decide), hs.A 32 (by decide), hs.A 33 (by decide), hs.A 34 (by decide), hs.A 35 (by decide), hs.A 36 (by decide), hs.A 44 (by decide), hs.A 58 (by decide), hs.A 60 (by decide), hs.A 61 (by decide), hs.A 62 (by decide), hs.A 63 (by decide), hs.A 64 (by decide), hs.A 65 (by decide), hs.A 66 (by decide), hs.A 67 (by decide), hs.A 68 (by decide), hs.A 69 (by decide), hs.A 70 (by decide), hs.A 73 (by decide), hs.B 6, hs.B 21, hs.B 24, hs.B 27, hs.B 71, hs.B 72, hs.I 40 (by decide), hs.I 3202 (by decide), hs.I 3584 (by decide), hs.I 3586 (by decide), hs.I 3587 (by decide), hs.I 8959 (by decide), hs.I 9087 (by decide), hs.I 9215 (by decide), hs.I 9343 (by decide), hs.I 9471 (by decide)] at *
  exact ⟨h1, h2, h3, fun f a b => (h4 f a b).cr hs⟩
theorem Sh.cr {s s' : S1} {x : Int32} (h : Sh s x) (hs : Cr false s s') : Sh s' x := by
  unfold Sh at *
  simp only [a_sort, a_tag, a_first, a_second, a_third, a_chain, a_free, a_text, a_heads, a_ek, a_ev, a_vk, a_vv, a_follow, a_bucket, a_registers, f_used, v_variable_k, v_variable_v, v_stack_k, v_stack_v, v_row_k, v_row_v, v_start_n, v_start_k, v_start_v, t_place, t_frames, t_openCount, t_open, t_kind, t_function, t_base, t_extra, t_rowCount, p_ek, p_vk, p_ev, p_vv, p_follow, f_entryTop, hs.A 5 (by decide), hs.A 20 (by decide), hs.A 23 (by decide), hs.A 26 (by decide), hs.A 29 (by decide), hs.A 30 (by decide), hs.A 31 (by decide), hs.A 32 (by decide), hs.A 33 (by decide), hs.A 34 (by decide), hs.A 35 (by decide), hs.A 36 (by decide), hs.A 44 (by decide), hs.A 58 (by decide), hs.A 60 (by decide), hs.A 61 (by decide), hs.A 62 (by decide), hs.A 63 (by decide), hs.A 64 (by decide), hs.A 65 (by decide), hs.A 66 (by decide), hs.A 67 (by decide), hs.A 68 (by decide), hs.A 69 (by decide), hs.A 70 (by decide), hs.A 73 (by decide), hs.B 6, hs.B 21, hs.B 24, hs.B 27, hs.B 71, hs.B 72, hs.I 40 (by decide), hs.I 3202 (by decide), hs.I 3584 (by decide), hs.I 3586 (by decide), hs.I 3587 (by decide), hs.I 8959 (by decide), hs.I 9087 (by decide), hs.I 9215 (by decide), hs.I 9343 (by decide), hs.I 9471 (by decide), hs.I 41 (by decide)] at *
  exact ⟨h.1, h.2.1, fun z => ⟨(h.2.2.1 z).1, (h.2.2.1 z).2.1, (h.2.2.1 z).2.2.1, (h.2.2.1 z).2.2.2.cr hs⟩, h.2.2.2⟩
/-- what is marked is grey, or all that it names is marked -/
def Bk (s : S1) : Prop := ∀ x, 0 ≤ x → x < f_used s → a_marked s x ≠ 0 → (∃ i, 0 ≤ i ∧ i < f_greys s ∧ a_grey s i = x) ∨ PcV true s x
/-- places have their shape and hold what they may -/
def Hv (s : S1) : Prop := Rm s ∧ (0 ≤ f_entryTop s ∧ f_entryTop s ≤ 300000) ∧ ∀ x, 0 ≤ x → x < f_used s → Sh s x ∧ PcV false s x
theorem Hv.cr {s s' : S1} (h : Hv s) (hs : Cr false s s') : Hv s' := by
  obtain ⟨h1, h2, h3⟩ := h
  unfold Hv
  refine ⟨h1.cr hs, ?_, ?_⟩
  · show 0 ≤ gI s' 41 0 ∧ gI s' 41 0 ≤ 300000
    rw [hs.I 41 (by decide)]
    exact h2
  · show ∀ x, 0 ≤ x → x < gI s' 40 0 → _
    rw [hs.I 40 (by decide)]
    exact fun x a b => ⟨(h3 x a b).1.cr hs, (h3 x a b).2.cr hs⟩
theorem Bk.step {s s' : S1} (h : Bk s) (hg : Grey s) (hs : MStep s s') : Bk s' := by
  intro x a b c
  have b' : x < f_used s := by
    show x < gI s 40 0
    rw [← hs.I 40 (by decide)]
    exact b
  have h0 := hg.2.1
  have hl := hs.2.2.1
  rcases hs.2.2.2.2.1 x c with d | ⟨i, d, e, f⟩
  · rcases h x a b' d with ⟨i, d, e, f⟩ | d
    · exact Or.inl ⟨i, d, by clear hs h hg; grind, by rw [hs.2.2.2.1 i d e]; exact f⟩
    · exact Or.inr (d.step hs)
  · exact Or.inl ⟨i, by clear hs h hg; grind, e, f⟩
theorem clamp_le {a b : Int32} (h2 : a ≤ b) : a.toNatClampNeg ≤ b.toNatClampNeg := by
  rw [i32_le] at h2
  unfold Int32.toNatClampNeg
  omega
theorem mark218_ok (s : S1) (hg : Grey s) (hh : Hv s) (hb : Bk s) : ok (oW M_Mo_collection_L218 ()) s (fun _ s' => Grey s' ∧ f_greys s' = 0 ∧ Cr true s s' ∧ Bk s') := by
  refine ok_W (fun _ s' => Grey s' ∧ Cr true s s' ∧ Bk s') (fun _ s' => 2 * (4100 - q_cnt s') + (f_greys s').toNatClampNeg) ?_ _ _ ⟨hg, Cr.refl true s, hb⟩
  rintro ⟨⟩ s1 ⟨hg1, hs1, hb1⟩
  simp only [M_Mo_collection_L218, ok_B, ok_C, ok_R, ok_L, ok_K, ok_GI, ok_GL, ok_PI, ok_PL, ok_AI, ok_AL, ok_SI, ok_SL, ok_Pr, ok_CI, cmp_lt, cmp_le, cmp_gt, cmp_ge, cmp_eq, nar0, nar1, Sum.elim_inl, Sum.elim_inr]
  have hh1 := hh.cr hs1.low
  have hle := hg1.le
  have hu := hg1.1
  have h0 := hg1.2.1
  refine ⟨fun c => ⟨hg1, ?_, hs1, hb1⟩, fun c => ⟨?_, ?_⟩⟩
  · simp only [f_greys, f_used] at *
    clear hg1 hs1 hb1 hh1 hh hb hg
    grind
  · simp only [f_greys, f_used] at *
    clear hg1 hs1 hb1 hh1 hh hb hg
    grind
  simp only [gA_sI]
  have hr2 : Cr true s1 (sI s1 69 0 (gI s1 69 0 - 1)) := ⟨⟨fun f i _ _ d => by simp only [gI_sI, gI_sL, gI_sA, gI_sB, gI_sAf, gI_sBf, gL_sI, gL_sL, gL_sA, gL_sB, gL_sAf, gL_sBf, gA_sI, gA_sL, gA_sA, gA_sB, gA_sAf, gA_sBf, gB_sI, gB_sL, gB_sA, gB_sB, gB_sAf, gB_sBf, Nat.reduceEqDiff, Nat.reduceMul, Nat.reduceAdd, false_and, true_and, and_true, and_false, if_true, if_false]; rw [if_neg (fun z => d z.1)], fun _ _ _ => rfl, fun _ _ _ _ _ => rfl, fun _ _ _ => rfl⟩, fun _ _ d => d⟩
  have hk : gI s1 69 0 - 1 < gI s1 69 0 ∧ 0 ≤ gI s1 69 0 - 1 := by
    simp only [f_greys, f_used] at *
    clear hg1 hs1 hb1 hh1 hh hb hg hr2
    grind
  have hg2 : Grey (sI s1 69 0 (gI s1 69 0 - 1)) := by
    obtain ⟨q1, q2, q3, q4⟩ := hg1
    unfold Grey
    simp only [f_greys, f_used, a_grey, a_marked, gI_sI, gI_sL, gI_sA, gI_sB, gI_sAf, gI_sBf, gL_sI, gL_sL, gL_sA, gL_sB, gL_sAf, gL_sBf, gA_sI, gA_sL, gA_sA, gA_sB, gA_sAf, gA_sBf, gB_sI, gB_sL, gB_sA, gB_sB, gB_sAf, gB_sBf, Nat.reduceEqDiff, Nat.reduceMul, Nat.reduceAdd, false_and, true_and, and_true, and_false, if_true, if_false] at *
    exact ⟨q1, hk.2, fun i a b => q3 i a (by clear q3 q4 hs1 hb1 hh1 hh hb hg hr2; grind), fun i j a b d => q4 i j a b (by clear q3 q4 hs1 hb1 hh1 hh hb hg hr2; grind)⟩
  have hx := hg1.2.2.1 (gI s1 69 0 - 1) hk.2 hk.1
  have hh2 := hh1.cr hr2.low
  have hx2 := hh2.2.2 _ hx.1 (show a_grey s1 (gI s1 69 0 - 1) < gI (sI s1 69 0 (gI s1 69 0 - 1)) 40 0 from by simp only [gI_sI, gI_sL, gI_sA, gI_sB, gI_sAf, gI_sBf, gL_sI, gL_sL, gL_sA, gL_sB, gL_sAf, gL_sBf, gA_sI, gA_sL, gA_sA, gA_sB, gA_sAf, gA_sBf, gB_sI, gB_sL, gB_sA, gB_sB, gB_sAf, gB_sBf, Nat.reduceEqDiff, Nat.reduceMul, Nat.reduceAdd, false_and, true_and, and_true, and_false, if_true, if_false]; exact hx.2.1)
  refine ok_mono (follow_ok _ _ hg2 ⟨hx.1, (show a_grey s1 (gI s1 69 0 - 1) < gI (sI s1 69 0 (gI s1 69 0 - 1)) 40 0 from by simp only [gI_sI, gI_sL, gI_sA, gI_sB, gI_sAf, gI_sBf, gL_sI, gL_sL, gL_sA, gL_sB, gL_sAf, gL_sBf, gA_sI, gA_sL, gA_sA, gA_sB, gA_sAf, gA_sBf, gB_sI, gB_sL, gB_sA, gB_sB, gB_sAf, gB_sBf, Nat.reduceEqDiff, Nat.reduceMul, Nat.reduceAdd, false_and, true_and, and_true, and_false, if_true, if_false]; exact hx.2.1)⟩ hh2.1 hh2.2.1 hx2.1 hx2.2) fun _ s3 ⟨hg3, hs3, hk3⟩ => ?_
  have hr3 := hr2.trans (hs3.cr true)
  refine ⟨⟨hg3, hs1.trans hr3, fun y a b c' => ?_⟩, ?_⟩
  · have b' : y < f_used s1 := by
      show y < gI s1 40 0
      rw [← hr3.I 40 (by decide)]
      exact b
    have hl := hs3.2.2.1
    have eg : f_greys (sI s1 69 0 (gI s1 69 0 - 1)) = gI s1 69 0 - 1 := by simp only [f_greys, gI_sI, gI_sL, gI_sA, gI_sB, gI_sAf, gI_sBf, gL_sI, gL_sL, gL_sA, gL_sB, gL_sAf, gL_sBf, gA_sI, gA_sL, gA_sA, gA_sB, gA_sAf, gA_sBf, gB_sI, gB_sL, gB_sA, gB_sB, gB_sAf, gB_sBf, Nat.reduceEqDiff, Nat.reduceMul, Nat.reduceAdd, false_and, true_and, and_true, and_false, if_true, if_false]
    rw [eg] at hl
    rcases hs3.2.2.2.2.1 y c' with d | ⟨i, d, e, f⟩
    · rcases hb1 y a b' d with ⟨i, d, e, f⟩ | d
      · by_cases hi : i = gI s1 69 0 - 1
        · right
          rw [← f, hi]
          exact hk3
        · left
          have hi2 : i < gI s1 69 0 - 1 := by
            simp only [f_greys, f_used] at *
            clear hg1 hs1 hb1 hh1 hh hb hg hr2 hs3 hg3 hk3 hr3 hh2 hx2 hg2 hx
            grind
          refine ⟨i, d, ?_, ?_⟩
          · simp only [f_greys, f_used] at *
            clear hg1 hs1 hb1 hh1 hh hb hg hr2 hs3 hg3 hk3 hr3 hh2 hx2 hg2 hx
            grind
          · rw [hs3.2.2.2.1 i d (by rw [eg]; exact hi2)]
            exact f
      · exact Or.inr (d.cr hr3)
    · refine Or.inl ⟨i, ?_, e, f⟩
      rw [eg] at d
      have := hk.2
      clear hg1 hs1 hb1 hh1 hh hb hg hr2 hs3 hg3 hk3 hr3 hh2 hx2 hg2 hx
      grind
  · have e1 := hs3.2.2.2.2.2
    have hl := clamp_le hs3.2.2.1
    have eg : f_greys (sI s1 69 0 (gI s1 69 0 - 1)) = gI s1 69 0 - 1 := by simp only [f_greys, gI_sI, gI_sL, gI_sA, gI_sB, gI_sAf, gI_sBf, gL_sI, gL_sL, gL_sA, gL_sB, gL_sAf, gL_sBf, gA_sI, gA_sL, gA_sA, gA_sB, gA_sAf, gA_sBf, gB_sI, gB_sL, gB_sA, gB_sB, gB_sAf, gB_sBf, Nat.reduceEqDiff, Nat.reduceMul, Nat.reduceAdd, false_and, true_and, and_true, and_false, if_true, if_false]
    have ec : q_cnt (sI s1 69 0 (gI s1 69 0 - 1)) = q_cnt s1 := rfl
    have es := clamp_succ (g := gI s1 69 0 - 1) hk.2 (by
      simp only [f_greys, f_used] at *
      clear hg1 hs1 hb1 hh1 hh hb hg hr2 hs3 hg3 hk3 hr3 hh2 hx2 hg2 hx e1 hl
      grind)
    rw [show gI s1 69 0 - 1 + 1 = gI s1 69 0 from by grind] at es
    have c3 := cnt_le s3
    rw [eg, ec] at e1
    rw [eg] at hl
    show 2 * (4100 - q_cnt s3) + (f_greys s3).toNatClampNeg < 2 * (4100 - q_cnt s1) + (gI s1 69 0).toNatClampNeg
    omega
