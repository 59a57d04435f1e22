/-! A new place x of sort k, filled: the others stay as they were. -/
def Mk2 (s s' : S1) (x k : Int32) : Prop := (0 ≤ x ∧ x < f_used s' ∧ f_used s' ≤ 4000) ∧ (∀ z, z < f_used s → z < f_used s') ∧ (∀ z, z ≠ x → z < f_used s' → z < f_used s) ∧ (x < f_used s → a_sort s x = 0) ∧ Frl s' ∧
  (∀ f i, f ≠ 33 → f ≠ 34 → f ≠ 37 → f ≠ 40 → f ≠ 41 → f ≠ 42 → f ≠ 43 → f ≠ 54 → f ≠ 38 → f ≠ 44 → gI s' f i = gI s f i) ∧ (∀ f i, gL s' f i = gL s f i) ∧
  (∀ a i j, a ≠ 5 → a ≠ 58 → a ≠ 60 → a ≠ 61 → a ≠ 62 → a ≠ 63 → a ≠ 64 → a ≠ 65 → a ≠ 73 → a ≠ 67 → a ≠ 68 → gA s' a i j = gA s a i j) ∧ (∀ a i j, a ≠ 6 → gB s' a i j = gB s a i j) ∧
  (∀ z, a_sort s' z = if z = x then k else a_sort s z) ∧ (∀ z, z ≠ x → a_first s' z = a_first s z ∧ a_second s' z = a_second s z ∧ a_third s' z = a_third s z ∧ a_chain s' z = a_chain s z ∧ a_tag s' z = a_tag s z ∧ v_variable_k s' z = v_variable_k s z ∧ v_variable_v s' z = v_variable_v s z ∧ a_fixed s' z = a_fixed s z) ∧
  (∀ j, j < f_entryTop s → a_follow s' j = a_follow s j) ∧ (f_entryTop s ≤ f_entryTop s' ∧ f_entryTop s' ≤ 300000) ∧ f_made s' = f_made s + 1 ∧ f_madeAll s' = f_madeAll s + 1 ∧ a_tag s' x = f_made s ∧ a_fixed s' x = 0
theorem Mk2.I {s s' : S1} {x k : Int32} (h : Mk2 s s' x k) (f : Nat) (hf : f ≠ 33 ∧ f ≠ 34 ∧ f ≠ 37 ∧ f ≠ 40 ∧ f ≠ 41 ∧ f ≠ 42 ∧ f ≠ 43 ∧ f ≠ 54 ∧ f ≠ 38 ∧ f ≠ 44) (i : Int32) : gI s' f i = gI s f i := h.2.2.2.2.2.1 f i hf.1 hf.2.1 hf.2.2.1 hf.2.2.2.1 hf.2.2.2.2.1 hf.2.2.2.2.2.1 hf.2.2.2.2.2.2.1 hf.2.2.2.2.2.2.2.1 hf.2.2.2.2.2.2.2.2.1 hf.2.2.2.2.2.2.2.2.2
theorem Mk2.L {s s' : S1} {x k : Int32} (h : Mk2 s s' x k) (f : Nat) (i : Int32) : gL s' f i = gL s f i := h.2.2.2.2.2.2.1 f i
theorem Mk2.A {s s' : S1} {x k : Int32} (h : Mk2 s s' x k) (f : Nat) (hf : f ≠ 5 ∧ f ≠ 58 ∧ f ≠ 60 ∧ f ≠ 61 ∧ f ≠ 62 ∧ f ≠ 63 ∧ f ≠ 64 ∧ f ≠ 65 ∧ f ≠ 73 ∧ f ≠ 67 ∧ f ≠ 68) (i j : Int32) : gA s' f i j = gA s f i j := h.2.2.2.2.2.2.2.1 f i j hf.1 hf.2.1 hf.2.2.1 hf.2.2.2.1 hf.2.2.2.2.1 hf.2.2.2.2.2.1 hf.2.2.2.2.2.2.1 hf.2.2.2.2.2.2.2.1 hf.2.2.2.2.2.2.2.2.1 hf.2.2.2.2.2.2.2.2.2.1 hf.2.2.2.2.2.2.2.2.2.2
theorem Mk2.B {s s' : S1} {x k : Int32} (h : Mk2 s s' x k) (f : Nat) (hf : f ≠ 6) (i j : Int32) : gB s' f i j = gB s f i j := h.2.2.2.2.2.2.2.2.1 f i j hf
theorem Mk2.S {s s' : S1} {x k : Int32} (h : Mk2 s s' x k) (z : Int32) : a_sort s' z = if z = x then k else a_sort s z := h.2.2.2.2.2.2.2.2.2.1 z
theorem Mk2.P {s s' : S1} {x k : Int32} (h : Mk2 s s' x k) {z : Int32} (hz : z ≠ x) : a_first s' z = a_first s z ∧ a_second s' z = a_second s z ∧ a_third s' z = a_third s z ∧ a_chain s' z = a_chain s z ∧ a_tag s' z = a_tag s z ∧ v_variable_k s' z = v_variable_k s z ∧ v_variable_v s' z = v_variable_v s z ∧ a_fixed s' z = a_fixed s z := h.2.2.2.2.2.2.2.2.2.2.1 z hz
theorem Mk2.ne {s s' : S1} {x k y j : Int32} (h : Mk2 s s' x k) (hy : Lv false s y j) (hj : j ≠ 0) : y ≠ x := fun e => by
  have := h.2.2.2.1
  rw [← e] at this
  exact hj (hy.2.2.1.symm.trans (this hy.2.1))
theorem Lv.mk2 {s s' : S1} {x k y j : Int32} (hy : Lv false s y j) (h : Mk2 s s' x k) (hj : j ≠ 0) : Lv false s' y j := by
  refine ⟨hy.1, h.2.1 y hy.2.1, ?_, fun z => by cases z⟩
  rw [h.S, if_neg (h.ne hy hj)]
  exact hy.2.2.1
theorem Vl.mk2 {s s' : S1} {x k : Int32} {a : Int32} {v : Int64} (hy : Vl false s a v) (h : Mk2 s s' x k) : Vl false s' a v := by
  rcases hy with p | p | ⟨h1, h2, h3, h4, h5⟩
  · exact Or.inl p
  · exact Or.inr (Or.inl p)
  · exact Or.inr (Or.inr ⟨h1, h2, h3, h4, h5.mk2 h (by intro z; rw [z] at h1; exact absurd h1 (by decide))⟩)
theorem Wl.mk2 {s s' : S1} {x k : Int32} {a : Int32} {v : Int64} (hy : Wl false s a v) (h : Mk2 s s' x k) : Wl false s' a v := hy.imp (fun z => z.mk2 h) fun z => ⟨z.1, z.2.1, z.2.2.1, z.2.2.2.mk2 h (by decide)⟩
theorem Ts.mk2 {s s' : S1} {x k t : Int32} (ht : Ts s t) (hv : ThV false s t) (hs : Mk2 s s' x k) : Ts s' t := by
  obtain ⟨h1, h2, h3, h4⟩ := ht
  obtain ⟨-, w, -⟩ := hv
  unfold Ts
  simp only [a_sort, a_tag, a_first, a_second, a_third, a_chain, a_free, a_text, a_heads, a_ek, a_ev, a_vk, a_vv, a_follow, a_bucket, a_registers, f_used, v_variable_k, v_variable_v, v_stack_k, v_stack_v, v_row_k, v_row_v, v_start_n, v_start_k, v_start_v, t_place, t_frames, t_openCount, t_open, t_kind, t_function, t_base, t_extra, t_rowCount, p_ek, p_vk, p_ev, p_vv, p_follow, hs.A 20 (by decide), hs.A 23 (by decide), hs.A 26 (by decide), hs.A 29 (by decide), hs.A 30 (by decide), hs.A 31 (by decide), hs.A 32 (by decide), hs.A 33 (by decide), hs.A 34 (by decide), hs.A 35 (by decide), hs.A 36 (by decide), hs.A 44 (by decide), hs.A 69 (by decide), hs.A 70 (by decide), hs.B 21 (by decide), hs.B 24 (by decide), hs.B 27 (by decide), hs.B 71 (by decide), hs.B 72 (by decide), hs.I 3202 (by decide), hs.I 3584 (by decide), hs.I 3586 (by decide), hs.I 3587 (by decide), hs.I 8959 (by decide), hs.I 9087 (by decide), hs.I 9215 (by decide), hs.I 9343 (by decide), hs.I 9471 (by decide)] at *
  refine ⟨h1, h2, h3, fun f a b => ?_⟩
  have h5 := h4 f a b
  have h6 := (w f a b).1
  unfold FrS at *
  simp only [a_sort, a_tag, a_first, a_second, a_third, a_chain, a_free, a_text, a_heads, a_ek, a_ev, a_vk, a_vv, a_follow, a_bucket, a_registers, f_used, v_variable_k, v_variable_v, v_stack_k, v_stack_v, v_row_k, v_row_v, v_start_n, v_start_k, v_start_v, t_place, t_frames, t_openCount, t_open, t_kind, t_function, t_base, t_extra, t_rowCount, p_ek, p_vk, p_ev, p_vv, p_follow, hs.A 20 (by decide), hs.A 23 (by decide), hs.A 26 (by decide), hs.A 29 (by decide), hs.A 30 (by decide), hs.A 31 (by decide), hs.A 32 (by decide), hs.A 33 (by decide), hs.A 34 (by decide), hs.A 35 (by decide), hs.A 36 (by decide), hs.A 44 (by decide), hs.A 69 (by decide), hs.A 70 (by decide), hs.B 21 (by decide), hs.B 24 (by decide), hs.B 27 (by decide), hs.B 71 (by decide), hs.B 72 (by decide), hs.I 3202 (by decide), hs.I 3584 (by decide), hs.I 3586 (by decide), hs.I 3587 (by decide), hs.I 8959 (by decide), hs.I 9087 (by decide), hs.I 9215 (by decide), hs.I 9343 (by decide), hs.I 9471 (by decide)] at *
  intro c
  have hne := hs.ne (h6 (h5 c).1.1) (by decide)
  have e := (hs.P hne).1
  simp only [a_sort, a_tag, a_first, a_second, a_third, a_chain, a_free, a_text, a_heads, a_ek, a_ev, a_vk, a_vv, a_follow, a_bucket, a_registers, f_used, v_variable_k, v_variable_v, v_stack_k, v_stack_v, v_row_k, v_row_v, v_start_n, v_start_k, v_start_v, t_place, t_frames, t_openCount, t_open, t_kind, t_function, t_base, t_extra, t_rowCount, p_ek, p_vk, p_ev, p_vv, p_follow] at e
  rw [e]
  exact h5 c
theorem ThV.mk2 {s s' : S1} {x k t : Int32} (ht : Ts s t) (hv : ThV false s t) (hs : Mk2 s s' x k) : ThV false s' t := by
  obtain ⟨-, -, -, h4⟩ := ht
  obtain ⟨w1, w2, w3⟩ := hv
  unfold ThV
  simp only [a_sort, a_tag, a_first, a_second, a_third, a_chain, a_free, a_text, a_heads, a_ek, a_ev, a_vk, a_vv, a_follow, a_bucket, a_registers, f_used, v_variable_k, v_variable_v, v_stack_k, v_stack_v, v_row_k, v_row_v, v_start_n, v_start_k, v_start_v, t_place, t_frames, t_openCount, t_open, t_kind, t_function, t_base, t_extra, t_rowCount, p_ek, p_vk, p_ev, p_vv, p_follow, hs.A 20 (by decide), hs.A 23 (by decide), hs.A 26 (by decide), hs.A 29 (by decide), hs.A 30 (by decide), hs.A 31 (by decide), hs.A 32 (by decide), hs.A 33 (by decide), hs.A 34 (by decide), hs.A 35 (by decide), hs.A 36 (by decide), hs.A 44 (by decide), hs.A 69 (by decide), hs.A 70 (by decide), hs.B 21 (by decide), hs.B 24 (by decide), hs.B 27 (by decide), hs.B 71 (by decide), hs.B 72 (by decide), hs.I 3202 (by decide), hs.I 3584 (by decide), hs.I 3586 (by decide), hs.I 3587 (by decide), hs.I 8959 (by decide), hs.I 9087 (by decide), hs.I 9215 (by decide), hs.I 9343 (by decide), hs.I 9471 (by decide)] at *
  refine ⟨fun i a b => (w1 i a b).mk2 hs, fun f a b => ?_, fun j a b => (w3 j a b).mk2 hs (by decide)⟩
  have h5 := h4 f a b
  have h6 := w2 f a b
  unfold FrS at h5
  unfold FrV at *
  simp only [a_sort, a_tag, a_first, a_second, a_third, a_chain, a_free, a_text, a_heads, a_ek, a_ev, a_vk, a_vv, a_follow, a_bucket, a_registers, f_used, v_variable_k, v_variable_v, v_stack_k, v_stack_v, v_row_k, v_row_v, v_start_n, v_start_k, v_start_v, t_place, t_frames, t_openCount, t_open, t_kind, t_function, t_base, t_extra, t_rowCount, p_ek, p_vk, p_ev, p_vv, p_follow, hs.A 20 (by decide), hs.A 23 (by decide), hs.A 26 (by decide), hs.A 29 (by decide), hs.A 30 (by decide), hs.A 31 (by decide), hs.A 32 (by decide), hs.A 33 (by decide), hs.A 34 (by decide), hs.A 35 (by decide), hs.A 36 (by decide), hs.A 44 (by decide), hs.A 69 (by decide), hs.A 70 (by decide), hs.B 21 (by decide), hs.B 24 (by decide), hs.B 27 (by decide), hs.B 71 (by decide), hs.B 72 (by decide), hs.I 3202 (by decide), hs.I 3584 (by decide), hs.I 3586 (by decide), hs.I 3587 (by decide), hs.I 8959 (by decide), hs.I 9087 (by decide), hs.I 9215 (by decide), hs.I 9343 (by decide), hs.I 9471 (by decide)] at *
  refine ⟨fun z => (h6.1 z).mk2 hs (by decide), fun c => ?_⟩
  have hne := hs.ne (h6.1 (h5 c).1.1) (by decide)
  have e := (hs.P hne).1
  simp only [a_sort, a_tag, a_first, a_second, a_third, a_chain, a_free, a_text, a_heads, a_ek, a_ev, a_vk, a_vv, a_follow, a_bucket, a_registers, f_used, v_variable_k, v_variable_v, v_stack_k, v_stack_v, v_row_k, v_row_v, v_start_n, v_start_k, v_start_v, t_place, t_frames, t_openCount, t_open, t_kind, t_function, t_base, t_extra, t_rowCount, p_ek, p_vk, p_ev, p_vv, p_follow] at e
  rw [e]
  exact ⟨fun i p q => ((h6.2 c).1 i p q).mk2 hs, fun y i p q => ((h6.2 c).2 y i p q).mk2 hs⟩
theorem old_mk2 {s s' : S1} {x k z : Int32} (h1 : Sh s z) (h2 : PcV false s z) (hz : z ≠ x) (ht : 0 ≤ f_entryTop s ∧ f_entryTop s ≤ 300000) (hs : Mk2 s s' x k) : Sh s' z ∧ PcV false s' z := by
  have es : a_sort s' z = a_sort s z := by rw [hs.S, if_neg hz]
  obtain ⟨p1, p2, p3, p4, p5, p6, p7, -⟩ := hs.P hz
  have hfo := hs.2.2.2.2.2.2.2.2.2.2.2.1
  have htop := hs.2.2.2.2.2.2.2.2.2.2.2.2.1
  obtain ⟨a5, a6, a7, a8⟩ := h1
  obtain ⟨c5, c6, c7, c8⟩ := h2
  refine ⟨⟨fun y => ?_, fun y => ?_, fun y => ?_, fun y => ?_⟩, ⟨fun y => ?_, fun y => ?_, fun y => ?_, fun y => ?_⟩⟩ <;> rw [es] at y
  · have := a5 y
    rw [p1, p2, p3]
    exact ⟨this.1, this.2.1, this.2.2.1, this.2.2.2.1, this.2.2.2.2.1, Int32.le_trans this.2.2.2.2.2 htop.1⟩
  · have := a6 y
    rw [p1, p2, p3]
    exact ⟨this.1, fun w => ⟨(this.2 w).1, (this.2 w).2.1, (this.2 w).2.2.1, (this.2 w).2.2.2.1, Int32.le_trans (this.2 w).2.2.2.2 htop.1⟩⟩
  · have := a7 y
    rw [p1]
    refine ⟨this.1, this.2.1, ?_, this.2.2.2.mk2 (c7 y) hs⟩
    show gI s' 3584 _ = z
    rw [hs.I 3584 (by decide)]
    exact this.2.2.1
  · have := a8 y
    rw [p1, p2]
    exact this
  · have := c5 y
    unfold TbV at *
    rw [p4, p1, p3]
    simp only [a_sort, a_tag, a_first, a_second, a_third, a_chain, a_free, a_text, a_heads, a_ek, a_ev, a_vk, a_vv, a_follow, a_bucket, a_registers, f_used, v_variable_k, v_variable_v, v_stack_k, v_stack_v, v_row_k, v_row_v, v_start_n, v_start_k, v_start_v, t_place, t_frames, t_openCount, t_open, t_kind, t_function, t_base, t_extra, t_rowCount, p_ek, p_vk, p_ev, p_vv, p_follow, hs.A 20 (by decide), hs.A 23 (by decide), hs.A 26 (by decide), hs.A 29 (by decide), hs.A 30 (by decide), hs.A 31 (by decide), hs.A 32 (by decide), hs.A 33 (by decide), hs.A 34 (by decide), hs.A 35 (by decide), hs.A 36 (by decide), hs.A 44 (by decide), hs.A 69 (by decide), hs.A 70 (by decide), hs.B 21 (by decide), hs.B 24 (by decide), hs.B 27 (by decide), hs.B 71 (by decide), hs.B 72 (by decide), hs.I 3202 (by decide), hs.I 3584 (by decide), hs.I 3586 (by decide), hs.I 3587 (by decide), hs.I 8959 (by decide), hs.I 9087 (by decide), hs.I 9215 (by decide), hs.I 9343 (by decide), hs.I 9471 (by decide)] at *
    exact ⟨this.1.imp id (fun w => w.mk2 hs (by decide)), fun j a b => ⟨(this.2 j a b).1.mk2 hs, (this.2 j a b).2.mk2 hs⟩⟩
  · have := c6 y
    have sh := a6 y
    unfold FnV at *
    rw [p1, p2, p3]
    refine ⟨fun w => (this.1 w).mk2 hs (by decide), fun w j a b => ?_⟩
    have hin := add_in (a := a_second s z) (i := j) (n := a_third s z) (L := f_entryTop s) ⟨(sh.2 w).1, Int32.le_trans (sh.2 w).2.2.1 (by decide)⟩ a b (Int32.le_trans (sh.2 w).2.2.2.1 (by decide)) (sh.2 w).2.2.2.2
    rw [hfo _ hin.2]
    exact (this.2 w j a b).mk2 hs (by decide)
  · have := c7 y
    rw [p1]
    exact ThV.mk2 (a7 y).2.2.2 this hs
  · have := c8 y
    unfold VrV at *
    rw [p1, p2, p6, p7]
    simp only [a_sort, a_tag, a_first, a_second, a_third, a_chain, a_free, a_text, a_heads, a_ek, a_ev, a_vk, a_vv, a_follow, a_bucket, a_registers, f_used, v_variable_k, v_variable_v, v_stack_k, v_stack_v, v_row_k, v_row_v, v_start_n, v_start_k, v_start_v, t_place, t_frames, t_openCount, t_open, t_kind, t_function, t_base, t_extra, t_rowCount, p_ek, p_vk, p_ev, p_vv, p_follow, hs.A 20 (by decide), hs.A 23 (by decide), hs.A 26 (by decide), hs.A 29 (by decide), hs.A 30 (by decide), hs.A 31 (by decide), hs.A 32 (by decide), hs.A 33 (by decide), hs.A 34 (by decide), hs.A 35 (by decide), hs.A 36 (by decide), hs.A 44 (by decide), hs.A 69 (by decide), hs.A 70 (by decide), hs.B 21 (by decide), hs.B 24 (by decide), hs.B 27 (by decide), hs.B 71 (by decide), hs.B 72 (by decide), hs.I 3202 (by decide), hs.I 3584 (by decide), hs.I 3586 (by decide), hs.I 3587 (by decide), hs.I 8959 (by decide), hs.I 9087 (by decide), hs.I 9215 (by decide), hs.I 9343 (by decide), hs.I 9471 (by decide)] at *
    exact ⟨fun w => (this.1 w).mk2 hs, fun w => (this.2 w).mk2 hs⟩
theorem Str.mk2 {s s' : S1} {x k : Int32} (h : Str s) (hs : Mk2 s s' x k) (hk : k ≠ 4) (h67 : ∀ j, gA s' 67 0 j = gA s 67 0 j) (h68 : ∀ j, gA s' 68 0 j = gA s 68 0 j) (h38 : gI s' 38 0 = gI s 38 0) : Str s' := by
  have g : ∀ z q, Sg s' z q ↔ Sg s z q := fun z q => by
    unfold Sg
    rw [hs.S]
    by_cases c : z = x
    · subst c
      rw [if_pos rfl]
      constructor
      · rintro ⟨-, -, w, -⟩
        exact absurd w hk
      · rintro ⟨-, a, w, -⟩
        rw [hs.2.2.2.1 a] at w
        exact absurd w (by decide)
    · rw [if_neg c, (hs.P c).1, (hs.P c).2.1, hF_congr h67]
      exact ⟨fun ⟨a, b, d⟩ => ⟨a, hs.2.2.1 z c b, d⟩, fun ⟨a, b, d⟩ => ⟨a, hs.2.1 z b, d⟩⟩
  have ne : ∀ z q, Sg s z q → z ≠ x := fun z q hz e => by
    subst e
    have := hz.2.2.1
    rw [hs.2.2.2.1 hz.2.1] at this
    exact absurd this (by decide)
  have tg : ∀ z q, Sg s z q → a_tag s' z = a_tag s z := fun z q hz => (hs.P (ne z q hz)).2.2.2.2.1
  have ch : ∀ z q, Sg s z q → a_chain s' z = a_chain s z := fun z q hz => (hs.P (ne z q hz)).2.2.2.1
  have hd : ∀ z, a_heads s' z = a_heads s z := fun z => h68 z
  obtain ⟨t1, t2, t3, t4, t5, t6⟩ := h
  refine ⟨?_, fun z a b => ?_, fun q q1 q2 => ?_, fun z q hz => ?_, fun z y q hz hy e => ?_, fun z y q q' hz hy e => ?_⟩
  · show 0 ≤ gI s' 38 0 ∧ gI s' 38 0 ≤ 400000
    rw [h38]
    exact t1
  · intro w
    have c : z ≠ x := fun c => by
      rw [hs.S, if_pos c] at w
      exact hk w
    rw [hs.S, if_neg c] at w
    have := t2 z a (hs.2.2.1 z c b) w
    rw [(hs.P c).1, (hs.P c).2.1]
    show _ ∧ _ ∧ _ ∧ _ ∧ _ ≤ gI s' 38 0
    rw [h38]
    exact this
  · obtain ⟨a, b, d⟩ := t3 q q1 q2
    rw [hd]
    refine ⟨a, fun w => (g _ _).mpr (b w), fun z hz => ?_⟩
    have hz' := (g z q).mp hz
    obtain ⟨e1, e2⟩ := d z hz'
    rw [tg z q hz', tg _ q (b e1)]
    exact ⟨e1, e2⟩
  · have hz' := (g z q).mp hz
    obtain ⟨a, b, d⟩ := t4 z q hz'
    rw [ch z q hz', tg z q hz']
    exact ⟨a, b, fun w => ⟨(g _ _).mpr (d w).1, by rw [tg _ q (d w).1]; exact (d w).2⟩⟩
  · have hz' := (g z q).mp hz
    have hy' := (g y q).mp hy
    rw [tg z q hz', tg y q hy'] at e
    obtain ⟨a, b⟩ := t5 z y q hz' hy' e
    rw [ch y q hy', tg z q hz', tg _ q ((t4 y q hy').2.2 a).1]
    exact ⟨a, b⟩
  · have hz' := (g z q).mp hz
    have hy' := (g y q').mp hy
    rw [tg z q hz', tg y q' hy'] at e
    exact t6 z y q q' hz' hy' e
