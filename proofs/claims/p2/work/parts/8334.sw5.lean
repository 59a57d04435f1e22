/-! A collection keeps the heap whole. -/
def F3 (s s' : S1) : Prop := (∀ f j, f ≠ 34 → f ≠ 36 → f ≠ 54 → f ≠ 66 → gI s' f j = gI s f j) ∧ (∀ f j, f ≠ 67 → gL s' f j = gL s f j) ∧ (∀ a u j, a ≠ 58 → a ≠ 65 → a ≠ 66 → a ≠ 68 → gA s' a u j = gA s a u j) ∧ (∀ a u j, gB s' a u j = gB s a u j) ∧
  (∀ z, 0 ≤ z → z < f_used s → a_sort s' z = if a_marked s z = 0 then 0 else a_sort s z) ∧ ∀ z, 0 ≤ z → z < f_used s → a_sort s z ≠ 4 → a_chain s' z = a_chain s z
theorem F3.I {s s' : S1} (h : F3 s s') (f : Nat) (hf : f ≠ 34 ∧ f ≠ 36 ∧ f ≠ 54 ∧ f ≠ 66) (i : Int32) : gI s' f i = gI s f i := h.1 f i hf.1 hf.2.1 hf.2.2.1 hf.2.2.2
theorem F3.L {s s' : S1} (h : F3 s s') (f : Nat) (hf : f ≠ 67) (i : Int32) : gL s' f i = gL s f i := h.2.1 f i hf
theorem F3.A {s s' : S1} (h : F3 s s') (f : Nat) (hf : f ≠ 58 ∧ f ≠ 65 ∧ f ≠ 66 ∧ f ≠ 68) (i j : Int32) : gA s' f i j = gA s f i j := h.2.2.1 f i j hf.1 hf.2.1 hf.2.2.1 hf.2.2.2
theorem F3.B {s s' : S1} (h : F3 s s') (f : Nat) (i j : Int32) : gB s' f i j = gB s f i j := h.2.2.2.1 f i j
theorem Lv.f3 {s s' : S1} {x k : Int32} (h : Lv true s x k) (hs : F3 s s') : Lv false s' x k := by
  have e := hs.2.2.2.2.1 x h.1 h.2.1
  rw [if_neg (h.2.2.2 rfl)] at e
  refine ⟨h.1, ?_, e.trans h.2.2.1, fun z => by cases z⟩
  show x < gI s' 40 0
  rw [hs.I 40 (by decide)]
  exact h.2.1
theorem Vl.f3 {s s' : S1} {k : Int32} {v : Int64} (h : Vl true s k v) (hs : F3 s s') : Vl false s' k v := by
  rcases h with h | h | ⟨h1, h2, h3, h4, h5⟩
  · exact Or.inl h
  · exact Or.inr (Or.inl h)
  · exact Or.inr (Or.inr ⟨h1, h2, h3, h4, h5.f3 hs⟩)
theorem Wl.f3 {s s' : S1} {k : Int32} {v : Int64} (h : Wl true s k v) (hs : F3 s s') : Wl false s' k v := h.imp (fun z => z.f3 hs) fun z => ⟨z.1, z.2.1, z.2.2.1, z.2.2.2.f3 hs⟩
theorem ThV.f3 {s s' : S1} {t : Int32} (h : ThV true s t) (hs : F3 s s') : ThV false s' t := by
  obtain ⟨h1, h2, h3⟩ := h
  unfold ThV FrV at *
  simp only [a_sort, a_tag, a_first, a_second, a_third, a_chain, a_free, a_text, a_heads, a_ek, a_ev, a_vk, a_vv, a_follow, a_bucket, a_registers, f_used, v_variable_k, v_variable_v, v_stack_k, v_stack_v, v_row_k, v_row_v, v_start_n, v_start_k, v_start_v, t_place, t_frames, t_openCount, t_open, t_kind, t_function, t_base, t_extra, t_rowCount, p_ek, p_vk, p_ev, p_vv, p_follow, hs.A 5 (by decide), hs.A 20 (by decide), hs.A 23 (by decide), hs.A 26 (by decide), hs.A 29 (by decide), hs.A 30 (by decide), hs.A 31 (by decide), hs.A 32 (by decide), hs.A 33 (by decide), hs.A 34 (by decide), hs.A 35 (by decide), hs.A 36 (by decide), hs.A 44 (by decide), hs.A 60 (by decide), hs.A 61 (by decide), hs.A 62 (by decide), hs.A 63 (by decide), hs.A 64 (by decide), hs.A 67 (by decide), hs.A 69 (by decide), hs.A 70 (by decide), hs.A 73 (by decide), hs.B 6, hs.B 21, hs.B 24, hs.B 27, hs.B 71, hs.B 72, hs.I 40 (by decide), hs.I 41 (by decide), hs.I 3202 (by decide), hs.I 3584 (by decide), hs.I 3586 (by decide), hs.I 3587 (by decide), hs.I 8959 (by decide), hs.I 9087 (by decide), hs.I 9215 (by decide), hs.I 9343 (by decide), hs.I 9471 (by decide)] at *
  exact ⟨fun i a b => (h1 i a b).f3 hs, fun f a b => ⟨fun z => ((h2 f a b).1 z).f3 hs, fun z => ⟨fun i c d => (((h2 f a b).2 z).1 i c d).f3 hs, fun y i c d => (((h2 f a b).2 z).2 y i c d).f3 hs⟩⟩, fun k a b => (h3 k a b).f3 hs⟩
theorem Ts.f3 {s s' : S1} {t : Int32} (h : Ts s t) (hs : F3 s s') : Ts s' t := by
  unfold Ts FrS at *
  simp only [a_sort, a_tag, a_first, a_second, a_third, a_chain, a_free, a_text, a_heads, a_ek, a_ev, a_vk, a_vv, a_follow, a_bucket, a_registers, f_used, v_variable_k, v_variable_v, v_stack_k, v_stack_v, v_row_k, v_row_v, v_start_n, v_start_k, v_start_v, t_place, t_frames, t_openCount, t_open, t_kind, t_function, t_base, t_extra, t_rowCount, p_ek, p_vk, p_ev, p_vv, p_follow, hs.A 5 (by decide), hs.A 20 (by decide), hs.A 23 (by decide), hs.A 26 (by decide), hs.A 29 (by decide), hs.A 30 (by decide), hs.A 31 (by decide), hs.A 32 (by decide), hs.A 33 (by decide), hs.A 34 (by decide), hs.A 35 (by decide), hs.A 36 (by decide), hs.A 44 (by decide), hs.A 60 (by decide), hs.A 61 (by decide), hs.A 62 (by decide), hs.A 63 (by decide), hs.A 64 (by decide), hs.A 67 (by decide), hs.A 69 (by decide), hs.A 70 (by decide), hs.A 73 (by decide), hs.B 6, hs.B 21, hs.B 24, hs.B 27, hs.B 71, hs.B 72, hs.I 40 (by decide), hs.I 41 (by decide), hs.I 3202 (by decide), hs.I 3584 (by decide), hs.I 3586 (by decide), hs.I 3587 (by decide), hs.I 8959 (by decide), hs.I 9087 (by decide), hs.I 9215 (by decide), hs.I 9343 (by decide), hs.I 9471 (by decide)] at *
  exact h
theorem PcV.f3 {s s' : S1} {x : Int32} (h : PcV true s x) (hx : 0 ≤ x ∧ x < f_used s) (hs : F3 s s') (he : a_sort s' x = a_sort s x) : PcV false s' x := by
  obtain ⟨h1, h2, h3, h4⟩ := h
  have hc := hs.2.2.2.2.2 x hx.1 hx.2
  refine ⟨fun z => ?_, fun z => ?_, fun z => ?_, fun z => ?_⟩ <;> rw [he] at z
  · have h5 := h1 z
    have ec := hc (by rw [z]; decide)
    unfold TbV at *
    simp only [a_sort, a_tag, a_first, a_second, a_third, a_chain, a_free, a_text, a_heads, a_ek, a_ev, a_vk, a_vv, a_follow, a_bucket, a_registers, f_used, v_variable_k, v_variable_v, v_stack_k, v_stack_v, v_row_k, v_row_v, v_start_n, v_start_k, v_start_v, t_place, t_frames, t_openCount, t_open, t_kind, t_function, t_base, t_extra, t_rowCount, p_ek, p_vk, p_ev, p_vv, p_follow, hs.A 5 (by decide), hs.A 20 (by decide), hs.A 23 (by decide), hs.A 26 (by decide), hs.A 29 (by decide), hs.A 30 (by decide), hs.A 31 (by decide), hs.A 32 (by decide), hs.A 33 (by decide), hs.A 34 (by decide), hs.A 35 (by decide), hs.A 36 (by decide), hs.A 44 (by decide), hs.A 60 (by decide), hs.A 61 (by decide), hs.A 62 (by decide), hs.A 63 (by decide), hs.A 64 (by decide), hs.A 67 (by decide), hs.A 69 (by decide), hs.A 70 (by decide), hs.A 73 (by decide), hs.B 6, hs.B 21, hs.B 24, hs.B 27, hs.B 71, hs.B 72, hs.I 40 (by decide), hs.I 41 (by decide), hs.I 3202 (by decide), hs.I 3584 (by decide), hs.I 3586 (by decide), hs.I 3587 (by decide), hs.I 8959 (by decide), hs.I 9087 (by decide), hs.I 9215 (by decide), hs.I 9343 (by decide), hs.I 9471 (by decide)] at *
    rw [ec]
    exact ⟨h5.1.imp id (fun w => w.f3 hs), fun k a b => ⟨(h5.2 k a b).1.f3 hs, (h5.2 k a b).2.f3 hs⟩⟩
  · have h5 := h2 z
    unfold FnV at *
    simp only [a_sort, a_tag, a_first, a_second, a_third, a_chain, a_free, a_text, a_heads, a_ek, a_ev, a_vk, a_vv, a_follow, a_bucket, a_registers, f_used, v_variable_k, v_variable_v, v_stack_k, v_stack_v, v_row_k, v_row_v, v_start_n, v_start_k, v_start_v, t_place, t_frames, t_openCount, t_open, t_kind, t_function, t_base, t_extra, t_rowCount, p_ek, p_vk, p_ev, p_vv, p_follow, hs.A 5 (by decide), hs.A 20 (by decide), hs.A 23 (by decide), hs.A 26 (by decide), hs.A 29 (by decide), hs.A 30 (by decide), hs.A 31 (by decide), hs.A 32 (by decide), hs.A 33 (by decide), hs.A 34 (by decide), hs.A 35 (by decide), hs.A 36 (by decide), hs.A 44 (by decide), hs.A 60 (by decide), hs.A 61 (by decide), hs.A 62 (by decide), hs.A 63 (by decide), hs.A 64 (by decide), hs.A 67 (by decide), hs.A 69 (by decide), hs.A 70 (by decide), hs.A 73 (by decide), hs.B 6, hs.B 21, hs.B 24, hs.B 27, hs.B 71, hs.B 72, hs.I 40 (by decide), hs.I 41 (by decide), hs.I 3202 (by decide), hs.I 3584 (by decide), hs.I 3586 (by decide), hs.I 3587 (by decide), hs.I 8959 (by decide), hs.I 9087 (by decide), hs.I 9215 (by decide), hs.I 9343 (by decide), hs.I 9471 (by decide)] at *
    exact ⟨fun w => (h5.1 w).f3 hs, fun w k a b => (h5.2 w k a b).f3 hs⟩
  · have h5 := (h3 z).f3 hs
    simp only [a_sort, a_tag, a_first, a_second, a_third, a_chain, a_free, a_text, a_heads, a_ek, a_ev, a_vk, a_vv, a_follow, a_bucket, a_registers, f_used, v_variable_k, v_variable_v, v_stack_k, v_stack_v, v_row_k, v_row_v, v_start_n, v_start_k, v_start_v, t_place, t_frames, t_openCount, t_open, t_kind, t_function, t_base, t_extra, t_rowCount, p_ek, p_vk, p_ev, p_vv, p_follow, hs.A 5 (by decide), hs.A 20 (by decide), hs.A 23 (by decide), hs.A 26 (by decide), hs.A 29 (by decide), hs.A 30 (by decide), hs.A 31 (by decide), hs.A 32 (by decide), hs.A 33 (by decide), hs.A 34 (by decide), hs.A 35 (by decide), hs.A 36 (by decide), hs.A 44 (by decide), hs.A 60 (by decide), hs.A 61 (by decide), hs.A 62 (by decide), hs.A 63 (by decide), hs.A 64 (by decide), hs.A 67 (by decide), hs.A 69 (by decide), hs.A 70 (by decide), hs.A 73 (by decide), hs.B 6, hs.B 21, hs.B 24, hs.B 27, hs.B 71, hs.B 72, hs.I 40 (by decide), hs.I 41 (by decide), hs.I 3202 (by decide), hs.I 3584 (by decide), hs.I 3586 (by decide), hs.I 3587 (by decide), hs.I 8959 (by decide), hs.I 9087 (by decide), hs.I 9215 (by decide), hs.I 9343 (by decide), hs.I 9471 (by decide)] at *
    exact h5
  · have h5 := h4 z
    unfold VrV at *
    simp only [a_sort, a_tag, a_first, a_second, a_third, a_chain, a_free, a_text, a_heads, a_ek, a_ev, a_vk, a_vv, a_follow, a_bucket, a_registers, f_used, v_variable_k, v_variable_v, v_stack_k, v_stack_v, v_row_k, v_row_v, v_start_n, v_start_k, v_start_v, t_place, t_frames, t_openCount, t_open, t_kind, t_function, t_base, t_extra, t_rowCount, p_ek, p_vk, p_ev, p_vv, p_follow, hs.A 5 (by decide), hs.A 20 (by decide), hs.A 23 (by decide), hs.A 26 (by decide), hs.A 29 (by decide), hs.A 30 (by decide), hs.A 31 (by decide), hs.A 32 (by decide), hs.A 33 (by decide), hs.A 34 (by decide), hs.A 35 (by decide), hs.A 36 (by decide), hs.A 44 (by decide), hs.A 60 (by decide), hs.A 61 (by decide), hs.A 62 (by decide), hs.A 63 (by decide), hs.A 64 (by decide), hs.A 67 (by decide), hs.A 69 (by decide), hs.A 70 (by decide), hs.A 73 (by decide), hs.B 6, hs.B 21, hs.B 24, hs.B 27, hs.B 71, hs.B 72, hs.I 40 (by decide), hs.I 41 (by decide), hs.I 3202 (by decide), hs.I 3584 (by decide), hs.I 3586 (by decide), hs.I 3587 (by decide), hs.I 8959 (by decide), hs.I 9087 (by decide), hs.I 9215 (by decide), hs.I 9343 (by decide), hs.I 9471 (by decide)] at *
    exact ⟨fun w => (h5.1 w).f3 hs, fun w => (h5.2 w).f3 hs⟩
theorem ShN.f3 {s s' : S1} {x : Int32} (h : ShN s x) (hs : F3 s s') (he : a_sort s' x = a_sort s x) : ShN s' x := by
  obtain ⟨h1, h2, h3, h4⟩ := h
  unfold ShN
  rw [he]
  simp only [a_sort, a_tag, a_first, a_second, a_third, a_chain, a_free, a_text, a_heads, a_ek, a_ev, a_vk, a_vv, a_follow, a_bucket, a_registers, f_used, v_variable_k, v_variable_v, v_stack_k, v_stack_v, v_row_k, v_row_v, v_start_n, v_start_k, v_start_v, t_place, t_frames, t_openCount, t_open, t_kind, t_function, t_base, t_extra, t_rowCount, p_ek, p_vk, p_ev, p_vv, p_follow, f_entryTop, hs.A 5 (by decide), hs.A 20 (by decide), hs.A 23 (by decide), hs.A 26 (by decide), hs.A 29 (by decide), hs.A 30 (by decide), hs.A 31 (by decide), hs.A 32 (by decide), hs.A 33 (by decide), hs.A 34 (by decide), hs.A 35 (by decide), hs.A 36 (by decide), hs.A 44 (by decide), hs.A 60 (by decide), hs.A 61 (by decide), hs.A 62 (by decide), hs.A 63 (by decide), hs.A 64 (by decide), hs.A 67 (by decide), hs.A 69 (by decide), hs.A 70 (by decide), hs.A 73 (by decide), hs.B 6, hs.B 21, hs.B 24, hs.B 27, hs.B 71, hs.B 72, hs.I 40 (by decide), hs.I 41 (by decide), hs.I 3202 (by decide), hs.I 3584 (by decide), hs.I 3586 (by decide), hs.I 3587 (by decide), hs.I 8959 (by decide), hs.I 9087 (by decide), hs.I 9215 (by decide), hs.I 9343 (by decide), hs.I 9471 (by decide)] at *
  exact ⟨h1, h2, fun z => ⟨(h3 z).1, (h3 z).2.1, (h3 z).2.2.f3 hs⟩, h4⟩
theorem chN_I {s s' : S1} (h1 : gI s' 72 0 = gI s 72 0) (h2 : ∀ i, gI s' 3590 i = gI s 3590 i) (n : Nat) : chN s' n = chN s n := by
  induction n with
  | zero => exact h1
  | succ n ih =>
    show (if chN s' n < 0 then -1 else gI s' 3590 (chN s' n)) = if chN s n < 0 then -1 else gI s 3590 (chN s n)
    rw [ih, h2]
theorem RtV.f3 {s s' : S1} (h : RtV true s) (hs : F3 s s') : RtV false s' := by
  obtain ⟨h1, h2, h3, h4, h5, h6, h7, h8, h9, h10⟩ := h
  have e := chN_I (hs.I 72 (by decide) 0) (hs.I 3590 (by decide))
  have hrw : ∀ r, (128 * r + 2 ≠ 34 ∧ 128 * r + 2 ≠ 36 ∧ 128 * r + 2 ≠ 54 ∧ 128 * r + 2 ≠ 66) → (r + 1 ≠ 58 ∧ r + 1 ≠ 65 ∧ r + 1 ≠ 66 ∧ r + 1 ≠ 68) → RwV true s r → RwV false s' r := fun r a b c => by
    unfold RwV at *
    simp only [hs.I (128 * r + 2) a, hs.A (r + 1) b, hs.B (r + 2)]
    exact fun i x y => (c i x y).f3 hs
  refine ⟨?_, ?_, ?_, hrw _ (by decide) (by decide) h4, hrw _ (by decide) (by decide) h5, hrw _ (by decide) (by decide) h6, ?_, hrw _ (by decide) (by decide) h8, ?_, fun _ _ _ _ _ z => by cases z⟩
  · show Lv false s' (gI s' 74 0) 5
    rw [hs.I 74 (by decide)]
    exact h1.f3 hs
  · show Lv false s' (gI s' 3584 0) 7
    rw [hs.I 3584 (by decide)]
    exact h2.f3 hs
  · intro n
    rw [e n]
    show 0 ≤ chN s n → Lv false s' (gI s' 3584 (chN s n)) 7
    rw [hs.I 3584 (by decide)]
    exact fun a => (h3 n a).f3 hs
  · show Vl false s' (gI s' 64 0) (gL s' 65 0)
    rw [hs.I 64 (by decide), hs.L 65 (by decide)]
    exact h7.f3 hs
  · show Vl false s' (gI s' 75 0) (gL s' 76 0)
    rw [hs.I 75 (by decide), hs.L 76 (by decide)]
    exact h9.f3 hs
/-- the heap is whole -/
def Hp (s : S1) : Prop := Hv s ∧ Str s ∧ Frl s ∧ Ov s ∧ Cv s ∧ q_Tp s ∧ RtS s ∧ RtV false s
theorem SwI.alive {s : S1} (h : SwI s (f_used s)) {t : Int32} (h1 : 0 ≤ t ∧ t < 33) (h2 : 0 ≤ t_place s t) : Lv true s (t_place s t) 7 ∧ a_first s (t_place s t) = t ∧ ThV true s t := by
  obtain ⟨hu, hb, ho, hc, hp, hq, hd⟩ := h
  obtain ⟨p1, p2⟩ := hp t h1.1 h1.2 h2
  have m : a_marked s (t_place s t) ≠ 0 := fun m => by
    have := hd _ p1.1 p1.2.1 p1.2.2.1 m
    rw [p2] at this
    exact absurd (Int32.lt_of_le_of_lt h2 this) Int32.lt_irrefl
  have v := ((hb _ p1.1 p1.2.1).2.1 m).2.2.1 p1.2.2.1
  rw [p2] at v
  exact ⟨⟨p1.1, p1.2.1, p1.2.2.1, fun _ => m⟩, p2, v⟩
theorem Hp.f3 {s s' : S1} (hI : SwI s (f_used s)) (hr : Rm s) (ht : 0 ≤ f_entryTop s ∧ f_entryTop s ≤ 300000) (hrs : RtS s) (hrv : RtV true s) (hs : F3 s s') (h1 : Str s') (h2 : Frl s') : Hp s' := by
  have hal := @SwI.alive s hI
  obtain ⟨hu, hb, ho, hc, hp, hq, hd⟩ := hI
  have eu : f_used s' = f_used s := hs.I 40 (by decide) 0
  refine ⟨⟨?_, ?_, fun x a b => ?_⟩, h1, h2, ?_, ?_, ?_, ?_, hrv.f3 hs⟩
  · unfold Rm at *
    simp only [a_sort, a_tag, a_first, a_second, a_third, a_chain, a_free, a_text, a_heads, a_ek, a_ev, a_vk, a_vv, a_follow, a_bucket, a_registers, f_used, v_variable_k, v_variable_v, v_stack_k, v_stack_v, v_row_k, v_row_v, v_start_n, v_start_k, v_start_v, t_place, t_frames, t_openCount, t_open, t_kind, t_function, t_base, t_extra, t_rowCount, p_ek, p_vk, p_ev, p_vv, p_follow, p_bucket, hs.A 5 (by decide), hs.A 20 (by decide), hs.A 23 (by decide), hs.A 26 (by decide), hs.A 29 (by decide), hs.A 30 (by decide), hs.A 31 (by decide), hs.A 32 (by decide), hs.A 33 (by decide), hs.A 34 (by decide), hs.A 35 (by decide), hs.A 36 (by decide), hs.A 44 (by decide), hs.A 60 (by decide), hs.A 61 (by decide), hs.A 62 (by decide), hs.A 63 (by decide), hs.A 64 (by decide), hs.A 67 (by decide), hs.A 69 (by decide), hs.A 70 (by decide), hs.A 73 (by decide), hs.B 6, hs.B 21, hs.B 24, hs.B 27, hs.B 71, hs.B 72, hs.I 40 (by decide), hs.I 41 (by decide), hs.I 3202 (by decide), hs.I 3584 (by decide), hs.I 3586 (by decide), hs.I 3587 (by decide), hs.I 8959 (by decide), hs.I 9087 (by decide), hs.I 9215 (by decide), hs.I 9343 (by decide), hs.I 9471 (by decide), hs.I 9599 (by decide)] at *
    exact hr
  · show 0 ≤ gI s' 41 0 ∧ gI s' 41 0 ≤ 300000
    rw [hs.I 41 (by decide)]
    exact ht
  · rw [eu] at b
    have e := hs.2.2.2.2.1 x a b
    by_cases m : a_marked s x = 0
    · rw [if_pos m] at e
      have no : ∀ k, k ≠ 0 → a_sort s' x ≠ k := fun k p q => p (q.symm.trans e)
      exact ⟨⟨fun z => absurd z (no 5 (by decide)), fun z => absurd z (no 6 (by decide)), fun z => absurd z (no 7 (by decide)), fun z => absurd z (no 8 (by decide))⟩, ⟨fun z => absurd z (no 5 (by decide)), fun z => absurd z (no 6 (by decide)), fun z => absurd z (no 7 (by decide)), fun z => absurd z (no 8 (by decide))⟩⟩
    · rw [if_neg m] at e
      obtain ⟨b1, b2, b3⟩ := hb x a b
      refine ⟨(b3.f3 hs e).sh fun z => ?_, (b2 m).f3 ⟨a, b⟩ hs e⟩
      rw [e] at z
      have := hq x a b z (Or.inl m)
      simp only [a_sort, a_tag, a_first, a_second, a_third, a_chain, a_free, a_text, a_heads, a_ek, a_ev, a_vk, a_vv, a_follow, a_bucket, a_registers, f_used, v_variable_k, v_variable_v, v_stack_k, v_stack_v, v_row_k, v_row_v, v_start_n, v_start_k, v_start_v, t_place, t_frames, t_openCount, t_open, t_kind, t_function, t_base, t_extra, t_rowCount, p_ek, p_vk, p_ev, p_vv, p_follow, hs.A 5 (by decide), hs.A 20 (by decide), hs.A 23 (by decide), hs.A 26 (by decide), hs.A 29 (by decide), hs.A 30 (by decide), hs.A 31 (by decide), hs.A 32 (by decide), hs.A 33 (by decide), hs.A 34 (by decide), hs.A 35 (by decide), hs.A 36 (by decide), hs.A 44 (by decide), hs.A 60 (by decide), hs.A 61 (by decide), hs.A 62 (by decide), hs.A 63 (by decide), hs.A 64 (by decide), hs.A 67 (by decide), hs.A 69 (by decide), hs.A 70 (by decide), hs.A 73 (by decide), hs.B 6, hs.B 21, hs.B 24, hs.B 27, hs.B 71, hs.B 72, hs.I 40 (by decide), hs.I 41 (by decide), hs.I 3202 (by decide), hs.I 3584 (by decide), hs.I 3586 (by decide), hs.I 3587 (by decide), hs.I 8959 (by decide), hs.I 9087 (by decide), hs.I 9215 (by decide), hs.I 9343 (by decide), hs.I 9471 (by decide)] at *
      exact this
  · intro t t1 t2 t3
    have t3' : 0 ≤ t_place s t := by
      show 0 ≤ gI s 3584 t
      rw [← hs.I 3584 (by decide)]
      exact t3
    obtain ⟨w1, w2⟩ := ho t t1 t2 t3'
    obtain ⟨-, -, v⟩ := hal ⟨t1, t2⟩ t3'
    have v3 := v.2.2
    simp only [a_sort, a_tag, a_first, a_second, a_third, a_chain, a_free, a_text, a_heads, a_ek, a_ev, a_vk, a_vv, a_follow, a_bucket, a_registers, f_used, v_variable_k, v_variable_v, v_stack_k, v_stack_v, v_row_k, v_row_v, v_start_n, v_start_k, v_start_v, t_place, t_frames, t_openCount, t_open, t_kind, t_function, t_base, t_extra, t_rowCount, p_ek, p_vk, p_ev, p_vv, p_follow, hs.A 5 (by decide), hs.A 20 (by decide), hs.A 23 (by decide), hs.A 26 (by decide), hs.A 29 (by decide), hs.A 30 (by decide), hs.A 31 (by decide), hs.A 32 (by decide), hs.A 33 (by decide), hs.A 34 (by decide), hs.A 35 (by decide), hs.A 36 (by decide), hs.A 44 (by decide), hs.A 60 (by decide), hs.A 61 (by decide), hs.A 62 (by decide), hs.A 63 (by decide), hs.A 64 (by decide), hs.A 67 (by decide), hs.A 69 (by decide), hs.A 70 (by decide), hs.A 73 (by decide), hs.B 6, hs.B 21, hs.B 24, hs.B 27, hs.B 71, hs.B 72, hs.I 40 (by decide), hs.I 41 (by decide), hs.I 3202 (by decide), hs.I 3584 (by decide), hs.I 3586 (by decide), hs.I 3587 (by decide), hs.I 8959 (by decide), hs.I 9087 (by decide), hs.I 9215 (by decide), hs.I 9343 (by decide), hs.I 9471 (by decide)] at *
    exact ⟨fun k a b => ⟨(v3 k a b).f3 hs, (w1 k a b).2⟩, w2⟩
  · intro x hx hf
    have hx' : Lv false s x 8 := by
      have b := hx.2.1
      rw [eu] at b
      have e := hs.2.2.2.2.1 x hx.1 b
      rw [hx.2.2.1] at e
      by_cases m : a_marked s x = 0
      · rw [if_pos m] at e
        exact absurd e (by decide)
      · rw [if_neg m] at e
        exact ⟨hx.1, b, e.symm, fun z => by cases z⟩
    have := hc x hx'
    simp only [a_sort, a_tag, a_first, a_second, a_third, a_chain, a_free, a_text, a_heads, a_ek, a_ev, a_vk, a_vv, a_follow, a_bucket, a_registers, f_used, v_variable_k, v_variable_v, v_stack_k, v_stack_v, v_row_k, v_row_v, v_start_n, v_start_k, v_start_v, t_place, t_frames, t_openCount, t_open, t_kind, t_function, t_base, t_extra, t_rowCount, p_ek, p_vk, p_ev, p_vv, p_follow, hs.A 5 (by decide), hs.A 20 (by decide), hs.A 23 (by decide), hs.A 26 (by decide), hs.A 29 (by decide), hs.A 30 (by decide), hs.A 31 (by decide), hs.A 32 (by decide), hs.A 33 (by decide), hs.A 34 (by decide), hs.A 35 (by decide), hs.A 36 (by decide), hs.A 44 (by decide), hs.A 60 (by decide), hs.A 61 (by decide), hs.A 62 (by decide), hs.A 63 (by decide), hs.A 64 (by decide), hs.A 67 (by decide), hs.A 69 (by decide), hs.A 70 (by decide), hs.A 73 (by decide), hs.B 6, hs.B 21, hs.B 24, hs.B 27, hs.B 71, hs.B 72, hs.I 40 (by decide), hs.I 41 (by decide), hs.I 3202 (by decide), hs.I 3584 (by decide), hs.I 3586 (by decide), hs.I 3587 (by decide), hs.I 8959 (by decide), hs.I 9087 (by decide), hs.I 9215 (by decide), hs.I 9343 (by decide), hs.I 9471 (by decide)] at *
    exact this hf
  · intro t t1 t2 t3
    have t3' : 0 ≤ t_place s t := by
      show 0 ≤ gI s 3584 t
      rw [← hs.I 3584 (by decide)]
      exact t3
    obtain ⟨p1, p2, -⟩ := hal ⟨t1, t2⟩ t3'
    have := p1.f3 hs
    simp only [a_sort, a_tag, a_first, a_second, a_third, a_chain, a_free, a_text, a_heads, a_ek, a_ev, a_vk, a_vv, a_follow, a_bucket, a_registers, f_used, v_variable_k, v_variable_v, v_stack_k, v_stack_v, v_row_k, v_row_v, v_start_n, v_start_k, v_start_v, t_place, t_frames, t_openCount, t_open, t_kind, t_function, t_base, t_extra, t_rowCount, p_ek, p_vk, p_ev, p_vv, p_follow, hs.A 5 (by decide), hs.A 20 (by decide), hs.A 23 (by decide), hs.A 26 (by decide), hs.A 29 (by decide), hs.A 30 (by decide), hs.A 31 (by decide), hs.A 32 (by decide), hs.A 33 (by decide), hs.A 34 (by decide), hs.A 35 (by decide), hs.A 36 (by decide), hs.A 44 (by decide), hs.A 60 (by decide), hs.A 61 (by decide), hs.A 62 (by decide), hs.A 63 (by decide), hs.A 64 (by decide), hs.A 67 (by decide), hs.A 69 (by decide), hs.A 70 (by decide), hs.A 73 (by decide), hs.B 6, hs.B 21, hs.B 24, hs.B 27, hs.B 71, hs.B 72, hs.I 40 (by decide), hs.I 41 (by decide), hs.I 3202 (by decide), hs.I 3584 (by decide), hs.I 3586 (by decide), hs.I 3587 (by decide), hs.I 8959 (by decide), hs.I 9087 (by decide), hs.I 9215 (by decide), hs.I 9343 (by decide), hs.I 9471 (by decide)] at *
    exact ⟨this, p2⟩
  · obtain ⟨r1, ⟨ρ, r2⟩, r3⟩ := hrs
    unfold RtS
    refine ⟨?_, ⟨ρ, ?_⟩, ?_⟩
    · show 0 ≤ gI s' 72 0 ∧ gI s' 72 0 < 33
      rw [hs.I 72 (by decide)]
      exact r1
    · unfold Rk
      simp only [t_resumer, hs.I 3590 (by decide)]
      exact r2
    · simp only [v_hand_n, v_args_n, v_results_n, v_ended_n, f_used, hs.I 2050 (by decide), hs.I 898 (by decide), hs.I 1282 (by decide), hs.I 1666 (by decide), hs.I 40 (by decide)] at *
      exact r3
