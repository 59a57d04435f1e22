/-! A table's own things are written. -/
theorem reg_in {a k n : Int32} (ha : 0 ≤ a ∧ a ≤ 400000) (hk : 0 ≤ k) (hkn : k < n) (hn : n ≤ 400000) : a ≤ a + k ∧ a + k < a + n := by
  have k4 : (400000 : Int32).toInt = 400000 := rfl
  have h0 : (0 : Int32).toInt = 0 := rfl
  simp only [i32_le, i32_lt] at ha hk hkn hn ⊢
  have e1 : (a + k).toInt = a.toInt + k.toInt := by
    rw [Int32.toInt_add]
    exact Int.bmod_eq_of_le (by omega) (by omega)
  have e2 : (a + n).toInt = a.toInt + n.toInt := by
    rw [Int32.toInt_add]
    exact Int.bmod_eq_of_le (by omega) (by omega)
  omega
def Tw (s s' : S1) (t : Int32) : Prop := (∀ f i, gI s' f i = gI s f i) ∧ (∀ f i, gL s' f i = gL s f i) ∧ (∀ a i j, a ≠ 62 → a ≠ 63 → a ≠ 64 → a ≠ 69 → a ≠ 70 → a ≠ 73 → a ≠ 74 → gA s' a i j = gA s a i j) ∧ (∀ a i j, a ≠ 71 → a ≠ 72 → gB s' a i j = gB s a i j) ∧ (∀ z, z ≠ t → a_first s' z = a_first s z ∧ a_second s' z = a_second s z ∧ a_third s' z = a_third s z) ∧
  (∀ j, ¬ (a_first s' t ≤ j ∧ j < a_first s' t + a_second s' t) → a_ek s' j = a_ek s j ∧ a_vk s' j = a_vk s j ∧ a_follow s' j = a_follow s j ∧ a_bucket s' j = a_bucket s j ∧ a_ev s' j = a_ev s j ∧ a_vv s' j = a_vv s j) ∧
  (∀ y b m, y ≠ t → q_Rg s y b m → ∀ j, a_first s' t ≤ j → j < a_first s' t + a_second s' t → b ≤ j → j < b + m → False) ∧
  (0 ≤ a_first s' t ∧ 0 ≤ a_third s' t ∧ a_third s' t ≤ a_second s' t ∧ a_first s' t ≤ 300000 ∧ a_second s' t ≤ 300000 ∧ a_first s' t + a_second s' t ≤ f_entryTop s) ∧ Tch s' t ∧
  (∀ k, a_first s' t ≤ k → k < a_first s' t + a_third s' t → Vl false s (a_ek s' k) (a_ev s' k) ∧ Vl false s (a_vk s' k) (a_vv s' k))
theorem Tw.A {s s' : S1} {t : Int32} (h : Tw s s' t) (f : Nat) (hf : f ≠ 62 ∧ f ≠ 63 ∧ f ≠ 64 ∧ f ≠ 69 ∧ f ≠ 70 ∧ f ≠ 73 ∧ f ≠ 74) (i j : Int32) : gA s' f i j = gA s f i j := h.2.2.1 f i j hf.1 hf.2.1 hf.2.2.1 hf.2.2.2.1 hf.2.2.2.2.1 hf.2.2.2.2.2.1 hf.2.2.2.2.2.2
theorem Tw.B {s s' : S1} {t : Int32} (h : Tw s s' t) (f : Nat) (hf : f ≠ 71 ∧ f ≠ 72) (i j : Int32) : gB s' f i j = gB s f i j := h.2.2.2.1 f i j hf.1 hf.2
theorem Tw.P {s s' : S1} {t z : Int32} (h : Tw s s' t) (hz : z ≠ t) : a_first s' z = a_first s z ∧ a_second s' z = a_second s z ∧ a_third s' z = a_third s z := h.2.2.2.2.1 z hz
/-- what another's region holds stays -/
theorem Tw.R {s s' : S1} {t : Int32} (h : Tw s s' t) {y b m j : Int32} (hy : y ≠ t) (hr : q_Rg s y b m) (h1 : b ≤ j) (h2 : j < b + m) : a_ek s' j = a_ek s j ∧ a_vk s' j = a_vk s j ∧ a_follow s' j = a_follow s j ∧ a_bucket s' j = a_bucket s j ∧ a_ev s' j = a_ev s j ∧ a_vv s' j = a_vv s j := h.2.2.2.2.2.1 j fun c => h.2.2.2.2.2.2.1 y b m hy hr j c.1 c.2 h1 h2
theorem Lv.tw {m : Bool} {s s' : S1} {x k t : Int32} (hs : Tw s s' t) : Lv m s' x k ↔ Lv m s x k := by
  unfold Lv
  simp only [f_used, a_sort, a_marked, hs.1, hs.A 5 (by decide), hs.A 20 (by decide), hs.A 23 (by decide), hs.A 26 (by decide), hs.A 29 (by decide), hs.A 30 (by decide), hs.A 31 (by decide), hs.A 32 (by decide), hs.A 33 (by decide), hs.A 34 (by decide), hs.A 35 (by decide), hs.A 36 (by decide), hs.A 44 (by decide), hs.A 58 (by decide), hs.A 59 (by decide), hs.A 60 (by decide), hs.A 61 (by decide), hs.A 65 (by decide), hs.A 66 (by decide), hs.A 67 (by decide), hs.A 68 (by decide), hs.B 6 (by decide), hs.B 21 (by decide), hs.B 24 (by decide), hs.B 27 (by decide)]
theorem Vl.tw {m : Bool} {s s' : S1} {k : Int32} {v : Int64} {t : Int32} (hs : Tw s s' t) : Vl m s' k v ↔ Vl m s k v := by
  unfold Vl
  simp only [Lv.tw hs]
theorem Wl.tw {m : Bool} {s s' : S1} {k : Int32} {v : Int64} {t : Int32} (hs : Tw s s' t) : Wl m s' k v ↔ Wl m s k v := by
  unfold Wl
  simp only [Vl.tw hs, Lv.tw hs]
theorem Lv.nt {s : S1} {x t k : Int32} (h : Lv false s x k) (ht : a_sort s t = 5) (hk : k ≠ 5) : x ≠ t := fun e => hk (by
  have := h.2.2.1
  rw [e, ht] at this
  exact this.symm)
theorem Ts.tw {s s' : S1} {x t : Int32} (ht : Ts s x) (hv : ThV false s x) (hs : Tw s s' t) (h5 : a_sort s t = 5) : Ts s' x := by
  obtain ⟨h1, h2, h3, h4⟩ := ht
  obtain ⟨-, w, -⟩ := hv
  unfold Ts
  simp only [a_sort, a_tag, a_first, a_second, a_third, a_chain, a_free, a_text, a_heads, a_ek, a_ev, a_vk, a_vv, a_follow, a_bucket, a_registers, f_used, v_variable_k, v_variable_v, v_stack_k, v_stack_v, v_row_k, v_row_v, v_start_n, v_start_k, v_start_v, t_place, t_frames, t_openCount, t_open, t_kind, t_function, t_base, t_extra, t_rowCount, p_ek, p_vk, p_ev, p_vv, p_follow, hs.1, hs.A 5 (by decide), hs.A 20 (by decide), hs.A 23 (by decide), hs.A 26 (by decide), hs.A 29 (by decide), hs.A 30 (by decide), hs.A 31 (by decide), hs.A 32 (by decide), hs.A 33 (by decide), hs.A 34 (by decide), hs.A 35 (by decide), hs.A 36 (by decide), hs.A 44 (by decide), hs.A 58 (by decide), hs.A 59 (by decide), hs.A 60 (by decide), hs.A 61 (by decide), hs.A 65 (by decide), hs.A 66 (by decide), hs.A 67 (by decide), hs.A 68 (by decide), hs.B 6 (by decide), hs.B 21 (by decide), hs.B 24 (by decide), hs.B 27 (by decide)] at *
  refine ⟨h1, h2, h3, fun f a b => ?_⟩
  have q5 := h4 f a b
  have q6 := (w f a b).1
  unfold FrS at *
  simp only [a_sort, a_tag, a_first, a_second, a_third, a_chain, a_free, a_text, a_heads, a_ek, a_ev, a_vk, a_vv, a_follow, a_bucket, a_registers, f_used, v_variable_k, v_variable_v, v_stack_k, v_stack_v, v_row_k, v_row_v, v_start_n, v_start_k, v_start_v, t_place, t_frames, t_openCount, t_open, t_kind, t_function, t_base, t_extra, t_rowCount, p_ek, p_vk, p_ev, p_vv, p_follow, hs.1, hs.A 5 (by decide), hs.A 20 (by decide), hs.A 23 (by decide), hs.A 26 (by decide), hs.A 29 (by decide), hs.A 30 (by decide), hs.A 31 (by decide), hs.A 32 (by decide), hs.A 33 (by decide), hs.A 34 (by decide), hs.A 35 (by decide), hs.A 36 (by decide), hs.A 44 (by decide), hs.A 58 (by decide), hs.A 59 (by decide), hs.A 60 (by decide), hs.A 61 (by decide), hs.A 65 (by decide), hs.A 66 (by decide), hs.A 67 (by decide), hs.A 68 (by decide), hs.B 6 (by decide), hs.B 21 (by decide), hs.B 24 (by decide), hs.B 27 (by decide)] at *
  intro c
  have e := (hs.P ((q6 (q5 c).1.1).nt h5 (by decide))).1
  simp only [a_sort, a_tag, a_first, a_second, a_third, a_chain, a_free, a_text, a_heads, a_ek, a_ev, a_vk, a_vv, a_follow, a_bucket, a_registers, f_used, v_variable_k, v_variable_v, v_stack_k, v_stack_v, v_row_k, v_row_v, v_start_n, v_start_k, v_start_v, t_place, t_frames, t_openCount, t_open, t_kind, t_function, t_base, t_extra, t_rowCount, p_ek, p_vk, p_ev, p_vv, p_follow] at e
  rw [e]
  exact q5 c
theorem ThV.tw {s s' : S1} {x t : Int32} (ht : Ts s x) (hv : ThV false s x) (hs : Tw s s' t) (h5 : a_sort s t = 5) : ThV false s' x := by
  obtain ⟨-, -, -, h4⟩ := ht
  obtain ⟨w1, w2, w3⟩ := hv
  unfold ThV
  simp only [Vl.tw hs, Lv.tw hs]
  simp only [a_sort, a_tag, a_first, a_second, a_third, a_chain, a_free, a_text, a_heads, a_ek, a_ev, a_vk, a_vv, a_follow, a_bucket, a_registers, f_used, v_variable_k, v_variable_v, v_stack_k, v_stack_v, v_row_k, v_row_v, v_start_n, v_start_k, v_start_v, t_place, t_frames, t_openCount, t_open, t_kind, t_function, t_base, t_extra, t_rowCount, p_ek, p_vk, p_ev, p_vv, p_follow, hs.1, hs.A 5 (by decide), hs.A 20 (by decide), hs.A 23 (by decide), hs.A 26 (by decide), hs.A 29 (by decide), hs.A 30 (by decide), hs.A 31 (by decide), hs.A 32 (by decide), hs.A 33 (by decide), hs.A 34 (by decide), hs.A 35 (by decide), hs.A 36 (by decide), hs.A 44 (by decide), hs.A 58 (by decide), hs.A 59 (by decide), hs.A 60 (by decide), hs.A 61 (by decide), hs.A 65 (by decide), hs.A 66 (by decide), hs.A 67 (by decide), hs.A 68 (by decide), hs.B 6 (by decide), hs.B 21 (by decide), hs.B 24 (by decide), hs.B 27 (by decide)] at *
  refine ⟨w1, fun f a b => ?_, w3⟩
  have q5 := h4 f a b
  have q6 := w2 f a b
  unfold FrS at q5
  unfold FrV at *
  simp only [Vl.tw hs, Lv.tw hs]
  simp only [a_sort, a_tag, a_first, a_second, a_third, a_chain, a_free, a_text, a_heads, a_ek, a_ev, a_vk, a_vv, a_follow, a_bucket, a_registers, f_used, v_variable_k, v_variable_v, v_stack_k, v_stack_v, v_row_k, v_row_v, v_start_n, v_start_k, v_start_v, t_place, t_frames, t_openCount, t_open, t_kind, t_function, t_base, t_extra, t_rowCount, p_ek, p_vk, p_ev, p_vv, p_follow, hs.1, hs.A 5 (by decide), hs.A 20 (by decide), hs.A 23 (by decide), hs.A 26 (by decide), hs.A 29 (by decide), hs.A 30 (by decide), hs.A 31 (by decide), hs.A 32 (by decide), hs.A 33 (by decide), hs.A 34 (by decide), hs.A 35 (by decide), hs.A 36 (by decide), hs.A 44 (by decide), hs.A 58 (by decide), hs.A 59 (by decide), hs.A 60 (by decide), hs.A 61 (by decide), hs.A 65 (by decide), hs.A 66 (by decide), hs.A 67 (by decide), hs.A 68 (by decide), hs.B 6 (by decide), hs.B 21 (by decide), hs.B 24 (by decide), hs.B 27 (by decide)] at *
  refine ⟨q6.1, fun c => ?_⟩
  have e := (hs.P ((q6.1 (q5 c).1.1).nt h5 (by decide))).1
  simp only [a_sort, a_tag, a_first, a_second, a_third, a_chain, a_free, a_text, a_heads, a_ek, a_ev, a_vk, a_vv, a_follow, a_bucket, a_registers, f_used, v_variable_k, v_variable_v, v_stack_k, v_stack_v, v_row_k, v_row_v, v_start_n, v_start_k, v_start_v, t_place, t_frames, t_openCount, t_open, t_kind, t_function, t_base, t_extra, t_rowCount, p_ek, p_vk, p_ev, p_vv, p_follow] at e
  rw [e]
  exact q6.2 c
theorem Str.tw {s s' : S1} {t : Int32} (h : Str s) (hs : Tw s s' t) (h5 : a_sort s t = 5) : Str s' := by
  have es : ∀ z, a_sort s' z = a_sort s z := fun z => hs.A 58 (by decide) 0 z
  have eu : f_used s' = f_used s := hs.1 40 0
  have nt : ∀ z, a_sort s z = 4 → z ≠ t := fun z w e => by
    rw [e, h5] at w
    exact absurd w (by decide)
  have g : ∀ z q, Sg s' z q ↔ Sg s z q := fun z q => by
    unfold Sg
    rw [es, eu]
    constructor
    · rintro ⟨a, b, c, d⟩
      rw [(hs.P (nt z c)).1, (hs.P (nt z c)).2.1, hF_congr (fun j => hs.A 67 (by decide) 0 j)] at d
      exact ⟨a, b, c, d⟩
    · rintro ⟨a, b, c, d⟩
      rw [(hs.P (nt z c)).1, (hs.P (nt z c)).2.1, hF_congr (fun j => hs.A 67 (by decide) 0 j)]
      exact ⟨a, b, c, d⟩
  obtain ⟨t1, t2, t3, t4, t5, t6⟩ := h
  have tg : ∀ z, a_tag s' z = a_tag s z := fun z => hs.A 61 (by decide) 0 z
  have ch : ∀ z, a_chain s' z = a_chain s z := fun z => hs.A 65 (by decide) 0 z
  have hd : ∀ z, a_heads s' z = a_heads s z := fun z => hs.A 68 (by decide) 0 z
  have e38 : f_textMade s' = f_textMade s := hs.1 38 0
  unfold Str H1 H2 H3 H4
  simp only [g, tg, ch, hd, e38, eu]
  refine ⟨t1, fun z a b c => ?_, t3, t4, t5, t6⟩
  rw [es] at c
  have := t2 z a b c
  rw [(hs.P (nt z c)).1, (hs.P (nt z c)).2.1, e38]
  exact this
theorem Hq.tw {s s' : S1} {t : Int32} (h : Hq s) (hs : Tw s s' t) (ht : Lv false s t 5) : Hq s' := by
  obtain ⟨⟨v1, v2, v3⟩, h2, h3, h4, h5, h6, h7⟩ := h
  have so := ht.2.2.1
  have eu : f_used s' = f_used s := hs.1 40 0
  have et : f_entryTop s' = f_entryTop s := hs.1 41 0
  have es : ∀ z, a_sort s' z = a_sort s z := fun z => hs.A 58 (by decide) 0 z
  obtain ⟨-, -, -, -, hP, -, -, t1, t2, t3⟩ := id hs
  refine ⟨⟨?_, by rw [et]; exact v2, fun x a b => ?_⟩, h2.tw hs so, ?_, ?_, ?_, ?_, by rw [eu]; exact h7⟩
  · unfold Rm at *
    simp only [p_ek, p_vk, p_ev, p_vv, p_follow, p_bucket, hs.1] at *
    exact v1
  · rw [eu] at b
    obtain ⟨⟨a5, a6, a7, a8⟩, c5, c6, c7, c8⟩ := v3 x a b
    by_cases d : x = t
    · subst d
      have no : ∀ q, q ≠ 5 → a_sort s' x ≠ q := fun q p w => p (w.symm.trans ((es x).trans so))
      refine ⟨⟨fun _ => ?_, fun z => absurd z (no 6 (by decide)), fun z => absurd z (no 7 (by decide)), fun z => absurd z (no 8 (by decide))⟩, fun _ => ⟨?_, fun k p q => ?_⟩, fun z => absurd z (no 6 (by decide)), fun z => absurd z (no 7 (by decide)), fun z => absurd z (no 8 (by decide))⟩
      · rw [et]
        exact t1
      · have w := (c5 so).1
        rw [Lv.tw hs]
        show gA s' 65 0 x < 0 ∨ Lv false s (gA s' 65 0 x) 5
        rw [hs.A 65 (by decide)]
        exact w
      · rw [Vl.tw hs, Vl.tw hs]
        exact t3 k p q
    · obtain ⟨p1, p2, p3⟩ := hs.P d
      refine ⟨⟨fun y => ?_, fun y => ?_, fun y => ?_, fun y => ?_⟩, ⟨fun y => ?_, fun y => ?_, fun y => ?_, fun y => ?_⟩⟩ <;> rw [es] at y
      · rw [p1, p2, p3, et]
        exact a5 y
      · rw [p1, p2, p3, et]
        exact a6 y
      · rw [p1]
        refine ⟨(a7 y).1, (a7 y).2.1, ?_, (a7 y).2.2.2.tw (c7 y) hs so⟩
        show gI s' 3584 _ = x
        rw [hs.1]
        exact (a7 y).2.2.1
      · rw [p1, p2]
        exact a8 y
      · have w := c5 y
        have sh := a5 y
        have hr : q_Rg s x (a_first s x) (a_second s x) := ⟨⟨a, b⟩, Or.inl ⟨y, rfl, rfl⟩⟩
        unfold TbV at *
        rw [p1, p3]
        simp only [Vl.tw hs, Lv.tw hs]
        refine ⟨?_, fun k q1 q2 => ?_⟩
        · show gA s' 65 0 x < 0 ∨ Lv false s (gA s' 65 0 x) 5
          rw [hs.A 65 (by decide)]
          exact w.1
        · have q3 : k < a_first s x + a_second s x := by
            have z1 := sh
            clear v1 v2 v3 h2 h3 h4 h5 h6 w c5 c6 c7 c8 a5 a6 a7 a8 hs hP t3 t2
            grind
          obtain ⟨r1, r2, r3, r4, r5, r6⟩ := hs.R d hr q1 q3
          rw [r1, r2, r5, r6]
          exact w.2 k q1 q2
      · have w := c6 y
        have sh := a6 y
        unfold FnV at *
        rw [p1, p2, p3]
        simp only [Lv.tw hs]
        refine ⟨w.1, fun z k q1 q2 => ?_⟩
        have hr : q_Rg s x (a_second s x) (a_third s x) := ⟨⟨a, b⟩, Or.inr ⟨y, z, rfl, rfl⟩⟩
        have q3 : a_second s x ≤ a_second s x + k ∧ a_second s x + k < a_second s x + a_third s x := reg_in ⟨(sh.2 z).1, Int32.le_trans (sh.2 z).2.2.1 (by decide)⟩ q1 q2 (Int32.le_trans (sh.2 z).2.2.2.1 (by decide))
        rw [(hs.R d hr q3.1 q3.2).2.2.1]
        exact w.2 z k q1 q2
      · rw [p1]
        exact ThV.tw (a7 y).2.2.2 (c7 y) hs so
      · have w := c8 y
        unfold VrV at *
        rw [p1, p2]
        simp only [Vl.tw hs]
        simp only [a_sort, a_tag, a_first, a_second, a_third, a_chain, a_free, a_text, a_heads, a_ek, a_ev, a_vk, a_vv, a_follow, a_bucket, a_registers, f_used, v_variable_k, v_variable_v, v_stack_k, v_stack_v, v_row_k, v_row_v, v_start_n, v_start_k, v_start_v, t_place, t_frames, t_openCount, t_open, t_kind, t_function, t_base, t_extra, t_rowCount, p_ek, p_vk, p_ev, p_vv, p_follow, hs.A 5 (by decide), hs.A 20 (by decide), hs.A 23 (by decide), hs.A 26 (by decide), hs.A 29 (by decide), hs.A 30 (by decide), hs.A 31 (by decide), hs.A 32 (by decide), hs.A 33 (by decide), hs.A 34 (by decide), hs.A 35 (by decide), hs.A 36 (by decide), hs.A 44 (by decide), hs.A 58 (by decide), hs.A 59 (by decide), hs.A 60 (by decide), hs.A 61 (by decide), hs.A 65 (by decide), hs.A 66 (by decide), hs.A 67 (by decide), hs.A 68 (by decide), hs.B 6 (by decide), hs.B 21 (by decide), hs.B 24 (by decide), hs.B 27 (by decide)] at *
        exact w
  · unfold Frl at *
    simp only [f_freed, f_existing, f_used, a_free, a_sort, hs.1, hs.A 5 (by decide), hs.A 20 (by decide), hs.A 23 (by decide), hs.A 26 (by decide), hs.A 29 (by decide), hs.A 30 (by decide), hs.A 31 (by decide), hs.A 32 (by decide), hs.A 33 (by decide), hs.A 34 (by decide), hs.A 35 (by decide), hs.A 36 (by decide), hs.A 44 (by decide), hs.A 58 (by decide), hs.A 59 (by decide), hs.A 60 (by decide), hs.A 61 (by decide), hs.A 65 (by decide), hs.A 66 (by decide), hs.A 67 (by decide), hs.A 68 (by decide), hs.B 6 (by decide), hs.B 21 (by decide), hs.B 24 (by decide), hs.B 27 (by decide)] at *
    exact h3
  · intro u u1 u2 u3
    have u3' : 0 ≤ gI s' 3584 u := u3
    rw [hs.1] at u3'
    obtain ⟨w1, w2⟩ := h4 u u1 u2 u3'
    simp only [Lv.tw hs]
    simp only [t_openCount, t_open, hs.1, hs.A 5 (by decide), hs.A 20 (by decide), hs.A 23 (by decide), hs.A 26 (by decide), hs.A 29 (by decide), hs.A 30 (by decide), hs.A 31 (by decide), hs.A 32 (by decide), hs.A 33 (by decide), hs.A 34 (by decide), hs.A 35 (by decide), hs.A 36 (by decide), hs.A 44 (by decide), hs.A 58 (by decide), hs.A 59 (by decide), hs.A 60 (by decide), hs.A 61 (by decide), hs.A 65 (by decide), hs.A 66 (by decide), hs.A 67 (by decide), hs.A 68 (by decide), hs.B 6 (by decide), hs.B 21 (by decide), hs.B 24 (by decide), hs.B 27 (by decide)] at *
    refine ⟨fun k a b => ⟨(w1 k a b).1, ?_⟩, w2⟩
    rw [(hs.P ((w1 k a b).1.nt so (by decide))).1]
    exact (w1 k a b).2
  · intro x hx hf
    rw [Lv.tw hs] at hx
    rw [(hs.P (hx.nt so (by decide))).1] at hf ⊢
    have w := h5 x hx hf
    simp only [t_place, t_openCount, t_open, hs.1, hs.A 5 (by decide), hs.A 20 (by decide), hs.A 23 (by decide), hs.A 26 (by decide), hs.A 29 (by decide), hs.A 30 (by decide), hs.A 31 (by decide), hs.A 32 (by decide), hs.A 33 (by decide), hs.A 34 (by decide), hs.A 35 (by decide), hs.A 36 (by decide), hs.A 44 (by decide), hs.A 58 (by decide), hs.A 59 (by decide), hs.A 60 (by decide), hs.A 61 (by decide), hs.A 65 (by decide), hs.A 66 (by decide), hs.A 67 (by decide), hs.A 68 (by decide), hs.B 6 (by decide), hs.B 21 (by decide), hs.B 24 (by decide), hs.B 27 (by decide)] at *
    exact w
  · intro u u1 u2 u3
    have e : t_place s' u = t_place s u := hs.1 3584 u
    rw [e] at u3 ⊢
    obtain ⟨w1, w2⟩ := h6 u u1 u2 u3
    rw [Lv.tw hs, (hs.P (w1.nt so (by decide))).1]
    exact ⟨w1, w2⟩
theorem GG.tw {s s' : S1} {t : Int32} (h : GG s) (hs : Tw s s' t) (ht : Lv false s t 5) : GG s' := by
  obtain ⟨hm, hn, he, hr, hc⟩ := h
  have so := ht.2.2.1
  have es : ∀ z, a_sort s' z = a_sort s z := fun z => hs.A 58 (by decide) 0 z
  have eu : f_used s' = f_used s := hs.1 40 0
  refine ⟨⟨hm.1.tw hs ht, fun z => ?_⟩, ?_, ?_, ?_, (PT.same (fun t => hs.1 3584 t) (hs.1 39 0)).2 hc⟩
  · have z' : f_noCollection s = 0 := (hs.1 92 0).symm.trans z
    obtain ⟨⟨r1, ⟨ρ, r2⟩, r3⟩, q⟩ := hm.2 z'
    have e := chN_I (hs.1 72 0) (hs.1 3590)
    constructor
    · unfold RtS Rk at *
      simp only [f_current, t_resumer, v_hand_n, v_args_n, v_results_n, v_ended_n, f_used, hs.1] at *
      exact ⟨r1, ⟨ρ, r2⟩, r3⟩
    · unfold RtV RwV at *
      simp only [e, Lv.tw hs, Vl.tw hs, Wl.tw hs]
      simp only [f_globals, t_place, f_errorKind, f_errorValue, f_calledKind, f_called, a_sort, a_fixed, a_marked, f_used, hs.1, hs.2.1, hs.A 5 (by decide), hs.A 20 (by decide), hs.A 23 (by decide), hs.A 26 (by decide), hs.A 29 (by decide), hs.A 30 (by decide), hs.A 31 (by decide), hs.A 32 (by decide), hs.A 33 (by decide), hs.A 34 (by decide), hs.A 35 (by decide), hs.A 36 (by decide), hs.A 44 (by decide), hs.A 58 (by decide), hs.A 59 (by decide), hs.A 60 (by decide), hs.A 61 (by decide), hs.A 65 (by decide), hs.A 66 (by decide), hs.A 67 (by decide), hs.A 68 (by decide), hs.B 6 (by decide), hs.B 21 (by decide), hs.B 24 (by decide), hs.B 27 (by decide), Nat.reduceAdd, hs.A 8 (by decide), hs.A 11 (by decide), hs.A 14 (by decide), hs.A 17 (by decide), hs.B 9 (by decide), hs.B 12 (by decide), hs.B 15 (by decide), hs.B 18 (by decide)] at *
      exact q
  · obtain ⟨n1, n2, n3, n4, n5⟩ := hn
    have e61 : ∀ z, a_tag s' z = a_tag s z := fun z => hs.A 61 (by decide) 0 z
    have e33 : f_made s' = f_made s := hs.1 33 0
    refine ⟨?_, ?_, ?_, ?_, fun x a b c => ?_⟩
    · simp only [f_entryTop, f_roomAll, hs.1] at *
      exact n1
    · simp only [f_textMade, f_textAll, hs.1] at *
      exact n2
    · simp only [f_made, f_madeAll, hs.1] at *
      exact n3
    · simp only [f_limit, hs.1] at *
      exact n4
    · rw [es] at c
      rw [eu] at b
      have d : x ≠ t := fun e => by
        rw [e, so] at c
        exact absurd c (by decide)
      rw [e61, e33, (hs.P d).2.1]
      exact n5 x a b c
  · obtain ⟨d1, d2⟩ := he
    have rg : ∀ y b m, y ≠ t → q_Rg s' y b m → q_Rg s y b m := fun y b m d w => by
      unfold q_Rg at *
      rw [eu, es, (hs.P d).1, (hs.P d).2.1, (hs.P d).2.2] at w
      exact w
    have rt : ∀ b m, q_Rg s' t b m → b = a_first s' t ∧ m = a_second s' t := fun b m w => by
      rcases w.2 with ⟨_, q1, q2⟩ | ⟨w1, _⟩
      · exact ⟨q1, q2⟩
      · rw [es, so] at w1
        exact absurd w1 (by decide)
    refine ⟨fun x y a n b m p q d j j1 j2 j3 j4 => ?_, fun x a b => ⟨fun c => ?_, fun c => ?_⟩⟩
    · by_cases dx : x = t
      · subst dx
        obtain ⟨e1, e2⟩ := rt a n p
        subst e1 e2
        exact hs.2.2.2.2.2.2.1 y b m (fun e => d e.symm) (rg y b m (fun e => d e.symm) q) j j1 j2 j3 j4
      · by_cases dy : y = t
        · subst dy
          obtain ⟨e1, e2⟩ := rt b m q
          subst e1 e2
          exact hs.2.2.2.2.2.2.1 x a n dx (rg x a n dx p) j j3 j4 j1 j2
        · exact d1 x y a n b m (rg x a n dx p) (rg y b m dy q) d j j1 j2 j3 j4
    · rw [es] at c
      rw [eu] at b
      by_cases d : x = t
      · rw [d]
        exact hs.2.2.2.2.2.2.2.2.1
      · obtain ⟨w1, w2⟩ := (d2 x a b).1 c
        obtain ⟨p1, p2, p3⟩ := hs.P d
        have sh := (hm.1.1.2.2 x a b).1.1 c
        have hr : q_Rg s x (a_first s x) (a_second s x) := ⟨⟨a, b⟩, Or.inl ⟨c, rfl, rfl⟩⟩
        have inn : ∀ k, 0 ≤ k → k < a_second s x → a_first s x ≤ a_first s x + k ∧ a_first s x + k < a_first s x + a_second s x := fun k q1 q2 => reg_in ⟨sh.1, Int32.le_trans sh.2.2.2.1 (by decide)⟩ q1 q2 (Int32.le_trans sh.2.2.2.2.1 (by decide))
        unfold Tch
        rw [p1, p2, p3]
        refine ⟨fun k q1 q2 => ?_, fun k q1 q2 => ?_⟩
        · have i1 := inn k q1 q2
          rw [(hs.R d hr i1.1 i1.2).2.2.2.1]
          exact w1 k q1 q2
        · have i1 := inn k q1 (Int32.lt_of_lt_of_le q2 sh.2.2.1)
          rw [(hs.R d hr i1.1 i1.2).2.2.1]
          exact w2 k q1 q2
    · rw [es] at c
      rw [eu] at b
      have d : x ≠ t := fun e => by
        rw [e, so] at c
        exact absurd c (by decide)
      obtain ⟨p1, p2, p3⟩ := hs.P d
      have w := (d2 x a b).2 c
      unfold Fu at *
      rw [p1, p3]
      show _ → _ < gI s' 23 0 ∧ _ = gA s' 45 0 _
      rw [hs.1, hs.A 45 (by decide)]
      exact w
  · unfold Rws RvV RwV at *
    simp only [Vl.tw hs, Wl.tw hs]
    simp only [v_hand_n, v_args_n, v_results_n, v_ended_n, f_errorKind, f_errorValue, f_calledKind, f_called, Nat.reduceMul, Nat.reduceAdd, hs.1, hs.2.1, hs.A 8 (by decide), hs.A 11 (by decide), hs.A 14 (by decide), hs.A 17 (by decide), hs.B 9 (by decide), hs.B 12 (by decide), hs.B 15 (by decide), hs.B 18 (by decide)] at *
    exact hr
