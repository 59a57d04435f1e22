/-! A table gets another metatable. -/
def Ch (s s' : S1) (t : Int32) : Prop := (∀ f i, gI s' f i = gI s f i) ∧ (∀ f i, gL s' f i = gL s f i) ∧ (∀ a i j, a ≠ 65 → gA s' a i j = gA s a i j) ∧ (∀ a i j, gB s' a i j = gB s a i j) ∧ (∀ z, z ≠ t → a_chain s' z = a_chain s z) ∧ (a_chain s' t < 0 ∨ Lv false s (a_chain s' t) 5)
theorem Ch.A {s s' : S1} {t : Int32} (h : Ch s s' t) (f : Nat) (hf : f ≠ 65) (i j : Int32) : gA s' f i j = gA s f i j := h.2.2.1 f i j hf
theorem Ch.B {s s' : S1} {t : Int32} (h : Ch s s' t) (f : Nat) (i j : Int32) : gB s' f i j = gB s f i j := h.2.2.2.1 f i j
theorem Lv.ch {m : Bool} {s s' : S1} {x k t : Int32} (hs : Ch s s' t) : Lv m s' x k ↔ Lv m s x k := by
  unfold Lv
  simp only [f_used, a_sort, a_marked, hs.1, hs.A 5 (by decide), hs.A 8 (by decide), hs.A 11 (by decide), hs.A 14 (by decide), hs.A 17 (by decide), hs.A 20 (by decide), hs.A 23 (by decide), hs.A 26 (by decide), hs.A 29 (by decide), hs.A 30 (by decide), hs.A 31 (by decide), hs.A 32 (by decide), hs.A 33 (by decide), hs.A 34 (by decide), hs.A 35 (by decide), hs.A 36 (by decide), hs.A 44 (by decide), hs.A 45 (by decide), hs.A 58 (by decide), hs.A 59 (by decide), hs.A 60 (by decide), hs.A 61 (by decide), hs.A 62 (by decide), hs.A 63 (by decide), hs.A 64 (by decide), hs.A 66 (by decide), hs.A 67 (by decide), hs.A 68 (by decide), hs.A 69 (by decide), hs.A 70 (by decide), hs.A 73 (by decide), hs.A 74 (by decide), hs.B 6, hs.B 9, hs.B 12, hs.B 15, hs.B 18, hs.B 21, hs.B 24, hs.B 27, hs.B 71, hs.B 72]
theorem Vl.ch {m : Bool} {s s' : S1} {k : Int32} {v : Int64} {t : Int32} (hs : Ch s s' t) : Vl m s' k v ↔ Vl m s k v := by
  unfold Vl
  simp only [Lv.ch hs]
theorem Wl.ch {m : Bool} {s s' : S1} {k : Int32} {v : Int64} {t : Int32} (hs : Ch s s' t) : Wl m s' k v ↔ Wl m s k v := by
  unfold Wl
  simp only [Vl.ch hs, Lv.ch hs]
theorem Ts.ch {s s' : S1} {x t : Int32} (hs : Ch s s' t) : Ts s' x ↔ Ts s x := by
  unfold Ts FrS
  simp only [a_sort, a_tag, a_first, a_second, a_third, a_chain, a_free, a_text, a_heads, a_ek, a_ev, a_vk, a_vv, a_follow, a_bucket, a_registers, f_used, v_variable_k, v_variable_v, v_stack_k, v_stack_v, v_row_k, v_row_v, v_start_n, v_start_k, v_start_v, t_place, t_frames, t_openCount, t_open, t_kind, t_function, t_base, t_extra, t_rowCount, p_ek, p_vk, p_ev, p_vv, p_follow, hs.1, hs.A 5 (by decide), hs.A 8 (by decide), hs.A 11 (by decide), hs.A 14 (by decide), hs.A 17 (by decide), hs.A 20 (by decide), hs.A 23 (by decide), hs.A 26 (by decide), hs.A 29 (by decide), hs.A 30 (by decide), hs.A 31 (by decide), hs.A 32 (by decide), hs.A 33 (by decide), hs.A 34 (by decide), hs.A 35 (by decide), hs.A 36 (by decide), hs.A 44 (by decide), hs.A 45 (by decide), hs.A 58 (by decide), hs.A 59 (by decide), hs.A 60 (by decide), hs.A 61 (by decide), hs.A 62 (by decide), hs.A 63 (by decide), hs.A 64 (by decide), hs.A 66 (by decide), hs.A 67 (by decide), hs.A 68 (by decide), hs.A 69 (by decide), hs.A 70 (by decide), hs.A 73 (by decide), hs.A 74 (by decide), hs.B 6, hs.B 9, hs.B 12, hs.B 15, hs.B 18, hs.B 21, hs.B 24, hs.B 27, hs.B 71, hs.B 72]
theorem ThV.ch {s s' : S1} {x t : Int32} (hs : Ch s s' t) : ThV false s' x ↔ ThV false s x := by
  unfold ThV FrV
  simp only [Vl.ch hs, Lv.ch hs]
  simp only [a_sort, a_tag, a_first, a_second, a_third, a_chain, a_free, a_text, a_heads, a_ek, a_ev, a_vk, a_vv, a_follow, a_bucket, a_registers, f_used, v_variable_k, v_variable_v, v_stack_k, v_stack_v, v_row_k, v_row_v, v_start_n, v_start_k, v_start_v, t_place, t_frames, t_openCount, t_open, t_kind, t_function, t_base, t_extra, t_rowCount, p_ek, p_vk, p_ev, p_vv, p_follow, hs.1, hs.A 5 (by decide), hs.A 8 (by decide), hs.A 11 (by decide), hs.A 14 (by decide), hs.A 17 (by decide), hs.A 20 (by decide), hs.A 23 (by decide), hs.A 26 (by decide), hs.A 29 (by decide), hs.A 30 (by decide), hs.A 31 (by decide), hs.A 32 (by decide), hs.A 33 (by decide), hs.A 34 (by decide), hs.A 35 (by decide), hs.A 36 (by decide), hs.A 44 (by decide), hs.A 45 (by decide), hs.A 58 (by decide), hs.A 59 (by decide), hs.A 60 (by decide), hs.A 61 (by decide), hs.A 62 (by decide), hs.A 63 (by decide), hs.A 64 (by decide), hs.A 66 (by decide), hs.A 67 (by decide), hs.A 68 (by decide), hs.A 69 (by decide), hs.A 70 (by decide), hs.A 73 (by decide), hs.A 74 (by decide), hs.B 6, hs.B 9, hs.B 12, hs.B 15, hs.B 18, hs.B 21, hs.B 24, hs.B 27, hs.B 71, hs.B 72]
theorem Str.ch {s s' : S1} {t : Int32} (h : Str s) (hs : Ch s s' t) (h5 : a_sort s t = 5) : Str s' := by
  have g : ∀ z q, Sg s' z q ↔ Sg s z q := fun z q => by
    unfold Sg
    rw [show a_sort s' z = a_sort s z from hs.A 58 (by decide) 0 z, show f_used s' = f_used s from hs.1 40 0, show a_first s' z = a_first s z from hs.A 62 (by decide) 0 z, show a_second s' z = a_second s z from hs.A 63 (by decide) 0 z, hF_congr (fun j => hs.A 67 (by decide) 0 j)]
  have nt : ∀ z q, Sg s z q → a_chain s' z = a_chain s z := fun z q w => hs.2.2.2.2.1 z (fun e => by
    have := w.2.2.1
    rw [e, h5] at this
    exact absurd this (by decide))
  obtain ⟨t1, t2, t3, t4, t5, t6⟩ := h
  have tg : ∀ z, a_tag s' z = a_tag s z := fun z => hs.A 61 (by decide) 0 z
  have hd : ∀ z, a_heads s' z = a_heads s z := fun z => hs.A 68 (by decide) 0 z
  have e38 : f_textMade s' = f_textMade s := hs.1 38 0
  have eu : f_used s' = f_used s := hs.1 40 0
  refine ⟨by rw [e38]; exact t1, ?_, ?_, fun x q w => ?_, fun x y q w1 w2 w3 => ?_, ?_⟩
  · unfold StS at *
    simp only [f_used, f_textMade, a_sort, a_first, a_second, hs.1, hs.A 5 (by decide), hs.A 8 (by decide), hs.A 11 (by decide), hs.A 14 (by decide), hs.A 17 (by decide), hs.A 20 (by decide), hs.A 23 (by decide), hs.A 26 (by decide), hs.A 29 (by decide), hs.A 30 (by decide), hs.A 31 (by decide), hs.A 32 (by decide), hs.A 33 (by decide), hs.A 34 (by decide), hs.A 35 (by decide), hs.A 36 (by decide), hs.A 44 (by decide), hs.A 45 (by decide), hs.A 58 (by decide), hs.A 59 (by decide), hs.A 60 (by decide), hs.A 61 (by decide), hs.A 62 (by decide), hs.A 63 (by decide), hs.A 64 (by decide), hs.A 66 (by decide), hs.A 67 (by decide), hs.A 68 (by decide), hs.A 69 (by decide), hs.A 70 (by decide), hs.A 73 (by decide), hs.A 74 (by decide), hs.B 6, hs.B 9, hs.B 12, hs.B 15, hs.B 18, hs.B 21, hs.B 24, hs.B 27, hs.B 71, hs.B 72] at *
    exact t2
  · unfold H1
    simp only [g, tg, hd]
    exact t3
  · rw [g] at w
    rw [nt x q w]
    simp only [g, tg]
    exact t4 x q w
  · rw [g] at w1 w2
    rw [tg, tg] at w3
    rw [nt y q w2]
    simp only [tg]
    exact t5 x y q w1 w2 w3
  · unfold H4
    simp only [g, tg]
    exact t6
theorem Hq.ch {s s' : S1} {t : Int32} (h : Hq s) (hs : Ch s s' t) (ht : Lv false s t 5) : Hq s' := by
  obtain ⟨⟨v1, v2, v3⟩, h2, h3, h4, h5, h6, h7⟩ := h
  have so := ht.2.2.1
  have eu : f_used s' = f_used s := hs.1 40 0
  have et : f_entryTop s' = f_entryTop s := hs.1 41 0
  have es : ∀ z, a_sort s' z = a_sort s z := fun z => hs.A 58 (by decide) 0 z
  have e1 : ∀ z, a_first s' z = a_first s z := fun z => hs.A 62 (by decide) 0 z
  have e2 : ∀ z, a_second s' z = a_second s z := fun z => hs.A 63 (by decide) 0 z
  have e3 : ∀ z, a_third s' z = a_third s z := fun z => hs.A 64 (by decide) 0 z
  have eP : ∀ z, t_place s' z = t_place s z := fun z => hs.1 3584 z
  refine ⟨⟨?_, by rw [et]; exact v2, fun x a b => ?_⟩, h2.ch hs so, ?_, ?_, ?_, ?_, by rw [eu]; exact h7⟩
  · unfold Rm at *
    simp only [p_ek, p_vk, p_ev, p_vv, p_follow, p_bucket, hs.1] at *
    exact v1
  · rw [eu] at b
    obtain ⟨⟨a5, a6, a7, a8⟩, c5, c6, c7, c8⟩ := v3 x a b
    refine ⟨⟨fun y => ?_, fun y => ?_, fun y => ?_, fun y => ?_⟩, ⟨fun y => ?_, fun y => ?_, fun y => ?_, fun y => ?_⟩⟩ <;> rw [es] at y
    · rw [e1, e2, e3, et]
      exact a5 y
    · rw [e1, e2, e3, et]
      exact a6 y
    · rw [e1, eP]
      exact ⟨(a7 y).1, (a7 y).2.1, (a7 y).2.2.1, (Ts.ch hs).mpr (a7 y).2.2.2⟩
    · rw [e1, e2]
      exact a8 y
    · have w := c5 y
      unfold TbV at *
      rw [e1, e3]
      simp only [Vl.ch hs, Lv.ch hs]
      refine ⟨?_, ?_⟩
      · by_cases d : x = t
        · rw [d]
          exact hs.2.2.2.2.2
        · rw [hs.2.2.2.2.1 x d]
          exact w.1
      · simp only [a_ek, a_ev, a_vk, a_vv, hs.A 5 (by decide), hs.A 8 (by decide), hs.A 11 (by decide), hs.A 14 (by decide), hs.A 17 (by decide), hs.A 20 (by decide), hs.A 23 (by decide), hs.A 26 (by decide), hs.A 29 (by decide), hs.A 30 (by decide), hs.A 31 (by decide), hs.A 32 (by decide), hs.A 33 (by decide), hs.A 34 (by decide), hs.A 35 (by decide), hs.A 36 (by decide), hs.A 44 (by decide), hs.A 45 (by decide), hs.A 58 (by decide), hs.A 59 (by decide), hs.A 60 (by decide), hs.A 61 (by decide), hs.A 62 (by decide), hs.A 63 (by decide), hs.A 64 (by decide), hs.A 66 (by decide), hs.A 67 (by decide), hs.A 68 (by decide), hs.A 69 (by decide), hs.A 70 (by decide), hs.A 73 (by decide), hs.A 74 (by decide), hs.B 6, hs.B 9, hs.B 12, hs.B 15, hs.B 18, hs.B 21, hs.B 24, hs.B 27, hs.B 71, hs.B 72] at *
        exact w.2
    · have w := c6 y
      unfold FnV at *
      rw [e1, e2, e3]
      simp only [Lv.ch hs]
      simp only [a_follow, hs.A 5 (by decide), hs.A 8 (by decide), hs.A 11 (by decide), hs.A 14 (by decide), hs.A 17 (by decide), hs.A 20 (by decide), hs.A 23 (by decide), hs.A 26 (by decide), hs.A 29 (by decide), hs.A 30 (by decide), hs.A 31 (by decide), hs.A 32 (by decide), hs.A 33 (by decide), hs.A 34 (by decide), hs.A 35 (by decide), hs.A 36 (by decide), hs.A 44 (by decide), hs.A 45 (by decide), hs.A 58 (by decide), hs.A 59 (by decide), hs.A 60 (by decide), hs.A 61 (by decide), hs.A 62 (by decide), hs.A 63 (by decide), hs.A 64 (by decide), hs.A 66 (by decide), hs.A 67 (by decide), hs.A 68 (by decide), hs.A 69 (by decide), hs.A 70 (by decide), hs.A 73 (by decide), hs.A 74 (by decide), hs.B 6, hs.B 9, hs.B 12, hs.B 15, hs.B 18, hs.B 21, hs.B 24, hs.B 27, hs.B 71, hs.B 72] at *
      exact w
    · rw [e1]
      exact (ThV.ch hs).mpr (c7 y)
    · have w := c8 y
      unfold VrV at *
      rw [e1, e2]
      simp only [Vl.ch hs]
      simp only [a_sort, a_tag, a_first, a_second, a_third, a_chain, a_free, a_text, a_heads, a_ek, a_ev, a_vk, a_vv, a_follow, a_bucket, a_registers, f_used, v_variable_k, v_variable_v, v_stack_k, v_stack_v, v_row_k, v_row_v, v_start_n, v_start_k, v_start_v, t_place, t_frames, t_openCount, t_open, t_kind, t_function, t_base, t_extra, t_rowCount, p_ek, p_vk, p_ev, p_vv, p_follow, hs.A 5 (by decide), hs.A 8 (by decide), hs.A 11 (by decide), hs.A 14 (by decide), hs.A 17 (by decide), hs.A 20 (by decide), hs.A 23 (by decide), hs.A 26 (by decide), hs.A 29 (by decide), hs.A 30 (by decide), hs.A 31 (by decide), hs.A 32 (by decide), hs.A 33 (by decide), hs.A 34 (by decide), hs.A 35 (by decide), hs.A 36 (by decide), hs.A 44 (by decide), hs.A 45 (by decide), hs.A 58 (by decide), hs.A 59 (by decide), hs.A 60 (by decide), hs.A 61 (by decide), hs.A 62 (by decide), hs.A 63 (by decide), hs.A 64 (by decide), hs.A 66 (by decide), hs.A 67 (by decide), hs.A 68 (by decide), hs.A 69 (by decide), hs.A 70 (by decide), hs.A 73 (by decide), hs.A 74 (by decide), hs.B 6, hs.B 9, hs.B 12, hs.B 15, hs.B 18, hs.B 21, hs.B 24, hs.B 27, hs.B 71, hs.B 72] at *
      exact w
  · unfold Frl at *
    simp only [f_freed, f_existing, f_used, a_free, a_sort, hs.1, hs.A 5 (by decide), hs.A 8 (by decide), hs.A 11 (by decide), hs.A 14 (by decide), hs.A 17 (by decide), hs.A 20 (by decide), hs.A 23 (by decide), hs.A 26 (by decide), hs.A 29 (by decide), hs.A 30 (by decide), hs.A 31 (by decide), hs.A 32 (by decide), hs.A 33 (by decide), hs.A 34 (by decide), hs.A 35 (by decide), hs.A 36 (by decide), hs.A 44 (by decide), hs.A 45 (by decide), hs.A 58 (by decide), hs.A 59 (by decide), hs.A 60 (by decide), hs.A 61 (by decide), hs.A 62 (by decide), hs.A 63 (by decide), hs.A 64 (by decide), hs.A 66 (by decide), hs.A 67 (by decide), hs.A 68 (by decide), hs.A 69 (by decide), hs.A 70 (by decide), hs.A 73 (by decide), hs.A 74 (by decide), hs.B 6, hs.B 9, hs.B 12, hs.B 15, hs.B 18, hs.B 21, hs.B 24, hs.B 27, hs.B 71, hs.B 72] at *
    exact h3
  · intro u u1 u2 u3
    rw [eP] at u3
    have w := h4 u u1 u2 u3
    simp only [Lv.ch hs, e1]
    simp only [t_openCount, t_open, hs.1, hs.A 5 (by decide), hs.A 8 (by decide), hs.A 11 (by decide), hs.A 14 (by decide), hs.A 17 (by decide), hs.A 20 (by decide), hs.A 23 (by decide), hs.A 26 (by decide), hs.A 29 (by decide), hs.A 30 (by decide), hs.A 31 (by decide), hs.A 32 (by decide), hs.A 33 (by decide), hs.A 34 (by decide), hs.A 35 (by decide), hs.A 36 (by decide), hs.A 44 (by decide), hs.A 45 (by decide), hs.A 58 (by decide), hs.A 59 (by decide), hs.A 60 (by decide), hs.A 61 (by decide), hs.A 62 (by decide), hs.A 63 (by decide), hs.A 64 (by decide), hs.A 66 (by decide), hs.A 67 (by decide), hs.A 68 (by decide), hs.A 69 (by decide), hs.A 70 (by decide), hs.A 73 (by decide), hs.A 74 (by decide), hs.B 6, hs.B 9, hs.B 12, hs.B 15, hs.B 18, hs.B 21, hs.B 24, hs.B 27, hs.B 71, hs.B 72] at *
    exact w
  · intro x hx hf
    rw [Lv.ch hs] at hx
    rw [e1] at hf ⊢
    have w := h5 x hx hf
    simp only [t_place, t_openCount, t_open, hs.1, hs.A 5 (by decide), hs.A 8 (by decide), hs.A 11 (by decide), hs.A 14 (by decide), hs.A 17 (by decide), hs.A 20 (by decide), hs.A 23 (by decide), hs.A 26 (by decide), hs.A 29 (by decide), hs.A 30 (by decide), hs.A 31 (by decide), hs.A 32 (by decide), hs.A 33 (by decide), hs.A 34 (by decide), hs.A 35 (by decide), hs.A 36 (by decide), hs.A 44 (by decide), hs.A 45 (by decide), hs.A 58 (by decide), hs.A 59 (by decide), hs.A 60 (by decide), hs.A 61 (by decide), hs.A 62 (by decide), hs.A 63 (by decide), hs.A 64 (by decide), hs.A 66 (by decide), hs.A 67 (by decide), hs.A 68 (by decide), hs.A 69 (by decide), hs.A 70 (by decide), hs.A 73 (by decide), hs.A 74 (by decide), hs.B 6, hs.B 9, hs.B 12, hs.B 15, hs.B 18, hs.B 21, hs.B 24, hs.B 27, hs.B 71, hs.B 72] at *
    exact w
  · intro u u1 u2 u3
    rw [eP] at u3 ⊢
    rw [Lv.ch hs, e1]
    exact h6 u u1 u2 u3
theorem GG.ch {s s' : S1} {t : Int32} (h : GG s) (hs : Ch s s' t) (ht : Lv false s t 5) : GG s' := by
  obtain ⟨hm, hn, he, hr, hc⟩ := h
  refine ⟨⟨hm.1.ch hs ht, fun z => ?_⟩, ?_, ?_, ?_, (PT.same (fun t => hs.1 3584 t) (hs.1 39 0)).2 hc⟩
  · have z' : f_noCollection s = 0 := (hs.1 92 0).symm.trans z
    obtain ⟨⟨r1, ⟨ρ, r2⟩, r3⟩, q⟩ := hm.2 z'
    have e := chN_I (hs.1 72 0) (hs.1 3590)
    constructor
    · unfold RtS Rk at *
      simp only [f_current, t_resumer, v_hand_n, v_args_n, v_results_n, v_ended_n, f_used, hs.1] at *
      exact ⟨r1, ⟨ρ, r2⟩, r3⟩
    · unfold RtV RwV at *
      simp only [e, Lv.ch hs, Vl.ch hs, Wl.ch hs]
      simp only [f_globals, t_place, f_errorKind, f_errorValue, f_calledKind, f_called, a_sort, a_fixed, a_marked, f_used, hs.1, hs.2.1, hs.A 5 (by decide), hs.A 8 (by decide), hs.A 11 (by decide), hs.A 14 (by decide), hs.A 17 (by decide), hs.A 20 (by decide), hs.A 23 (by decide), hs.A 26 (by decide), hs.A 29 (by decide), hs.A 30 (by decide), hs.A 31 (by decide), hs.A 32 (by decide), hs.A 33 (by decide), hs.A 34 (by decide), hs.A 35 (by decide), hs.A 36 (by decide), hs.A 44 (by decide), hs.A 45 (by decide), hs.A 58 (by decide), hs.A 59 (by decide), hs.A 60 (by decide), hs.A 61 (by decide), hs.A 62 (by decide), hs.A 63 (by decide), hs.A 64 (by decide), hs.A 66 (by decide), hs.A 67 (by decide), hs.A 68 (by decide), hs.A 69 (by decide), hs.A 70 (by decide), hs.A 73 (by decide), hs.A 74 (by decide), hs.B 6, hs.B 9, hs.B 12, hs.B 15, hs.B 18, hs.B 21, hs.B 24, hs.B 27, hs.B 71, hs.B 72, Nat.reduceAdd] at *
      exact q
  · unfold Nm at *
    simp only [f_entryTop, f_roomAll, f_textMade, f_textAll, f_made, f_madeAll, f_limit, f_used, a_sort, a_tag, a_second, hs.1, hs.A 5 (by decide), hs.A 8 (by decide), hs.A 11 (by decide), hs.A 14 (by decide), hs.A 17 (by decide), hs.A 20 (by decide), hs.A 23 (by decide), hs.A 26 (by decide), hs.A 29 (by decide), hs.A 30 (by decide), hs.A 31 (by decide), hs.A 32 (by decide), hs.A 33 (by decide), hs.A 34 (by decide), hs.A 35 (by decide), hs.A 36 (by decide), hs.A 44 (by decide), hs.A 45 (by decide), hs.A 58 (by decide), hs.A 59 (by decide), hs.A 60 (by decide), hs.A 61 (by decide), hs.A 62 (by decide), hs.A 63 (by decide), hs.A 64 (by decide), hs.A 66 (by decide), hs.A 67 (by decide), hs.A 68 (by decide), hs.A 69 (by decide), hs.A 70 (by decide), hs.A 73 (by decide), hs.A 74 (by decide), hs.B 6, hs.B 9, hs.B 12, hs.B 15, hs.B 18, hs.B 21, hs.B 24, hs.B 27, hs.B 71, hs.B 72] at *
    exact hn
  · unfold Ex q_Dj q_Rg Tch Fu at *
    simp only [f_used, f_protos, a_sort, a_first, a_second, a_third, a_bucket, a_follow, a_upvalues, hs.1, hs.A 5 (by decide), hs.A 8 (by decide), hs.A 11 (by decide), hs.A 14 (by decide), hs.A 17 (by decide), hs.A 20 (by decide), hs.A 23 (by decide), hs.A 26 (by decide), hs.A 29 (by decide), hs.A 30 (by decide), hs.A 31 (by decide), hs.A 32 (by decide), hs.A 33 (by decide), hs.A 34 (by decide), hs.A 35 (by decide), hs.A 36 (by decide), hs.A 44 (by decide), hs.A 45 (by decide), hs.A 58 (by decide), hs.A 59 (by decide), hs.A 60 (by decide), hs.A 61 (by decide), hs.A 62 (by decide), hs.A 63 (by decide), hs.A 64 (by decide), hs.A 66 (by decide), hs.A 67 (by decide), hs.A 68 (by decide), hs.A 69 (by decide), hs.A 70 (by decide), hs.A 73 (by decide), hs.A 74 (by decide), hs.B 6, hs.B 9, hs.B 12, hs.B 15, hs.B 18, hs.B 21, hs.B 24, hs.B 27, hs.B 71, hs.B 72] at *
    exact he
  · unfold Rws RvV RwV at *
    simp only [Vl.ch hs, Wl.ch hs]
    simp only [v_hand_n, v_args_n, v_results_n, v_ended_n, f_errorKind, f_errorValue, f_calledKind, f_called, hs.1, hs.2.1, hs.A 5 (by decide), hs.A 8 (by decide), hs.A 11 (by decide), hs.A 14 (by decide), hs.A 17 (by decide), hs.A 20 (by decide), hs.A 23 (by decide), hs.A 26 (by decide), hs.A 29 (by decide), hs.A 30 (by decide), hs.A 31 (by decide), hs.A 32 (by decide), hs.A 33 (by decide), hs.A 34 (by decide), hs.A 35 (by decide), hs.A 36 (by decide), hs.A 44 (by decide), hs.A 45 (by decide), hs.A 58 (by decide), hs.A 59 (by decide), hs.A 60 (by decide), hs.A 61 (by decide), hs.A 62 (by decide), hs.A 63 (by decide), hs.A 64 (by decide), hs.A 66 (by decide), hs.A 67 (by decide), hs.A 68 (by decide), hs.A 69 (by decide), hs.A 70 (by decide), hs.A 73 (by decide), hs.A 74 (by decide), hs.B 6, hs.B 9, hs.B 12, hs.B 15, hs.B 18, hs.B 21, hs.B 24, hs.B 27, hs.B 71, hs.B 72, Nat.reduceAdd] at *
    exact hr
theorem Rx.ch {s s' : S1} {t : Int32} (h : GG s) (hs : Ch s s' t) (ht : Lv false s t 5) (hz : f_noCollection s = 0) : Rx s s' := by
  refine Rx.hy (h.ch hs ht) ⟨fun f i _ => hs.1 f i, fun a i j q => hs.A a ?_ i j, fun i j => hs.B 3 i j⟩ hz
  rintro e
  subst e
  exact absurd q (by decide)
theorem setMeta104_bo (s : S1) (t m : Int32) (h : GG s) (hz : f_noCollection s = 0) (hh : v_hand_n s = 0) (ht : Lv false s t 5) (hm : m < 0 ∨ Lv false s m 5) : ok (M_Mo_setMeta_j104 t m t) s (fun _ s' => Bo s s') := by
  have hs : Ch s (sA s 65 0 t m) t := by
    refine ⟨fun _ _ => rfl, fun _ _ => rfl, fun a i j q => ?_, fun _ _ _ => rfl, fun z q => ?_, ?_⟩
    · rw [gA_sA, if_neg (fun w => q w.1)]
    · show gA (sA s 65 0 t m) 65 0 z = gA s 65 0 z
      rw [gA_sA, if_neg (fun w => q w.2.2)]
    · have e : a_chain (sA s 65 0 t m) t = m := by simp only [a_chain, gI_sI, gI_sL, gI_sA, gI_sB, gI_sAf, gI_sBf, gL_sI, gL_sL, gL_sA, gL_sB, gL_sAf, gL_sBf, gA_sI, gA_sL, gA_sA, gA_sB, gA_sAf, gA_sBf, gB_sI, gB_sL, gB_sA, gB_sB, gB_sAf, gB_sBf, Nat.reduceEqDiff, Nat.reduceMul, Nat.reduceAdd, false_and, true_and, and_true, and_false, if_true, if_false]
      rw [e]
      exact hm
  have rx := Rx.ch h hs ht hz
  have l2 := (Lv.ch hs (m := false) (k := 5) (x := t)).mpr ht
  simp only [M_Mo_setMeta_j104, ok_B, ok_C, ok_R, ok_L, ok_K, ok_GI, ok_GL, ok_PI, ok_PL, ok_AI, ok_AL, ok_SI, ok_SL, ok_Pr, ok_CI, cmp_lt, cmp_le, cmp_gt, cmp_ge, cmp_eq, nar0, nar1, Sum.elim_inl, Sum.elim_inr]
  refine ⟨ht.b h, ?_⟩
  have hh' : v_hand_n (sA s 65 0 t m) = 0 := hh
  generalize sA s 65 0 t m = z at *
  exact ok_mono (give_bo z 5 _ rx.1 rx.2.1 hh' (Vl.of l2 ⟨by decide, by decide⟩ rx.1.used.2)) fun _ _ w => w.1.pre rx
