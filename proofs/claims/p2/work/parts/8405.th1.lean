/-! A thread's frames and its open row are written. -/
def Tw2 (s s' : S1) (t : Int32) : Prop := (∀ f i, (f ≠ 2818 ∧ f ≠ 3586) ∨ i ≠ t → gI s' f i = gI s f i) ∧ (∀ f i, gL s' f i = gL s f i) ∧ (∀ a i j, (a ≠ 23 ∧ a ≠ 30 ∧ a ≠ 31 ∧ a ≠ 32 ∧ a ≠ 33 ∧ a ≠ 34 ∧ a ≠ 35 ∧ a ≠ 36 ∧ a ≠ 37 ∧ a ≠ 38 ∧ a ≠ 39 ∧ a ≠ 40) ∨ i ≠ t → gA s' a i j = gA s a i j) ∧ (∀ a i j, a ≠ 24 ∨ i ≠ t → gB s' a i j = gB s a i j) ∧ Ts s' t ∧ ThV false s' t
theorem Tw2.I {s s' : S1} {t : Int32} (h : Tw2 s s' t) (f : Nat) (hf : f ≠ 2818 ∧ f ≠ 3586) (i : Int32) : gI s' f i = gI s f i := h.1 f i (Or.inl hf)
theorem Tw2.A {s s' : S1} {t : Int32} (h : Tw2 s s' t) (a : Nat) (ha : a ≠ 23 ∧ a ≠ 30 ∧ a ≠ 31 ∧ a ≠ 32 ∧ a ≠ 33 ∧ a ≠ 34 ∧ a ≠ 35 ∧ a ≠ 36 ∧ a ≠ 37 ∧ a ≠ 38 ∧ a ≠ 39 ∧ a ≠ 40) (i j : Int32) : gA s' a i j = gA s a i j := h.2.2.1 a i j (Or.inl ha)
theorem Tw2.B {s s' : S1} {t : Int32} (h : Tw2 s s' t) (a : Nat) (ha : a ≠ 24) (i j : Int32) : gB s' a i j = gB s a i j := h.2.2.2.1 a i j (Or.inl ha)
theorem Lv.th {m : Bool} {s s' : S1} {x k t : Int32} (hs : Tw2 s s' t) : Lv m s' x k ↔ Lv m s x k := by
  unfold Lv
  simp only [f_used, a_sort, a_marked, hs.I 40 (by decide), hs.A 58 (by decide), hs.A 59 (by decide)]
theorem Vl.th {m : Bool} {s s' : S1} {k : Int32} {v : Int64} {t : Int32} (hs : Tw2 s s' t) : Vl m s' k v ↔ Vl m s k v := by
  unfold Vl
  simp only [Lv.th hs]
theorem Wl.th {m : Bool} {s s' : S1} {k : Int32} {v : Int64} {t : Int32} (hs : Tw2 s s' t) : Wl m s' k v ↔ Wl m s k v := by
  unfold Wl
  simp only [Vl.th hs, Lv.th hs]
theorem Ts.th {s s' : S1} {u t : Int32} (h : Ts s u) (hs : Tw2 s s' t) (hu : u ≠ t) : Ts s' u := by
  have A : ∀ a j, gA s' a u j = gA s a u j := fun a j => hs.2.2.1 a u j (Or.inr hu)
  have I : ∀ f, gI s' f u = gI s f u := fun f => hs.1 f u (Or.inr hu)
  unfold Ts FrS at *
  simp only [v_start_n, t_frames, t_openCount, t_kind, t_function, t_extra, t_base, t_rowCount, a_first, a_registers, A, I, hs.A 62 (by decide), hs.A 44 (by decide)] at *
  exact h
theorem ThV.th {s s' : S1} {u t : Int32} (h : ThV false s u) (hs : Tw2 s s' t) (hu : u ≠ t) : ThV false s' u := by
  have A : ∀ a j, gA s' a u j = gA s a u j := fun a j => hs.2.2.1 a u j (Or.inr hu)
  have B : ∀ a j, gB s' a u j = gB s a u j := fun a j => hs.2.2.2.1 a u j (Or.inr hu)
  have I : ∀ f, gI s' f u = gI s f u := fun f => hs.1 f u (Or.inr hu)
  unfold ThV FrV at *
  simp only [Vl.th hs, Lv.th hs]
  simp only [v_start_n, v_start_k, v_start_v, t_frames, t_openCount, t_open, t_kind, t_function, t_extra, t_base, t_rowCount, a_first, a_registers, v_stack_k, v_stack_v, v_row_k, v_row_v, A, B, I, hs.A 62 (by decide), hs.A 44 (by decide)] at *
  exact h
theorem Hq.th {s s' : S1} {t : Int32} (h : Hq s) (hs : Tw2 s s' t) : Hq s' := by
  obtain ⟨⟨v1, v2, v3⟩, h2, h3, h4, h5, h6, h7⟩ := h
  have eu : f_used s' = f_used s := hs.I 40 (by decide) 0
  have et : f_entryTop s' = f_entryTop s := hs.I 41 (by decide) 0
  have es : ∀ z, a_sort s' z = a_sort s z := fun z => hs.A 58 (by decide) 0 z
  have eP : ∀ u, t_place s' u = t_place s u := fun u => hs.I 3584 (by decide) u
  have e1 : ∀ z, a_first s' z = a_first s z := fun z => hs.A 62 (by decide) 0 z
  have e2 : ∀ z, a_second s' z = a_second s z := fun z => hs.A 63 (by decide) 0 z
  have e3 : ∀ z, a_third s' z = a_third s z := fun z => hs.A 64 (by decide) 0 z
  refine ⟨⟨?_, by rw [et]; exact v2, fun x a b => ?_⟩, h2.sq ⟨fun a j ha => hs.A a (by rcases ha with w | w | w | w | w | w | w <;> rw [w] <;> decide) 0 j, hs.I 40 (by decide) 0, hs.I 38 (by decide) 0⟩, ?_, ?_, ?_, ?_, by rw [eu]; exact h7⟩
  · unfold Rm at *
    simp only [p_ek, p_vk, p_ev, p_vv, p_follow, p_bucket, hs.I 8959 (by decide), hs.I 9087 (by decide), hs.I 9215 (by decide), hs.I 9343 (by decide), hs.I 9471 (by decide), hs.I 9599 (by decide)] at *
    exact v1
  · rw [eu] at b
    obtain ⟨⟨a5, a6, a7, a8⟩, c5, c6, c7, c8⟩ := v3 x a b
    refine ⟨⟨fun y => ?_, fun y => ?_, fun y => ?_, fun y => ?_⟩, ⟨fun y => ?_, fun y => ?_, fun y => ?_, fun y => ?_⟩⟩ <;> rw [es] at y
    · rw [e1, e2, e3, et]
      exact a5 y
    · rw [e1, e2, e3, et]
      exact a6 y
    · rw [e1, eP]
      refine ⟨(a7 y).1, (a7 y).2.1, (a7 y).2.2.1, ?_⟩
      by_cases c : a_first s x = t
      · rw [c]
        exact hs.2.2.2.2.1
      · exact (a7 y).2.2.2.th hs c
    · rw [e1, e2]
      exact a8 y
    · have w := c5 y
      unfold TbV at *
      rw [e1, e3]
      simp only [Vl.th hs, Lv.th hs]
      simp only [a_chain, a_ek, a_ev, a_vk, a_vv, hs.A 65 (by decide), hs.A 69 (by decide), hs.A 70 (by decide), hs.B 71 (by decide), hs.B 72 (by decide)] at *
      exact w
    · have w := c6 y
      unfold FnV at *
      rw [e1, e2, e3]
      simp only [Lv.th hs]
      simp only [a_follow, hs.A 73 (by decide)] at *
      exact w
    · rw [e1]
      by_cases c : a_first s x = t
      · rw [c]
        exact hs.2.2.2.2.2
      · exact (c7 y).th hs c
    · have w := c8 y
      unfold VrV at *
      rw [e1, e2]
      simp only [Vl.th hs]
      simp only [v_stack_k, v_stack_v, v_variable_k, v_variable_v, hs.A 20 (by decide), hs.B 21 (by decide), hs.A 5 (by decide), hs.B 6 (by decide)] at *
      exact w
  · unfold Frl at *
    simp only [f_freed, f_existing, f_used, a_free, a_sort, hs.I 54 (by decide), hs.I 34 (by decide), hs.I 40 (by decide), hs.A 66 (by decide), hs.A 58 (by decide)] at *
    exact h3
  · unfold Ov at *
    simp only [Lv.th hs]
    simp only [t_place, t_openCount, t_open, a_first, hs.I 3584 (by decide), hs.I 3587 (by decide), hs.A 29 (by decide), hs.A 62 (by decide)] at *
    exact h4
  · unfold Cv at *
    simp only [Lv.th hs]
    simp only [t_place, t_openCount, t_open, a_first, hs.I 3584 (by decide), hs.I 3587 (by decide), hs.A 29 (by decide), hs.A 62 (by decide)] at *
    exact h5
  · unfold q_Tp at *
    simp only [Lv.th hs]
    simp only [t_place, a_first, hs.I 3584 (by decide), hs.A 62 (by decide)] at *
    exact h6
theorem GG.th {s s' : S1} {t : Int32} (h : GG s) (hs : Tw2 s s' t) : GG s' := by
  obtain ⟨hm, hn, he, hr, hc⟩ := h
  refine ⟨⟨hm.1.th hs, fun z => ?_⟩, ?_, ?_, ?_, (PT.same (fun t => hs.I 3584 (by decide) t) (hs.I 39 (by decide) 0)).2 hc⟩
  · have z' : f_noCollection s = 0 := (hs.I 92 (by decide) 0).symm.trans z
    obtain ⟨⟨r1, ⟨ρ, r2⟩, r3⟩, q⟩ := hm.2 z'
    have e := chN_I (hs.I 72 (by decide) 0) (hs.I 3590 (by decide))
    constructor
    · unfold RtS Rk at *
      simp only [f_current, t_resumer, v_hand_n, v_args_n, v_results_n, v_ended_n, f_used, hs.I 72 (by decide), hs.I 3590 (by decide), hs.I 2050 (by decide), hs.I 898 (by decide), hs.I 1282 (by decide), hs.I 1666 (by decide), hs.I 40 (by decide)] at *
      exact ⟨r1, ⟨ρ, r2⟩, r3⟩
    · unfold RtV RwV at *
      simp only [e, Lv.th hs, Vl.th hs, Wl.th hs]
      simp only [f_globals, t_place, f_errorKind, f_errorValue, f_calledKind, f_called, a_sort, a_fixed, a_marked, f_used, Nat.reduceMul, Nat.reduceAdd, hs.2.1, hs.I 74 (by decide), hs.I 3584 (by decide), hs.I 64 (by decide), hs.I 75 (by decide), hs.I 40 (by decide), hs.I 2050 (by decide), hs.I 898 (by decide), hs.I 1282 (by decide), hs.I 1666 (by decide), hs.A 58 (by decide), hs.A 59 (by decide), hs.A 60 (by decide), hs.A 8 (by decide), hs.A 11 (by decide), hs.A 14 (by decide), hs.A 17 (by decide), hs.B 9 (by decide), hs.B 12 (by decide), hs.B 15 (by decide), hs.B 18 (by decide)] at *
      exact q
  · unfold Nm at *
    simp only [f_entryTop, f_roomAll, f_textMade, f_textAll, f_made, f_madeAll, f_limit, f_used, a_sort, a_tag, a_second, hs.I 41 (by decide), hs.I 43 (by decide), hs.I 38 (by decide), hs.I 44 (by decide), hs.I 33 (by decide), hs.I 42 (by decide), hs.I 32 (by decide), hs.I 40 (by decide), hs.A 58 (by decide), hs.A 61 (by decide), hs.A 63 (by decide)] at *
    exact hn
  · unfold Ex q_Dj q_Rg Tch Fu at *
    simp only [f_used, f_protos, a_sort, a_first, a_second, a_third, a_bucket, a_follow, a_upvalues, hs.I 40 (by decide), hs.I 23 (by decide), hs.A 58 (by decide), hs.A 62 (by decide), hs.A 63 (by decide), hs.A 64 (by decide), hs.A 73 (by decide), hs.A 74 (by decide), hs.A 45 (by decide)] at *
    exact he
  · unfold Rws RvV RwV at *
    simp only [Vl.th hs, Wl.th hs]
    simp only [v_hand_n, v_args_n, v_results_n, v_ended_n, f_errorKind, f_errorValue, f_calledKind, f_called, Nat.reduceMul, Nat.reduceAdd, hs.2.1, hs.I 64 (by decide), hs.I 75 (by decide), hs.I 2050 (by decide), hs.I 898 (by decide), hs.I 1282 (by decide), hs.I 1666 (by decide), hs.A 8 (by decide), hs.A 11 (by decide), hs.A 14 (by decide), hs.A 17 (by decide), hs.B 9 (by decide), hs.B 12 (by decide), hs.B 15 (by decide), hs.B 18 (by decide)] at *
    exact hr
/-- what a thread in use has -/
theorem GG.thr {s : S1} {t : Int32} (h : GG s) (ht : 0 ≤ t ∧ t < 33) (hp : 0 ≤ t_place s t) : Ts s t ∧ ThV false s t := by
  obtain ⟨w1, w2⟩ := h.1.1.2.2.2.2.2.1 t ht.1 ht.2 hp
  obtain ⟨⟨-, -, q7, -⟩, -, -, p7, -⟩ := h.1.1.1.2.2 _ w1.1 w1.2.1
  have q := (q7 w1.2.2.1).2.2.2
  have p := p7 w1.2.2.1
  rw [w2] at q p
  exact ⟨q, p⟩
/-- the open row of the top frame is dropped -/
theorem drop_th {s : S1} {t f : Int32} (h : GG s) (ht : 0 ≤ t ∧ t < 33) (hp : 0 ≤ t_place s t) : Tw2 s (sA s 36 t f 0) t := by
  obtain ⟨⟨q1, q2, q3, q4⟩, p1, p2, p3⟩ := h.thr ht hp
  have key : ∀ g, 0 ≤ g → g < t_frames s t → FrS (sA s 36 t f 0) t g ∧ FrV false (sA s 36 t f 0) t g := fun g a b => by
    have a4 := q4 g a b
    have b4 := p2 g a b
    unfold FrS FrV Vl Lv at *
    simp only [a_sort, a_tag, a_first, a_second, a_third, a_chain, a_free, a_text, a_heads, a_ek, a_ev, a_vk, a_vv, a_follow, a_bucket, a_registers, f_used, v_variable_k, v_variable_v, v_stack_k, v_stack_v, v_row_k, v_row_v, v_start_n, v_start_k, v_start_v, t_place, t_frames, t_openCount, t_open, t_kind, t_function, t_base, t_extra, t_rowCount, p_ek, p_vk, p_ev, p_vv, p_follow, gI_sI, gI_sL, gI_sA, gI_sB, gI_sAf, gI_sBf, gL_sI, gL_sL, gL_sA, gL_sB, gL_sAf, gL_sBf, gA_sI, gA_sL, gA_sA, gA_sB, gA_sAf, gA_sBf, gB_sI, gB_sL, gB_sA, gB_sB, gB_sAf, gB_sBf, Nat.reduceEqDiff, Nat.reduceMul, Nat.reduceAdd, false_and, true_and, and_true, and_false, if_true, if_false] at *
    by_cases c : g = f
    · simp only [c, if_true] at *
      refine ⟨fun z => ⟨(a4 z).1, (a4 z).2.1, (a4 z).2.2.1, (a4 z).2.2.2.1, by decide, by decide⟩, b4.1, fun z => ⟨(b4.2 z).1, fun _ i i1 i2 => absurd (Int32.lt_of_le_of_lt i1 i2) (by decide)⟩⟩
    · simp only [c, if_false] at *
      exact ⟨a4, b4⟩
  refine ⟨fun _ _ _ => rfl, fun _ _ => rfl, fun a i j q => ?_, fun _ _ _ _ => rfl, ⟨q1, q2, q3, fun g a b => (key g a b).1⟩, p1, fun g a b => (key g a b).2, p3⟩
  rw [gA_sA, if_neg]
  rintro ⟨e1, e2, -⟩
  rcases q with q | q
  · exact q.2.2.2.2.2.2.2.1 e1
  · exact q e2
