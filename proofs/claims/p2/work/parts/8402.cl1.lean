/-! Open variables of a thread are closed. -/
def Cw (s s' : S1) (t : Int32) : Prop := (∀ f i, f ≠ 66 → (f ≠ 3587 ∨ i ≠ t) → gI s' f i = gI s f i) ∧ (∀ f i, f ≠ 67 → gL s' f i = gL s f i) ∧ (∀ a i j, a ≠ 5 → a ≠ 62 → (a ≠ 29 ∨ i ≠ t) → gA s' a i j = gA s a i j) ∧ (∀ a i j, a ≠ 6 → gB s' a i j = gB s a i j) ∧
  (∀ z, ¬ (Lv false s z 8 ∧ a_first s z = t) → a_first s' z = a_first s z ∧ v_variable_k s' z = v_variable_k s z ∧ v_variable_v s' z = v_variable_v s z) ∧
  (∀ z, Lv false s z 8 → a_first s z = t → (a_first s' z = t ∧ v_variable_k s' z = v_variable_k s z ∧ v_variable_v s' z = v_variable_v s z) ∨ (a_first s' z = -1 ∧ Vl false s (v_variable_k s' z) (v_variable_v s' z))) ∧
  (0 ≤ t_openCount s' t ∧ t_openCount s' t ≤ t_openCount s t) ∧ (∀ k, 0 ≤ k → k < t_openCount s' t → Lv false s (t_open s' t k) 8 ∧ a_first s' (t_open s' t k) = t) ∧ (∀ k j, 0 ≤ k → k < j → j < t_openCount s' t → t_open s' t k ≠ t_open s' t j) ∧ ∀ z, Lv false s z 8 → a_first s' z = t → ∃ k, 0 ≤ k ∧ k < t_openCount s' t ∧ t_open s' t k = z
theorem Cw.I {s s' : S1} {t : Int32} (h : Cw s s' t) (f : Nat) (hf : f ≠ 66 ∧ f ≠ 3587) (i : Int32) : gI s' f i = gI s f i := h.1 f i hf.1 (Or.inl hf.2)
theorem Cw.A {s s' : S1} {t : Int32} (h : Cw s s' t) (f : Nat) (hf : f ≠ 5 ∧ f ≠ 62 ∧ f ≠ 29) (i j : Int32) : gA s' f i j = gA s f i j := h.2.2.1 f i j hf.1 hf.2.1 (Or.inl hf.2.2)
theorem Cw.B {s s' : S1} {t : Int32} (h : Cw s s' t) (f : Nat) (hf : f ≠ 6) (i j : Int32) : gB s' f i j = gB s f i j := h.2.2.2.1 f i j hf
theorem Cw.F {s s' : S1} {t z : Int32} (h : Cw s s' t) (hz : a_sort s z ≠ 8) : a_first s' z = a_first s z := (h.2.2.2.2.1 z (fun w => hz w.1.2.2.1)).1
theorem Lv.cw {m : Bool} {s s' : S1} {x k t : Int32} (hs : Cw s s' t) : Lv m s' x k ↔ Lv m s x k := by
  unfold Lv
  simp only [f_used, a_sort, a_marked, hs.I 40 (by decide), hs.A 58 (by decide), hs.A 59 (by decide)]
theorem Vl.cw {m : Bool} {s s' : S1} {k : Int32} {v : Int64} {t : Int32} (hs : Cw s s' t) : Vl m s' k v ↔ Vl m s k v := by
  unfold Vl
  simp only [Lv.cw hs]
theorem Wl.cw {m : Bool} {s s' : S1} {k : Int32} {v : Int64} {t : Int32} (hs : Cw s s' t) : Wl m s' k v ↔ Wl m s k v := by
  unfold Wl
  simp only [Vl.cw hs, Lv.cw hs]
theorem Lv.n8 {s : S1} {x k : Int32} (h : Lv false s x k) (hk : k ≠ 8) : a_sort s x ≠ 8 := by
  rw [h.2.2.1]
  exact hk
theorem Ts.cw {s s' : S1} {x t : Int32} (ht : Ts s x) (hv : ThV false s x) (hs : Cw s s' t) : Ts s' x := by
  obtain ⟨h1, h2, h3, h4⟩ := ht
  obtain ⟨-, w, -⟩ := hv
  have hoc : 0 ≤ t_openCount s' x ∧ t_openCount s' x ≤ 4100 := by
    by_cases c : x = t
    · subst c
      exact ⟨hs.2.2.2.2.2.2.1.1, Int32.le_trans hs.2.2.2.2.2.2.1.2 h3.2⟩
    · have : t_openCount s' x = t_openCount s x := hs.1 3587 x (by decide) (Or.inr c)
      rw [this]
      exact h3
  unfold Ts
  refine ⟨?_, ?_, hoc, fun f a b => ?_⟩
  · simp only [v_start_n, hs.I 3202 (by decide)]
    exact h1
  · simp only [t_frames, hs.I 3586 (by decide)]
    exact h2
  · have b' : f < t_frames s x := by
      have e : t_frames s' x = t_frames s x := hs.I 3586 (by decide) x
      rw [← e]
      exact b
    have q5 := h4 f a b'
    have q6 := (w f a b').1
    unfold FrS at *
    intro c
    have c' : t_kind s x f = 0 := (hs.A 30 (by decide) x f).symm.trans c
    have q := q5 c'
    have e31 : t_function s' x f = t_function s x f := hs.A 31 (by decide) x f
    have e := hs.F ((q6 q.1.1).n8 (by decide))
    rw [e31, e]
    simp only [t_extra, t_base, t_rowCount, a_registers, hs.A 33 (by decide), hs.A 34 (by decide), hs.A 36 (by decide), hs.A 44 (by decide)] at *
    exact q
theorem ThV.cw {s s' : S1} {x t : Int32} (ht : Ts s x) (hv : ThV false s x) (hs : Cw s s' t) : ThV false s' x := by
  obtain ⟨-, -, -, h4⟩ := ht
  obtain ⟨w1, w2, w3⟩ := hv
  unfold ThV
  simp only [Vl.cw hs, Lv.cw hs]
  refine ⟨?_, fun f a b => ?_, fun k a b => ?_⟩
  · simp only [v_start_n, v_start_k, v_start_v, hs.I 3202 (by decide), hs.A 26 (by decide), hs.B 27 (by decide)]
    exact w1
  · have b' : f < t_frames s x := by
      have e : t_frames s' x = t_frames s x := hs.I 3586 (by decide) x
      rw [← e]
      exact b
    have q5 := h4 f a b'
    have q6 := w2 f a b'
    unfold FrS at q5
    unfold FrV at *
    simp only [Vl.cw hs, Lv.cw hs]
    have e31 : t_function s' x f = t_function s x f := hs.A 31 (by decide) x f
    rw [e31]
    refine ⟨q6.1, fun c => ?_⟩
    have c' : t_kind s x f = 0 := (hs.A 30 (by decide) x f).symm.trans c
    have e := hs.F ((q6.1 (q5 c').1.1).n8 (by decide))
    rw [e]
    simp only [t_frames, t_extra, t_base, t_rowCount, a_registers, v_stack_k, v_stack_v, v_row_k, v_row_v, hs.I 3586 (by decide), hs.A 33 (by decide), hs.A 34 (by decide), hs.A 36 (by decide), hs.A 44 (by decide), hs.A 20 (by decide), hs.A 23 (by decide), hs.B 21 (by decide), hs.B 24 (by decide)] at *
    exact q6.2 c'
  · by_cases c : x = t
    · subst c
      exact (hs.2.2.2.2.2.2.2.1 k a b).1
    · have e1 : t_openCount s' x = t_openCount s x := hs.1 3587 x (by decide) (Or.inr c)
      have e2 : t_open s' x k = t_open s x k := hs.2.2.1 29 x k (by decide) (by decide) (Or.inr c)
      rw [e2]
      rw [e1] at b
      exact w3 k a b
theorem Hq.cw {s s' : S1} {t : Int32} (h : Hq s) (hs : Cw s s' t) (ht : 0 ≤ t ∧ t < 33) : Hq s' := by
  obtain ⟨⟨v1, v2, v3⟩, h2, h3, h4, h5, h6, h7⟩ := h
  have eu : f_used s' = f_used s := hs.I 40 (by decide) 0
  have et : f_entryTop s' = f_entryTop s := hs.I 41 (by decide) 0
  have es : ∀ z, a_sort s' z = a_sort s z := fun z => hs.A 58 (by decide) 0 z
  have eP : ∀ u, t_place s' u = t_place s u := fun u => hs.I 3584 (by decide) u
  have e2 : ∀ z, a_second s' z = a_second s z := fun z => hs.A 63 (by decide) 0 z
  have e3 : ∀ z, a_third s' z = a_third s z := fun z => hs.A 64 (by decide) 0 z
  refine ⟨⟨?_, by rw [et]; exact v2, fun x a b => ?_⟩, ?_, ?_, ?_, ?_, ?_, by rw [eu]; exact h7⟩
  · unfold Rm at *
    simp only [p_ek, p_vk, p_ev, p_vv, p_follow, p_bucket, hs.I 8959 (by decide), hs.I 9087 (by decide), hs.I 9215 (by decide), hs.I 9343 (by decide), hs.I 9471 (by decide), hs.I 9599 (by decide)] at *
    exact v1
  · rw [eu] at b
    obtain ⟨⟨a5, a6, a7, a8⟩, c5, c6, c7, c8⟩ := v3 x a b
    refine ⟨⟨fun y => ?_, fun y => ?_, fun y => ?_, fun y => ?_⟩, ⟨fun y => ?_, fun y => ?_, fun y => ?_, fun y => ?_⟩⟩ <;> rw [es] at y
    · rw [hs.F (by rw [y]; decide), e2, e3, et]
      exact a5 y
    · rw [hs.F (by rw [y]; decide), e2, e3, et]
      exact a6 y
    · rw [hs.F (by rw [y]; decide), eP]
      exact ⟨(a7 y).1, (a7 y).2.1, (a7 y).2.2.1, (a7 y).2.2.2.cw (c7 y) hs⟩
    · rw [e2]
      by_cases c : a_first s x = t
      · rcases hs.2.2.2.2.2.1 x ⟨a, b, y, fun z => by cases z⟩ c with w | w
        · rw [w.1, ← c]
          exact a8 y
        · rw [w.1]
          exact ⟨by decide, fun z => absurd z (by decide)⟩
      · rw [(hs.2.2.2.2.1 x (fun w => c w.2)).1]
        exact a8 y
    · have w := c5 y
      unfold TbV at *
      rw [hs.F (by rw [y]; decide), e3]
      simp only [Vl.cw hs, Lv.cw hs]
      simp only [a_chain, a_ek, a_ev, a_vk, a_vv, hs.A 65 (by decide), hs.A 69 (by decide), hs.A 70 (by decide), hs.B 71 (by decide), hs.B 72 (by decide)] at *
      exact w
    · have w := c6 y
      unfold FnV at *
      rw [hs.F (by rw [y]; decide), e2, e3]
      simp only [Lv.cw hs]
      simp only [a_follow, hs.A 73 (by decide)] at *
      exact w
    · rw [hs.F (by rw [y]; decide)]
      exact ThV.cw (a7 y).2.2.2 (c7 y) hs
    · have w := c8 y
      unfold VrV at *
      rw [e2]
      simp only [Vl.cw hs]
      simp only [v_stack_k, v_stack_v, hs.A 20 (by decide), hs.B 21 (by decide)] at *
      by_cases c : a_first s x = t
      · rcases hs.2.2.2.2.2.1 x ⟨a, b, y, fun z => by cases z⟩ c with q | q
        · rw [q.1, q.2.1, q.2.2, ← c]
          exact w
        · rw [q.1]
          exact ⟨fun _ => q.2, fun z => absurd z (by decide)⟩
      · have q := hs.2.2.2.2.1 x (fun w => c w.2)
        rw [q.1, q.2.1, q.2.2]
        exact w
  · have g : ∀ z q, Sg s' z q ↔ Sg s z q := fun z q => by
      unfold Sg
      rw [es, eu]
      constructor
      · rintro ⟨a, b, c, d⟩
        rw [hs.F (by rw [c]; decide), e2, hF_congr (fun j => hs.A 67 (by decide) 0 j)] at d
        exact ⟨a, b, c, d⟩
      · rintro ⟨a, b, c, d⟩
        rw [hs.F (by rw [c]; decide), e2, hF_congr (fun j => hs.A 67 (by decide) 0 j)]
        exact ⟨a, b, c, d⟩
    obtain ⟨t1, t2, t3, t4, t5, t6⟩ := h2
    have tg : ∀ z, a_tag s' z = a_tag s z := fun z => hs.A 61 (by decide) 0 z
    have ch : ∀ z, a_chain s' z = a_chain s z := fun z => hs.A 65 (by decide) 0 z
    have hd : ∀ z, a_heads s' z = a_heads s z := fun z => hs.A 68 (by decide) 0 z
    have e38 : f_textMade s' = f_textMade s := hs.I 38 (by decide) 0
    unfold Str H1 H2 H3 H4
    simp only [g, tg, ch, hd, e38, eu]
    refine ⟨t1, fun z a b c => ?_, t3, t4, t5, t6⟩
    rw [es] at c
    have := t2 z a b c
    rw [hs.F (by rw [c]; decide), e2, e38]
    exact this
  · unfold Frl at *
    simp only [f_freed, f_existing, f_used, a_free, a_sort, hs.I 54 (by decide), hs.I 34 (by decide), hs.I 40 (by decide), hs.A 66 (by decide), hs.A 58 (by decide)] at *
    exact h3
  · intro u u1 u2 u3
    rw [eP] at u3
    by_cases c : u = t
    · subst c
      exact ⟨fun k a b => ⟨(Lv.cw hs).mpr (hs.2.2.2.2.2.2.2.1 k a b).1, (hs.2.2.2.2.2.2.2.1 k a b).2⟩, hs.2.2.2.2.2.2.2.2.1⟩
    · have f1 : t_openCount s' u = t_openCount s u := hs.1 3587 u (by decide) (Or.inr c)
      have f2 : ∀ k, t_open s' u k = t_open s u k := fun k => hs.2.2.1 29 u k (by decide) (by decide) (Or.inr c)
      obtain ⟨w1, w2⟩ := h4 u u1 u2 u3
      rw [f1]
      simp only [f2]
      refine ⟨fun k a b => ⟨(Lv.cw hs).mpr (w1 k a b).1, ?_⟩, w2⟩
      rw [(hs.2.2.2.2.1 _ (fun w => c ((w1 k a b).2.symm.trans w.2))).1]
      exact (w1 k a b).2
  · intro x hx hf
    rw [Lv.cw hs] at hx
    by_cases c : a_first s x = t
    · rcases hs.2.2.2.2.2.1 x hx c with q | q
      · rw [q.1, eP]
        have w := h5 x hx (by rw [c]; exact ht.1)
        rw [c] at w
        exact ⟨w.1, hs.2.2.2.2.2.2.2.2.2 x hx q.1⟩
      · rw [q.1] at hf
        exact absurd hf (by decide)
    · have q := (hs.2.2.2.2.1 x (fun w => c w.2)).1
      rw [q] at hf ⊢
      have w := h5 x hx hf
      have f1 : t_openCount s' (a_first s x) = t_openCount s (a_first s x) := hs.1 3587 _ (by decide) (Or.inr c)
      have f2 : ∀ k, t_open s' (a_first s x) k = t_open s (a_first s x) k := fun k => hs.2.2.1 29 _ k (by decide) (by decide) (Or.inr c)
      rw [eP, f1]
      simp only [f2]
      exact w
  · intro u u1 u2 u3
    rw [eP] at u3 ⊢
    obtain ⟨w1, w2⟩ := h6 u u1 u2 u3
    rw [Lv.cw hs, hs.F (w1.n8 (by decide))]
    exact ⟨w1, w2⟩
theorem GG.cw {s s' : S1} {t : Int32} (h : GG s) (hs : Cw s s' t) (ht : 0 ≤ t ∧ t < 33) : GG s' := by
  obtain ⟨hm, hn, he, hr, hc⟩ := h
  have es : ∀ z, a_sort s' z = a_sort s z := fun z => hs.A 58 (by decide) 0 z
  have eu : f_used s' = f_used s := hs.I 40 (by decide) 0
  refine ⟨⟨hm.1.cw hs ht, fun z => ?_⟩, ?_, ?_, ?_, (PT.same (fun t => hs.I 3584 (by decide) t) (hs.I 39 (by decide) 0)).2 hc⟩
  · have z' : f_noCollection s = 0 := (hs.I 92 (by decide) 0).symm.trans z
    obtain ⟨⟨r1, ⟨ρ, r2⟩, r3⟩, q⟩ := hm.2 z'
    have e := chN_I (hs.I 72 (by decide) 0) (hs.I 3590 (by decide))
    constructor
    · unfold RtS Rk at *
      simp only [f_current, t_resumer, v_hand_n, v_args_n, v_results_n, v_ended_n, f_used, hs.I 72 (by decide), hs.I 3590 (by decide), hs.I 2050 (by decide), hs.I 898 (by decide), hs.I 1282 (by decide), hs.I 1666 (by decide), hs.I 40 (by decide)] at *
      exact ⟨r1, ⟨ρ, r2⟩, r3⟩
    · unfold RtV RwV at *
      simp only [e, Lv.cw hs, Vl.cw hs, Wl.cw hs]
      simp only [f_globals, t_place, f_errorKind, f_errorValue, f_calledKind, f_called, a_sort, a_fixed, a_marked, f_used, Nat.reduceMul, Nat.reduceAdd, hs.2.1 65 _ (by decide), hs.2.1 76 _ (by decide), hs.I 74 (by decide), hs.I 3584 (by decide), hs.I 64 (by decide), hs.I 75 (by decide), hs.I 40 (by decide), hs.I 2050 (by decide), hs.I 898 (by decide), hs.I 1282 (by decide), hs.I 1666 (by decide), hs.A 58 (by decide), hs.A 59 (by decide), hs.A 60 (by decide), hs.A 8 (by decide), hs.A 11 (by decide), hs.A 14 (by decide), hs.A 17 (by decide), hs.B 9 (by decide), hs.B 12 (by decide), hs.B 15 (by decide), hs.B 18 (by decide)] at *
      exact q
  · unfold Nm at *
    simp only [f_entryTop, f_roomAll, f_textMade, f_textAll, f_made, f_madeAll, f_limit, f_used, a_sort, a_tag, a_second, hs.I 41 (by decide), hs.I 43 (by decide), hs.I 38 (by decide), hs.I 44 (by decide), hs.I 33 (by decide), hs.I 42 (by decide), hs.I 32 (by decide), hs.I 40 (by decide), hs.A 58 (by decide), hs.A 61 (by decide), hs.A 63 (by decide)] at *
    exact hn
  · obtain ⟨d1, d2⟩ := he
    have e2 : ∀ z, a_second s' z = a_second s z := fun z => hs.A 63 (by decide) 0 z
    have e3 : ∀ z, a_third s' z = a_third s z := fun z => hs.A 64 (by decide) 0 z
    have rg : ∀ y b m, q_Rg s' y b m → q_Rg s y b m := fun y b m w => by
      unfold q_Rg at *
      rw [eu, es, e2, e3] at w
      refine ⟨w.1, ?_⟩
      rcases w.2 with q | q
      · rw [hs.F (by rw [q.1]; decide)] at q
        exact Or.inl q
      · rw [hs.F (by rw [q.1]; decide)] at q
        exact Or.inr q
    refine ⟨fun x y a n b m p q => d1 x y a n b m (rg x a n p) (rg y b m q), fun x a b => ⟨fun c => ?_, fun c => ?_⟩⟩
    · rw [es] at c
      rw [eu] at b
      have w := (d2 x a b).1 c
      unfold Tch at *
      rw [hs.F (by rw [c]; decide), e2, e3]
      simp only [a_bucket, a_follow, hs.A 74 (by decide), hs.A 73 (by decide)] at *
      exact w
    · rw [es] at c
      rw [eu] at b
      have w := (d2 x a b).2 c
      unfold Fu at *
      rw [hs.F (by rw [c]; decide), e3]
      simp only [f_protos, a_upvalues, hs.I 23 (by decide), hs.A 45 (by decide)] at *
      exact w
  · unfold Rws RvV RwV at *
    simp only [Vl.cw hs, Wl.cw hs]
    simp only [v_hand_n, v_args_n, v_results_n, v_ended_n, f_errorKind, f_errorValue, f_calledKind, f_called, Nat.reduceMul, Nat.reduceAdd, hs.2.1 65 _ (by decide), hs.2.1 76 _ (by decide), hs.I 64 (by decide), hs.I 75 (by decide), hs.I 2050 (by decide), hs.I 898 (by decide), hs.I 1282 (by decide), hs.I 1666 (by decide), hs.A 8 (by decide), hs.A 11 (by decide), hs.A 14 (by decide), hs.A 17 (by decide), hs.B 9 (by decide), hs.B 12 (by decide), hs.B 15 (by decide), hs.B 18 (by decide)] at *
    exact hr
theorem Rx.cw {s s' : S1} {t : Int32} (h : GG s) (hs : Cw s s' t) (ht : 0 ≤ t ∧ t < 33) (hz : f_noCollection s = 0) : Rx s s' := by
  have eP : ∀ u, t_place s' u = t_place s u := fun u => hs.I 3584 (by decide) u
  refine ⟨h.cw hs ht, (hs.I 92 (by decide) 0).trans hz, fun hT => ⟨fun f i q => hs.I f ?_ i, fun a i j q => hs.A a ?_ i j, fun i j => hs.B 3 (by decide) i j, fun u _ _ q => by rw [← eP]; exact q, fun n q => ?_, ?_, fun u f a b c d e g => ?_, fun x q => ⟨(Lv.cw hs).mpr q.1, ?_⟩⟩, fun f i q => hs.I f ?_ i, fun a i j q => hs.A a ?_ i j, fun i j => hs.B 3 (by decide) i j⟩
  · unfold feI at q
    simp only [List.contains_eq_mem, List.mem_cons, List.not_mem_nil, or_false, decide_eq_true_eq] at q
    omega
  · unfold feA at q
    simp only [List.contains_eq_mem, List.mem_cons, List.not_mem_nil, or_false, decide_eq_true_eq] at q
    omega
  · rw [eP]
    exact hT.2.2.2.2.2.2.2.2.1 n q
  · rw [eP]
    exact hT.2.2.2.2.2.2.2.1
  · rw [eP] at c
    have l := (h.1.1.fn ⟨a, b⟩ c ⟨d, e⟩ g).1
    show a_first s' (gA s' 31 u f) = a_first s (gA s 31 u f)
    rw [hs.A 31 (by decide)]
    exact hs.F (l.n8 (by decide))
  · show gA s' 60 0 x ≠ 0
    rw [hs.A 60 (by decide)]
    exact q.2
  · unfold feI at q
    simp only [List.contains_eq_mem, List.mem_cons, List.not_mem_nil, or_false, decide_eq_true_eq] at q
    omega
  · unfold fsA at q
    simp only [List.contains_eq_mem, List.mem_cons, List.not_mem_nil, or_false, decide_eq_true_eq] at q
    omega
