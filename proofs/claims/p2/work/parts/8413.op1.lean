/-! A variable is opened on a thread's stack. -/
def On (s s' : S1) (t x at' : Int32) : Prop := (∀ f i, f ≠ 3587 ∨ i ≠ t → gI s' f i = gI s f i) ∧ t_openCount s' t = t_openCount s t + 1 ∧ (∀ f i, gL s' f i = gL s f i) ∧ (∀ a i j, a ≠ 5 → a ≠ 62 → a ≠ 63 → (a ≠ 29 ∨ i ≠ t ∨ j ≠ t_openCount s t) → gA s' a i j = gA s a i j) ∧ t_open s' t (t_openCount s t) = x ∧ (∀ a i j, a ≠ 6 → gB s' a i j = gB s a i j) ∧ (∀ z, z ≠ x → a_first s' z = a_first s z ∧ a_second s' z = a_second s z ∧ v_variable_k s' z = v_variable_k s z ∧ v_variable_v s' z = v_variable_v s z) ∧ a_first s' x = t ∧ a_second s' x = at'
theorem On.I {s s' : S1} {t x at' : Int32} (h : On s s' t x at') (f : Nat) (hf : f ≠ 3587) (i : Int32) : gI s' f i = gI s f i := h.1 f i (Or.inl hf)
theorem On.A {s s' : S1} {t x at' : Int32} (h : On s s' t x at') (a : Nat) (ha : a ≠ 5 ∧ a ≠ 62 ∧ a ≠ 63 ∧ a ≠ 29) (i j : Int32) : gA s' a i j = gA s a i j := h.2.2.2.1 a i j ha.1 ha.2.1 ha.2.2.1 (Or.inl ha.2.2.2)
theorem On.B {s s' : S1} {t x at' : Int32} (h : On s s' t x at') (a : Nat) (ha : a ≠ 6) (i j : Int32) : gB s' a i j = gB s a i j := h.2.2.2.2.2.1 a i j ha
theorem On.P {s s' : S1} {t x at' z : Int32} (h : On s s' t x at') (hz : z ≠ x) : a_first s' z = a_first s z ∧ a_second s' z = a_second s z ∧ v_variable_k s' z = v_variable_k s z ∧ v_variable_v s' z = v_variable_v s z := h.2.2.2.2.2.2.1 z hz
theorem Lv.on {m : Bool} {s s' : S1} {y k t x a : Int32} (hs : On s s' t x a) : Lv m s' y k ↔ Lv m s y k := by
  unfold Lv
  simp only [f_used, a_sort, a_marked, hs.I 40 (by decide), hs.A 58 (by decide), hs.A 59 (by decide)]
theorem Vl.on {m : Bool} {s s' : S1} {k : Int32} {v : Int64} {t x a : Int32} (hs : On s s' t x a) : Vl m s' k v ↔ Vl m s k v := by
  unfold Vl
  simp only [Lv.on hs]
theorem Wl.on {m : Bool} {s s' : S1} {k : Int32} {v : Int64} {t x a : Int32} (hs : On s s' t x a) : Wl m s' k v ↔ Wl m s k v := by
  unfold Wl
  simp only [Vl.on hs, Lv.on hs]
theorem On.op {s s' : S1} {t x a : Int32} (h : On s s' t x a) (u k : Int32) : t_open s' u k = if u = t ∧ k = t_openCount s t then x else t_open s u k := by
  by_cases c : u = t ∧ k = t_openCount s t
  · rw [if_pos c, c.1, c.2]
    exact h.2.2.2.2.1
  · rw [if_neg c]
    refine h.2.2.2.1 29 u k (by decide) (by decide) (by decide) ?_
    by_cases d : u = t
    · exact Or.inr (Or.inr fun e => c ⟨d, e⟩)
    · exact Or.inr (Or.inl d)
theorem oc_num {n u : Int32} (h : 0 ≤ n) (hu : u ≤ 4000) (hn : n + 1 ≤ u ∨ n < u) (hn2 : n ≤ 4100) : 0 ≤ n + 1 ∧ n + 1 ≤ 4100 ∧ (∀ k, k < n + 1 → k = n ∨ k < n) ∧ (∀ k, k < n → k < n + 1) ∧ n < n + 1 := by
  exact ⟨by grind, by grind, fun k a => by grind, fun k a => by grind, by grind⟩
/-- no more variables are open than there are places -/
theorem open_lt {s : S1} {t x : Int32} (h : GG s) (ht : 0 ≤ t ∧ t < 33) (hp : 0 ≤ t_place s t) (hx : Lv false s x 8) (hf : a_first s x ≠ t) : 0 ≤ t_openCount s t ∧ t_openCount s t < f_used s := by
  obtain ⟨o1, o2⟩ := h.1.1.2.2.2.1 t ht.1 ht.2 hp
  have hoc := (h.thr ht hp).1.2.2.1
  have hu := h.used
  have nn : 0 ≤ t_openCount s t + 1 ∧ (∀ k, k < t_openCount s t + 1 → k = t_openCount s t ∨ k < t_openCount s t) ∧ (t_openCount s t + 1 ≤ f_used s → t_openCount s t < f_used s) := by
    clear o1 o2 h
    exact ⟨by grind, fun k a => by grind, fun a => by grind⟩
  refine ⟨hoc.1, nn.2.2 (pigeon (fun k => if k = t_openCount s t then x else t_open s t k) (t_openCount s t + 1) (f_used s) nn.1 hu.1 (fun k a b => ?_) (fun k j a b c => ?_))⟩
  · by_cases e : k = t_openCount s t
    · rw [if_pos e]
      exact ⟨hx.1, hx.2.1⟩
    · rw [if_neg e]
      rcases nn.2.1 k b with w | w
      · exact absurd w e
      · exact ⟨(o1 k a w).1.1, (o1 k a w).1.2.1⟩
  · have hk : k < t_openCount s t := by
      rcases nn.2.1 j c with w | w
      · rw [← w]
        exact b
      · exact Int32.lt_trans b w
    have ek : k ≠ t_openCount s t := fun e => absurd (by rw [e] at hk; exact hk) Int32.lt_irrefl
    rw [if_neg ek]
    by_cases e : j = t_openCount s t
    · rw [if_pos e]
      intro q
      exact hf (by rw [← q]; exact (o1 k a hk).2)
    · rw [if_neg e]
      rcases nn.2.1 j c with w | w
      · exact absurd w e
      · exact o2 k j a b w
theorem Hq.on {s s' : S1} {t x a : Int32} (hg : GG s) (hs : On s s' t x a) (ht : 0 ≤ t ∧ t < 33) (hp : 0 ≤ t_place s t) (hx : Lv false s x 8) (hf : a_first s x ≠ t) (hf2 : a_first s x < 0) (ha : 0 ≤ a ∧ a < 4000) (hv : Vl false s (v_stack_k s t a) (v_stack_v s t a)) : Hq s' := by
  have ol := open_lt hg ht hp hx hf
  have hu := hg.used
  have hoc := (hg.thr ht hp).1.2.2.1
  obtain ⟨n1, n2, n3, n4, n5⟩ := oc_num ol.1 hu.2 (Or.inr ol.2) hoc.2
  obtain ⟨⟨v1, v2, v3⟩, h2, h3, h4, h5, h6, h7⟩ := hg.1.1
  have eu : f_used s' = f_used s := hs.I 40 (by decide) 0
  have et : f_entryTop s' = f_entryTop s := hs.I 41 (by decide) 0
  have es : ∀ z, a_sort s' z = a_sort s z := fun z => hs.A 58 (by decide) 0 z
  have eP : ∀ u, t_place s' u = t_place s u := fun u => hs.I 3584 (by decide) u
  have e3 : ∀ z, a_third s' z = a_third s z := fun z => hs.A 64 (by decide) 0 z
  have ne : ∀ z k, a_sort s z = k → k ≠ 8 → z ≠ x := fun z k e q w => q (by rw [← e, w]; exact hx.2.2.1)
  have hT : ∀ u, Ts s u → ThV false s u → Ts s' u ∧ ThV false s' u := fun u q p => by
    obtain ⟨q1, q2, q3, q4⟩ := q
    obtain ⟨p1, p2, p3⟩ := p
    have eF : ∀ f, 0 ≤ f → f < t_frames s u → t_kind s u f = 0 → a_first s' (t_function s u f) = a_first s (t_function s u f) := fun f a b c => (hs.P (ne _ 6 ((p2 f a b).1 (q4 f a b c).1.1).2.2.1 (by decide))).1
    have eo : t_openCount s' u = if u = t then t_openCount s t + 1 else t_openCount s u := by
      by_cases c : u = t
      · rw [if_pos c, c]
        exact hs.2.1
      · rw [if_neg c]
        exact hs.1 3587 u (Or.inr c)
    have efr : t_frames s' u = t_frames s u := hs.I 3586 (by decide) u
    refine ⟨⟨?_, ?_, ?_, fun f a b => ?_⟩, ?_, fun f a b => ?_, fun k a b => ?_⟩
    · simp only [v_start_n, hs.I 3202 (by decide)]
      exact q1
    · rw [efr]
      exact q2
    · rw [eo]
      by_cases c : u = t
      · rw [if_pos c]
        exact ⟨n1, n2⟩
      · rw [if_neg c]
        exact q3
    · rw [efr] at b
      intro c
      have c' : t_kind s u f = 0 := (hs.A 30 (by decide) u f).symm.trans c
      have e31 : t_function s' u f = t_function s u f := hs.A 31 (by decide) u f
      have w := q4 f a b c'
      rw [e31, eF f a b c']
      simp only [t_extra, t_base, t_rowCount, a_registers, hs.A 33 (by decide), hs.A 34 (by decide), hs.A 36 (by decide), hs.A 44 (by decide)] at *
      exact w
    · simp only [Vl.on hs]
      simp only [v_start_n, v_start_k, v_start_v, hs.I 3202 (by decide), hs.A 26 (by decide), hs.B 27 (by decide)]
      exact p1
    · rw [efr] at b
      have w := p2 f a b
      have e31 : t_function s' u f = t_function s u f := hs.A 31 (by decide) u f
      unfold FrV at *
      simp only [Vl.on hs, Lv.on hs]
      rw [e31, efr]
      refine ⟨w.1, fun c => ?_⟩
      have c' : t_kind s u f = 0 := (hs.A 30 (by decide) u f).symm.trans c
      rw [eF f a b c']
      simp only [t_frames, t_extra, t_base, t_rowCount, a_registers, v_stack_k, v_stack_v, v_row_k, v_row_v, hs.A 33 (by decide), hs.A 34 (by decide), hs.A 36 (by decide), hs.A 44 (by decide), hs.A 20 (by decide), hs.A 23 (by decide), hs.B 21 (by decide), hs.B 24 (by decide)] at *
      exact w.2 c'
    · rw [Lv.on hs, hs.op]
      rw [eo] at b
      by_cases c : u = t
      · rw [if_pos c] at b
        rcases n3 k b with e | e
        · rw [if_pos ⟨c, e⟩]
          exact hx
        · rw [if_neg (fun z => absurd (by rw [z.2] at e; exact e) Int32.lt_irrefl)]
          exact p3 k a (by rw [c]; exact e)
      · rw [if_neg c] at b
        rw [if_neg (fun z => c z.1)]
        exact p3 k a b
  refine ⟨⟨?_, by rw [et]; exact v2, fun y p b => ?_⟩, ?_, ?_, ?_, ?_, ?_, by rw [eu]; exact h7⟩
  · unfold Rm at *
    simp only [p_ek, p_vk, p_ev, p_vv, p_follow, p_bucket, hs.I 8959 (by decide), hs.I 9087 (by decide), hs.I 9215 (by decide), hs.I 9343 (by decide), hs.I 9471 (by decide), hs.I 9599 (by decide)] at *
    exact v1
  · rw [eu] at b
    obtain ⟨⟨a5, a6, a7, a8⟩, c5, c6, c7, c8⟩ := v3 y p b
    refine ⟨⟨fun w => ?_, fun w => ?_, fun w => ?_, fun w => ?_⟩, ⟨fun w => ?_, fun w => ?_, fun w => ?_, fun w => ?_⟩⟩ <;> rw [es] at w
    · obtain ⟨r1, r2, -⟩ := hs.P (ne y 5 w (by decide))
      rw [r1, r2, e3, et]
      exact a5 w
    · obtain ⟨r1, r2, -⟩ := hs.P (ne y 6 w (by decide))
      rw [r1, r2, e3, et]
      exact a6 w
    · obtain ⟨r1, -⟩ := hs.P (ne y 7 w (by decide))
      rw [r1, eP]
      exact ⟨(a7 w).1, (a7 w).2.1, (a7 w).2.2.1, (hT _ (a7 w).2.2.2 (c7 w)).1⟩
    · by_cases d : y = x
      · rw [d, hs.2.2.2.2.2.2.2.1, hs.2.2.2.2.2.2.2.2]
        exact ⟨ht.2, fun _ => ha⟩
      · obtain ⟨r1, r2, -⟩ := hs.P d
        rw [r1, r2]
        exact a8 w
    · obtain ⟨r1, r2, -⟩ := hs.P (ne y 5 w (by decide))
      have q := c5 w
      unfold TbV at *
      rw [r1, e3]
      simp only [Vl.on hs, Lv.on hs]
      simp only [a_chain, a_ek, a_ev, a_vk, a_vv, hs.A 65 (by decide), hs.A 69 (by decide), hs.A 70 (by decide), hs.B 71 (by decide), hs.B 72 (by decide)] at *
      exact q
    · obtain ⟨r1, r2, -⟩ := hs.P (ne y 6 w (by decide))
      have q := c6 w
      unfold FnV at *
      rw [r1, r2, e3]
      simp only [Lv.on hs]
      simp only [a_follow, hs.A 73 (by decide)] at *
      exact q
    · obtain ⟨r1, -⟩ := hs.P (ne y 7 w (by decide))
      rw [r1]
      exact (hT _ (a7 w).2.2.2 (c7 w)).2
    · have q := c8 w
      unfold VrV at *
      simp only [Vl.on hs]
      by_cases d : y = x
      · rw [d, hs.2.2.2.2.2.2.2.1, hs.2.2.2.2.2.2.2.2]
        refine ⟨fun z => absurd (Int32.lt_of_le_of_lt ht.1 z) Int32.lt_irrefl, fun _ => ?_⟩
        simp only [v_stack_k, v_stack_v, hs.A 20 (by decide), hs.B 21 (by decide)] at *
        exact hv
      · obtain ⟨r1, r2, r3, r4⟩ := hs.P d
        rw [r1, r2, r3, r4]
        simp only [v_stack_k, v_stack_v, hs.A 20 (by decide), hs.B 21 (by decide)] at *
        exact q
  · have g : ∀ z q, Sg s' z q ↔ Sg s z q := fun z q => by
      unfold Sg
      rw [es, eu]
      constructor
      · rintro ⟨a, b, c, d⟩
        obtain ⟨r1, r2, -⟩ := hs.P (ne z 4 c (by decide))
        rw [r1, r2, hF_congr (fun j => hs.A 67 (by decide) 0 j)] at d
        exact ⟨a, b, c, d⟩
      · rintro ⟨a, b, c, d⟩
        obtain ⟨r1, r2, -⟩ := hs.P (ne z 4 c (by decide))
        rw [r1, r2, hF_congr (fun j => hs.A 67 (by decide) 0 j)]
        exact ⟨a, b, c, d⟩
    obtain ⟨t1, t2, t3, t4, t5, t6⟩ := h2
    have tg : ∀ z, a_tag s' z = a_tag s z := fun z => hs.A 61 (by decide) 0 z
    have ch : ∀ z, a_chain s' z = a_chain s z := fun z => hs.A 65 (by decide) 0 z
    have hd : ∀ z, a_heads s' z = a_heads s z := fun z => hs.A 68 (by decide) 0 z
    have e38 : f_textMade s' = f_textMade s := hs.I 38 (by decide) 0
    unfold Str H1 H2 H3 H4
    simp only [g, tg, ch, hd, e38, eu]
    refine ⟨t1, fun z a b c => ?_, t3, t4, t5, t6⟩
    rw [es] at c
    have := t2 z a b c
    obtain ⟨r1, r2, -⟩ := hs.P (ne z 4 c (by decide))
    rw [r1, r2, e38]
    exact this
  · unfold Frl at *
    simp only [f_freed, f_existing, f_used, a_free, a_sort, hs.I 54 (by decide), hs.I 34 (by decide), hs.I 40 (by decide), hs.A 66 (by decide), hs.A 58 (by decide)] at *
    exact h3
  · intro u u1 u2 u3
    rw [eP] at u3
    obtain ⟨w1, w2⟩ := h4 u u1 u2 u3
    by_cases c : u = t
    · subst c
      rw [hs.2.1]
      have nx : ∀ k, 0 ≤ k → k < t_openCount s u → t_open s u k ≠ x := fun k a b e => hf (by rw [← e]; exact (w1 k a b).2)
      refine ⟨fun k a b => ?_, fun k j a b d => ?_⟩
      · rw [Lv.on hs, hs.op]
        rcases n3 k b with e | e
        · rw [if_pos ⟨rfl, e⟩]
          exact ⟨hx, hs.2.2.2.2.2.2.2.1⟩
        · rw [if_neg (fun z => absurd (by rw [z.2] at e; exact e) Int32.lt_irrefl), (hs.P (nx k a e)).1]
          exact w1 k a e
      · rw [hs.op, hs.op]
        have hk : k < t_openCount s u := by
          rcases n3 j d with w | w
          · rw [← w]
            exact b
          · exact Int32.lt_trans b w
        rw [if_neg (fun z => absurd (by rw [z.2] at hk; exact hk) Int32.lt_irrefl)]
        rcases n3 j d with e | e
        · rw [if_pos ⟨rfl, e⟩]
          exact nx k a hk
        · rw [if_neg (fun z => absurd (by rw [z.2] at e; exact e) Int32.lt_irrefl)]
          exact w2 k j a b e
    · have f1 : t_openCount s' u = t_openCount s u := hs.1 3587 u (Or.inr c)
      have f2 : ∀ k, t_open s' u k = t_open s u k := fun k => by rw [hs.op, if_neg (fun z => c z.1)]
      rw [f1]
      simp only [f2]
      refine ⟨fun k a b => ⟨(Lv.on hs).mpr (w1 k a b).1, ?_⟩, w2⟩
      have : t_open s u k ≠ x := fun e => by
        have q := (w1 k a b).2
        rw [e] at q
        rw [q] at hf2
        exact absurd (Int32.lt_of_le_of_lt u1 hf2) Int32.lt_irrefl
      rw [(hs.P this).1]
      exact (w1 k a b).2
  · intro y hy hf'
    rw [Lv.on hs] at hy
    by_cases c : y = x
    · rw [c, hs.2.2.2.2.2.2.2.1, eP, hs.2.1]
      refine ⟨hp, t_openCount s t, ol.1, n5, ?_⟩
      exact hs.2.2.2.2.1
    · rw [(hs.P c).1] at hf' ⊢
      obtain ⟨w1, k, k1, k2, k3⟩ := h5 y hy hf'
      rw [eP]
      refine ⟨w1, k, k1, ?_, ?_⟩
      · by_cases d : a_first s y = t
        · rw [d, hs.2.1]
          rw [d] at k2
          exact n4 k k2
        · have f1 : t_openCount s' (a_first s y) = t_openCount s (a_first s y) := hs.1 3587 _ (Or.inr d)
          rw [f1]
          exact k2
      · rw [hs.op, if_neg]
        · exact k3
        · rintro ⟨d1, d2⟩
          rw [d1, d2] at k2
          exact absurd k2 Int32.lt_irrefl
  · intro u u1 u2 u3
    rw [eP] at u3 ⊢
    obtain ⟨w1, w2⟩ := h6 u u1 u2 u3
    rw [Lv.on hs, (hs.P (ne _ 7 w1.2.2.1 (by decide))).1]
    exact ⟨w1, w2⟩
theorem GG.on {s s' : S1} {t x a : Int32} (h : GG s) (hs : On s s' t x a) (ht : 0 ≤ t ∧ t < 33) (hp : 0 ≤ t_place s t) (hx : Lv false s x 8) (hf : a_first s x < 0) (ha : 0 ≤ a ∧ a < 4000) (hv : Vl false s (v_stack_k s t a) (v_stack_v s t a)) : GG s' := by
  have hf' : a_first s x ≠ t := fun e => by
    rw [e] at hf
    exact absurd (Int32.lt_of_le_of_lt ht.1 hf) Int32.lt_irrefl
  have hq := Hq.on h hs ht hp hx hf' hf ha hv
  obtain ⟨hm, hn, he, hr, hc⟩ := h
  have es : ∀ z, a_sort s' z = a_sort s z := fun z => hs.A 58 (by decide) 0 z
  have eu : f_used s' = f_used s := hs.I 40 (by decide) 0
  have ne : ∀ z k, a_sort s z = k → k ≠ 8 → z ≠ x := fun z k e q w => q (by rw [← e, w]; exact hx.2.2.1)
  refine ⟨⟨hq, fun z => ?_⟩, ?_, ?_, ?_, (PT.same (fun t => hs.I 3584 (by decide) t) (hs.I 39 (by decide) 0)).2 hc⟩
  · have z' : f_noCollection s = 0 := (hs.I 92 (by decide) 0).symm.trans z
    obtain ⟨⟨r1, ⟨ρ, r2⟩, r3⟩, q⟩ := hm.2 z'
    have e := chN_I (hs.I 72 (by decide) 0) (hs.I 3590 (by decide))
    constructor
    · unfold RtS Rk at *
      simp only [f_current, t_resumer, v_hand_n, v_args_n, v_results_n, v_ended_n, f_used, hs.I 72 (by decide), hs.I 3590 (by decide), hs.I 2050 (by decide), hs.I 898 (by decide), hs.I 1282 (by decide), hs.I 1666 (by decide), hs.I 40 (by decide)] at *
      exact ⟨r1, ⟨ρ, r2⟩, r3⟩
    · unfold RtV RwV at *
      simp only [e, Lv.on hs, Vl.on hs, Wl.on hs]
      simp only [f_globals, t_place, f_errorKind, f_errorValue, f_calledKind, f_called, a_sort, a_fixed, a_marked, f_used, Nat.reduceMul, Nat.reduceAdd, hs.2.2.1, hs.I 74 (by decide), hs.I 3584 (by decide), hs.I 64 (by decide), hs.I 75 (by decide), hs.I 40 (by decide), hs.I 2050 (by decide), hs.I 898 (by decide), hs.I 1282 (by decide), hs.I 1666 (by decide), hs.A 58 (by decide), hs.A 59 (by decide), hs.A 60 (by decide), hs.A 8 (by decide), hs.A 11 (by decide), hs.A 14 (by decide), hs.A 17 (by decide), hs.B 9 (by decide), hs.B 12 (by decide), hs.B 15 (by decide), hs.B 18 (by decide)] at *
      exact q
  · obtain ⟨n1, n2, n3, n4, n5⟩ := hn
    have e61 : ∀ z, a_tag s' z = a_tag s z := fun z => hs.A 61 (by decide) 0 z
    have e33 : f_made s' = f_made s := hs.I 33 (by decide) 0
    refine ⟨?_, ?_, ?_, ?_, fun y a b c => ?_⟩
    · simp only [f_entryTop, f_roomAll, hs.I 41 (by decide), hs.I 43 (by decide)] at *
      exact n1
    · simp only [f_textMade, f_textAll, hs.I 38 (by decide), hs.I 44 (by decide)] at *
      exact n2
    · simp only [f_made, f_madeAll, hs.I 33 (by decide), hs.I 42 (by decide)] at *
      exact n3
    · simp only [f_limit, hs.I 32 (by decide)] at *
      exact n4
    · rw [es] at c
      rw [eu] at b
      rw [e61, e33, (hs.P (ne y 4 c (by decide))).2.1]
      exact n5 y a b c
  · obtain ⟨d1, d2⟩ := he
    have e3 : ∀ z, a_third s' z = a_third s z := fun z => hs.A 64 (by decide) 0 z
    have rg : ∀ y b m, q_Rg s' y b m → q_Rg s y b m := fun y b m w => by
      unfold q_Rg at *
      rw [eu, es, e3] at w
      refine ⟨w.1, ?_⟩
      rcases w.2 with q | q
      · obtain ⟨r1, r2, -⟩ := hs.P (ne y 5 q.1 (by decide))
        rw [r1, r2] at q
        exact Or.inl q
      · obtain ⟨r1, r2, -⟩ := hs.P (ne y 6 q.1 (by decide))
        rw [r1, r2] at q
        exact Or.inr q
    refine ⟨fun y z a n b m p q => d1 y z a n b m (rg y a n p) (rg z b m q), fun y a b => ⟨fun c => ?_, fun c => ?_⟩⟩
    · rw [es] at c
      rw [eu] at b
      have w := (d2 y a b).1 c
      obtain ⟨r1, r2, -⟩ := hs.P (ne y 5 c (by decide))
      unfold Tch at *
      rw [r1, r2, e3]
      simp only [a_bucket, a_follow, hs.A 74 (by decide), hs.A 73 (by decide)] at *
      exact w
    · rw [es] at c
      rw [eu] at b
      have w := (d2 y a b).2 c
      obtain ⟨r1, r2, -⟩ := hs.P (ne y 6 c (by decide))
      unfold Fu at *
      rw [r1, e3]
      simp only [f_protos, a_upvalues, hs.I 23 (by decide), hs.A 45 (by decide)] at *
      exact w
  · unfold Rws RvV RwV at *
    simp only [Vl.on hs, Wl.on hs]
    simp only [v_hand_n, v_args_n, v_results_n, v_ended_n, f_errorKind, f_errorValue, f_calledKind, f_called, Nat.reduceMul, Nat.reduceAdd, hs.2.2.1, hs.I 64 (by decide), hs.I 75 (by decide), hs.I 2050 (by decide), hs.I 898 (by decide), hs.I 1282 (by decide), hs.I 1666 (by decide), hs.A 8 (by decide), hs.A 11 (by decide), hs.A 14 (by decide), hs.A 17 (by decide), hs.B 9 (by decide), hs.B 12 (by decide), hs.B 15 (by decide), hs.B 18 (by decide)] at *
    exact hr
theorem Rx.on {s s' : S1} {t x a : Int32} (h : GG s) (hs : On s s' t x a) (h' : GG s') (hz : f_noCollection s = 0) (hx : Lv false s x 8) : Rx s s' := by
  have eP : ∀ u, t_place s' u = t_place s u := fun u => hs.I 3584 (by decide) u
  refine ⟨h', (hs.I 92 (by decide) 0).trans hz, fun hT => ⟨fun f i q => hs.I f ?_ i, fun a i j q => hs.A a ?_ i j, fun i j => hs.B 3 (by decide) i j, fun u _ _ q => by rw [← eP]; exact q, fun n q => ?_, ?_, fun u f a b c d e g => ?_, fun y q => ⟨(Lv.on hs).mpr q.1, ?_⟩⟩, fun f i q => hs.I f ?_ i, fun a i j q => hs.A a ?_ i j, fun i j => hs.B 3 (by decide) i j⟩
  · unfold feI at q
    simp only [List.contains_eq_mem, List.mem_cons, List.not_mem_nil, or_false, decide_eq_true_eq] at q
    omega
  · unfold feA at q
    simp only [List.contains_eq_mem, List.mem_cons, List.not_mem_nil, or_false, decide_eq_true_eq] at q
    omega
  · rw [eP]
    exact hT.2.2.2.2.2.2.2.2.1 n q
  · rw [eP]
    exact hT.2.2.2.2.2.2.2.1
  · rw [eP] at c
    have l := (h.1.1.fn ⟨a, b⟩ c ⟨d, e⟩ g).1
    show a_first s' (gA s' 31 u f) = a_first s (gA s 31 u f)
    rw [hs.A 31 (by decide)]
    refine (hs.P (fun w => ?_)).1
    have w' : t_function s u f = x := w
    have l6 := l.2.2.1
    rw [w', hx.2.2.1] at l6
    exact absurd l6 (by decide)
  · show gA s' 60 0 y ≠ 0
    rw [hs.A 60 (by decide)]
    exact q.2
  · unfold feI at q
    simp only [List.contains_eq_mem, List.mem_cons, List.not_mem_nil, or_false, decide_eq_true_eq] at q
    omega
  · unfold fsA at q
    simp only [List.contains_eq_mem, List.mem_cons, List.not_mem_nil, or_false, decide_eq_true_eq] at q
    omega
