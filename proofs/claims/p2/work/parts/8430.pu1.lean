/-! A frame that is no function's is pushed. -/
def Ph (s s' : S1) (k fn : Int32) : Prop := (∀ f i, f ≠ 3586 ∨ i ≠ cu s → gI s' f i = gI s f i) ∧ t_frames s' (cu s) = t_frames s (cu s) + 1 ∧ (∀ f i, gL s' f i = gL s f i) ∧ (∀ a i j, (a ≠ 30 ∧ a ≠ 31 ∧ a ≠ 34 ∧ a ≠ 36 ∧ a ≠ 37) ∨ i ≠ cu s ∨ j ≠ t_frames s (cu s) → gA s' a i j = gA s a i j) ∧ (∀ a i j, gB s' a i j = gB s a i j) ∧ t_kind s' (cu s) (t_frames s (cu s)) = k ∧ t_function s' (cu s) (t_frames s (cu s)) = fn
theorem Ph.I {s s' : S1} {k fn : Int32} (h : Ph s s' k fn) (f : Nat) (hf : f ≠ 3586) (i : Int32) : gI s' f i = gI s f i := h.1 f i (Or.inl hf)
theorem Ph.A {s s' : S1} {k fn : Int32} (h : Ph s s' k fn) (a : Nat) (ha : a ≠ 30 ∧ a ≠ 31 ∧ a ≠ 34 ∧ a ≠ 36 ∧ a ≠ 37) (i j : Int32) : gA s' a i j = gA s a i j := h.2.2.2.1 a i j (Or.inl ha)
theorem Ph.B {s s' : S1} {k fn : Int32} (h : Ph s s' k fn) (a : Nat) (i j : Int32) : gB s' a i j = gB s a i j := h.2.2.2.2.1 a i j
theorem Ph.F {s s' : S1} {k fn : Int32} (h : Ph s s' k fn) {t j : Int32} (q : t ≠ cu s ∨ j ≠ t_frames s (cu s)) (a : Nat) : gA s' a t j = gA s a t j := h.2.2.2.1 a t j (Or.inr q)
theorem Lv.ph {m : Bool} {s s' : S1} {x j k fn : Int32} (hs : Ph s s' k fn) : Lv m s' x j ↔ Lv m s x j := by
  unfold Lv
  simp only [f_used, a_sort, a_marked, hs.I 40 (by decide), hs.A 58 (by decide), hs.A 59 (by decide)]
theorem Vl.ph {m : Bool} {s s' : S1} {j : Int32} {v : Int64} {k fn : Int32} (hs : Ph s s' k fn) : Vl m s' j v ↔ Vl m s j v := by
  unfold Vl
  simp only [Lv.ph hs]
theorem ph_num {n : Int32} (h : 0 ≤ n ∧ n ≤ 200) (hn : n ≠ 200) : (0 ≤ n + 1 ∧ n + 1 ≤ 200) ∧ (0 ≤ n ∧ n < 201) ∧ n + 1 - 1 = n ∧ (∀ f, f < n + 1 → f = n ∨ (f ≠ n ∧ f < n)) ∧ (∀ f, f < n → f ≠ n + 1 - 1) := by
  refine ⟨⟨by grind, by grind⟩, ⟨h.1, by grind⟩, by grind, fun f a => by grind, fun f a => by grind⟩
theorem push_tw {s s' : S1} {k fn : Int32} (h : GG s) (ht : 0 ≤ cu s ∧ cu s < 33) (hp : 0 ≤ t_place s (cu s)) (hn : t_frames s (cu s) ≠ 200) (hk : k ≠ 0) (hf : 0 ≤ fn → Lv false s fn 6) (hs : Ph s s' k fn) : Tw2 s s' (cu s) := by
  obtain ⟨⟨q1, q2, q3, q4⟩, p1, p2, p3⟩ := h.thr ht hp
  obtain ⟨n1, n2, n3, n4, n5⟩ := ph_num q2 hn
  refine ⟨fun f i q => ?_, hs.2.2.1, fun a i j q => ?_, fun a i j _ => hs.B a i j, ⟨?_, ?_, ?_, fun g a b => ?_⟩, ?_, fun g a b => ?_, ?_⟩
  · rcases q with q | q
    · exact hs.I f q.2 i
    · exact hs.1 f i (Or.inr q)
  · rcases q with q | q
    · exact hs.A a ⟨q.2.1, q.2.2.1, q.2.2.2.2.2.1, q.2.2.2.2.2.2.2.1, q.2.2.2.2.2.2.2.2.1⟩ i j
    · exact hs.2.2.2.1 a i j (Or.inr (Or.inl q))
  · simp only [v_start_n, hs.I 3202 (by decide)]
    exact q1
  · rw [hs.2.1]
    exact n1
  · simp only [t_openCount, hs.I 3587 (by decide)]
    exact q3
  · rw [hs.2.1] at b
    rcases n4 g b with e | ⟨e, e'⟩
    · intro z
      rw [e, hs.2.2.2.2.2.1] at z
      exact absurd z hk
    · have w := q4 g a e'
      have r := fun a => hs.F (t := cu s) (Or.inr e) a
      unfold FrS at *
      simp only [t_kind, t_function, t_extra, t_base, t_rowCount, a_first, a_registers, r, hs.A 62 (by decide), hs.A 44 (by decide)] at *
      exact w
  · simp only [Vl.ph hs]
    simp only [v_start_n, v_start_k, v_start_v, hs.I 3202 (by decide), hs.A 26 (by decide), hs.B 27]
    exact p1
  · rw [hs.2.1] at b
    rcases n4 g b with e | ⟨e, e'⟩
    · unfold FrV
      rw [e, hs.2.2.2.2.2.2, hs.2.2.2.2.2.1, Lv.ph hs]
      exact ⟨hf, fun z => absurd z hk⟩
    · have w := p2 g a e'
      have r := fun a => hs.F (t := cu s) (Or.inr e) a
      unfold FrV at *
      rw [hs.2.1]
      simp only [Vl.ph hs, Lv.ph hs]
      simp only [t_kind, t_function, t_extra, t_base, t_rowCount, a_first, a_registers, v_stack_k, v_stack_v, v_row_k, v_row_v, r, hs.A 62 (by decide), hs.A 44 (by decide), hs.A 20 (by decide), hs.A 23 (by decide), hs.B 21, hs.B 24] at *
      refine ⟨w.1, fun z => ⟨(w.2 z).1, fun y => ?_⟩⟩
      exact absurd y (n5 g e')
  · simp only [Lv.ph hs]
    simp only [t_openCount, t_open, hs.I 3587 (by decide), hs.A 29 (by decide)]
    exact p3
theorem push_fr {s s' : S1} {k fn : Int32} (h : RI true s) (hn : t_frames s (cu s) ≠ 200) (hk : k ≠ 0 ∧ 0 ≤ k ∧ k ≤ 4) (hs : Ph s s' k fn) : Fr true s' := by
  obtain ⟨hg, hz, h1, h2, h3, h4⟩ := h
  have hc := h3.1
  have hpl : 0 ≤ t_place s (cu s) := h3.2.2.2.2.2.2.2.2.1 0 hc.1
  obtain ⟨⟨q1, q2, q3, q4⟩, -⟩ := hg.thr hc hpl
  obtain ⟨n1, n2, n3, n4, n5⟩ := ph_num q2 hn
  have hch : ∀ n, chN s' n = chN s n := fun n => chN_I (hs.I 72 (by decide) 0) (fun i => hs.I 3590 (by decide) i) n
  have fl : ∀ x, FL s' x ↔ FL s x := fun x => by
    unfold FL
    rw [Lv.ph hs]
    simp only [a_fixed, hs.A 60 (by decide)]
  refine ⟨?_, ?_, ?_, fun t a b c f d e => ?_⟩
  · unfold Pg Pp Wf Wn Gs Rr Rq at *
    simp only [wd, f_protos, f_constCount, a_params, a_registers, a_upvalues, a_upAt, a_constAt, a_consts, a_codeAt, a_codes, a_childAt, a_children, a_child, a_ups, a_code, hs.I 23 (by decide), hs.I 25 (by decide), hs.A 42 (by decide), hs.A 43 (by decide), hs.A 44 (by decide), hs.A 45 (by decide), hs.A 46 (by decide), hs.A 47 (by decide), hs.A 48 (by decide), hs.A 49 (by decide), hs.A 50 (by decide), hs.A 51 (by decide), hs.A 52 (by decide), hs.A 53 (by decide), hs.A 54 (by decide), hs.A 55 (by decide)] at *
    exact h1
  · unfold Fx4 Kc at *
    simp only [fl]
    simp only [f_constCount, a_event, a_kindName, a_stateName, v_constants_k, v_constants_v, hs.I 25 (by decide), hs.A 2 (by decide), hs.A 82 (by decide), hs.A 83 (by decide), hs.A 84 (by decide), hs.B 3] at *
    exact h2
  · obtain ⟨t1, t2, t3, t4, t5, t6, t7, t8, t9, t10, t11⟩ := h3
    unfold Ths
    simp only [hch]
    simp only [f_current, t_state, t_resumer, t_begun, v_start_n, t_place, hs.I 72 (by decide), hs.I 3585 (by decide), hs.I 3590 (by decide), hs.I 3589 (by decide), hs.I 3202 (by decide), hs.I 3584 (by decide)]
    refine ⟨t1, t2, t3, fun n n1 n2 => ?_, t5, t6, t7, t8, t9, t10, t11⟩
    have ne := chN_ne hg hz n1 n2
    have ef : t_frames s' (chN s n) = t_frames s (chN s n) := hs.1 3586 _ (Or.inr ne)
    have ek : ∀ j, t_kind s' (chN s n) j = t_kind s (chN s n) j := fun j => hs.F (Or.inl ne) 30
    rw [ef, ek]
    exact t4 n n1 n2
  · have c' : 0 ≤ t_place s t := by
      have w : t_place s' t = t_place s t := hs.I 3584 (by decide) t
      rw [← w]
      exact c
    have key : f < t_frames s t → (t ≠ cu s ∨ f ≠ t_frames s (cu s)) → Fi true s' t f := fun w q => by
      have kk := h4 t a b c' f d w
      have r := fun a => hs.F q a
      unfold Fi Wt mks us Gs pf at *
      simp only [wd, t_kind, t_extra, t_pc, t_rowCount, t_mode, t_want, t_into, t_step, t_function, a_first, a_codes, a_registers, a_codeAt, a_code, r, hs.A 62 (by decide), hs.A 50 (by decide), hs.A 44 (by decide), hs.A 49 (by decide), hs.A 55 (by decide)] at *
      exact ⟨kk.1, fun z => ⟨(kk.2 z).1, fun _ => (kk.2 z).2 (Or.inr (Or.inr trivial))⟩⟩
    by_cases g : t = cu s
    · subst g
      rw [hs.2.1] at e
      rcases n4 f e with e' | ⟨e', e2⟩
      · unfold Fi
        rw [e', hs.2.2.2.2.2.1]
        exact ⟨hk.2, fun z => absurd z hk.1⟩
      · exact key e2 (Or.inr e')
    · have ef : t_frames s' t = t_frames s t := hs.1 3586 t (Or.inr g)
      rw [ef] at e
      exact key e (Or.inl g)
theorem push_ok (s : S1) (k fn : Int32) (h : RI true s) (hh : v_hand_n s = 0) (hk : k ≠ 0 ∧ 0 ≤ k ∧ k ≤ 4) (hf : 0 ≤ fn → Lv false s fn 6) : ok (M_Mo_push k fn) s (fun v s' => (v = 0 ∧ Bo s s' ∧ Er s') ∨ (v = 1 ∧ RI true s' ∧ Ph s s' k fn)) := by
  have hc := h.2.2.2.2.1.1
  have hpl : 0 ≤ t_place s (cu s) := h.2.2.2.2.1.2.2.2.2.2.2.2.2.1 0 hc.1
  obtain ⟨⟨q1, q2, q3, q4⟩, -⟩ := h.1.thr hc hpl
  simp only [M_Mo_push, ok_B, ok_C, ok_R, ok_L, ok_K, ok_GI, ok_GL, ok_PI, ok_PL, ok_AI, ok_AL, ok_SI, ok_SL, ok_Pr, ok_CI, cmp_lt, cmp_le, cmp_gt, cmp_ge, cmp_eq, nar0, nar1, Sum.elim_inl, Sum.elim_inr]
  refine ⟨hc, fun c => ok_mono ((raise_bo s 4 h.1 h.2.1 hh).and (raise_er s 4)) fun _ s1 w => Or.inl ⟨by trivial, w.1, w.2.2⟩, fun c => ?_⟩
  have hn : t_frames s (cu s) ≠ 200 := c
  obtain ⟨n1, n2, n3, n4, n5⟩ := ph_num q2 hn
  have ec : gI s 72 0 = cu s := rfl
  have en : gI s 3586 (cu s) = t_frames s (cu s) := rfl
  rw [ec, en]
  have ph : Ph s (sA (sA (sA (sA (sA (sI s 3586 (cu s) (t_frames s (cu s) + 1)) 30 (cu s) (t_frames s (cu s)) k) 31 (cu s) (t_frames s (cu s)) fn) 36 (cu s) (t_frames s (cu s)) 0) 34 (cu s) (t_frames s (cu s)) 0) 37 (cu s) (t_frames s (cu s)) 0) k fn := by
    refine ⟨fun f i q => ?_, ?_, fun _ _ => rfl, fun a i j q => ?_, fun _ _ _ => rfl, ?_, ?_⟩
    · simp only [gI_sI, gI_sL, gI_sA, gI_sB, gI_sAf, gI_sBf, gL_sI, gL_sL, gL_sA, gL_sB, gL_sAf, gL_sBf, gA_sI, gA_sL, gA_sA, gA_sB, gA_sAf, gA_sBf, gB_sI, gB_sL, gB_sA, gB_sB, gB_sAf, gB_sBf, Nat.reduceEqDiff, Nat.reduceMul, Nat.reduceAdd, false_and, true_and, and_true, and_false, if_true, if_false]
      rw [if_neg (fun w => q.elim (fun z => z w.1) (fun z => z w.2))]
    · simp only [t_frames, gI_sI, gI_sL, gI_sA, gI_sB, gI_sAf, gI_sBf, gL_sI, gL_sL, gL_sA, gL_sB, gL_sAf, gL_sBf, gA_sI, gA_sL, gA_sA, gA_sB, gA_sAf, gA_sBf, gB_sI, gB_sL, gB_sA, gB_sB, gB_sAf, gB_sBf, Nat.reduceEqDiff, Nat.reduceMul, Nat.reduceAdd, false_and, true_and, and_true, and_false, if_true, if_false]
    · have no : ∀ b, b = 30 ∨ b = 31 ∨ b = 34 ∨ b = 36 ∨ b = 37 → ¬ (a = b ∧ i = cu s ∧ j = t_frames s (cu s)) := fun b hb w => by
        rcases q with q | q | q
        · rcases hb with e | e | e | e | e <;> subst e
          · exact q.1 w.1
          · exact q.2.1 w.1
          · exact q.2.2.1 w.1
          · exact q.2.2.2.1 w.1
          · exact q.2.2.2.2 w.1
        · exact q w.2.1
        · exact q w.2.2
      rw [gA_sA, if_neg (no 37 (by decide)), gA_sA, if_neg (no 34 (by decide)), gA_sA, if_neg (no 36 (by decide)), gA_sA, if_neg (no 31 (by decide)), gA_sA, if_neg (no 30 (by decide)), gA_sI]
    · simp only [t_kind, gI_sI, gI_sL, gI_sA, gI_sB, gI_sAf, gI_sBf, gL_sI, gL_sL, gL_sA, gL_sB, gL_sAf, gL_sBf, gA_sI, gA_sL, gA_sA, gA_sB, gA_sAf, gA_sBf, gB_sI, gB_sL, gB_sA, gB_sB, gB_sAf, gB_sBf, Nat.reduceEqDiff, Nat.reduceMul, Nat.reduceAdd, false_and, true_and, and_true, and_false, if_true, if_false]
    · simp only [t_function, gI_sI, gI_sL, gI_sA, gI_sB, gI_sAf, gI_sBf, gL_sI, gL_sL, gL_sA, gL_sB, gL_sAf, gL_sBf, gA_sI, gA_sL, gA_sA, gA_sB, gA_sAf, gA_sBf, gB_sI, gB_sL, gB_sA, gB_sB, gB_sAf, gB_sBf, Nat.reduceEqDiff, Nat.reduceMul, Nat.reduceAdd, false_and, true_and, and_true, and_false, if_true, if_false]
  have g := h.1.th (push_tw h.1 hc hpl hn hk.1 hf ph)
  have f := push_fr h hn hk ph
  exact ⟨hc, hc, n2, hc, n2, hc, n2, hc, n2, hc, n2, Or.inr ⟨by trivial, ⟨g, (ph.I 92 (by decide) 0).trans h.2.1, f⟩, ph⟩⟩
