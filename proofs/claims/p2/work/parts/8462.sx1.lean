/-! Threads are switched. -/
def Sw (s s' : S1) : Prop := (∀ f i, f ≠ 72 → f ≠ 3202 → f ≠ 3585 → f ≠ 3589 → f ≠ 3590 → gI s' f i = gI s f i) ∧ (∀ f i, gL s' f i = gL s f i) ∧ (∀ a i j, gA s' a i j = gA s a i j) ∧ (∀ a i j, gB s' a i j = gB s a i j) ∧ ∀ i, gI s' 3202 i = gI s 3202 i ∨ gI s' 3202 i = 0
theorem Sw.I {s s' : S1} (h : Sw s s') (f : Nat) (hf : f ≠ 72 ∧ f ≠ 3202 ∧ f ≠ 3585 ∧ f ≠ 3589 ∧ f ≠ 3590) (i : Int32) : gI s' f i = gI s f i := h.1 f i hf.1 hf.2.1 hf.2.2.1 hf.2.2.2.1 hf.2.2.2.2
theorem Lv.sw {m : Bool} {s s' : S1} {x k : Int32} (hs : Sw s s') : Lv m s' x k ↔ Lv m s x k := by
  unfold Lv
  simp only [f_used, a_sort, a_marked, hs.I 40 (by decide), hs.2.2.1]
theorem Vl.sw {m : Bool} {s s' : S1} {k : Int32} {v : Int64} (hs : Sw s s') : Vl m s' k v ↔ Vl m s k v := by
  unfold Vl
  simp only [Lv.sw hs]
theorem Wl.sw {m : Bool} {s s' : S1} {k : Int32} {v : Int64} (hs : Sw s s') : Wl m s' k v ↔ Wl m s k v := by
  unfold Wl
  simp only [Vl.sw hs, Lv.sw hs]
theorem Ts.sw {s s' : S1} {u : Int32} (h : Ts s u) (hs : Sw s s') : Ts s' u := by
  obtain ⟨h1, h2, h3, h4⟩ := h
  refine ⟨?_, ?_, ?_, fun f a b => ?_⟩
  · have e : v_start_n s' u = v_start_n s u ∨ v_start_n s' u = 0 := hs.2.2.2.2 u
    rcases e with e | e <;> rw [e]
    · exact h1
    · exact ⟨by decide, by decide⟩
  · have e : t_frames s' u = t_frames s u := hs.I 3586 (by decide) u
    rw [e]
    exact h2
  · have e : t_openCount s' u = t_openCount s u := hs.I 3587 (by decide) u
    rw [e]
    exact h3
  · have e : t_frames s' u = t_frames s u := hs.I 3586 (by decide) u
    rw [e] at b
    have w := h4 f a b
    unfold FrS at *
    simp only [t_kind, t_function, t_extra, t_base, t_rowCount, a_first, a_registers, hs.2.2.1] at *
    exact w
theorem ThV.sw {s s' : S1} {u : Int32} (h : ThV false s u) (hs : Sw s s') : ThV false s' u := by
  obtain ⟨h1, h2, h3⟩ := h
  have e86 : t_frames s' u = t_frames s u := hs.I 3586 (by decide) u
  refine ⟨fun i a b => ?_, fun f a b => ?_, fun k a b => ?_⟩
  · have e : v_start_n s' u = v_start_n s u ∨ v_start_n s' u = 0 := hs.2.2.2.2 u
    rcases e with e | e <;> rw [e] at b
    · have w := h1 i a b
      rw [Vl.sw hs]
      simp only [v_start_k, v_start_v, hs.2.2.1, hs.2.2.2.1] at *
      exact w
    · exact absurd (Int32.lt_of_le_of_lt a b) (by decide)
  · rw [e86] at b
    have w := h2 f a b
    unfold FrV at *
    rw [e86]
    simp only [Vl.sw hs, Lv.sw hs]
    simp only [t_kind, t_function, t_extra, t_base, t_rowCount, a_first, a_registers, v_stack_k, v_stack_v, v_row_k, v_row_v, hs.2.2.1, hs.2.2.2.1] at *
    exact w
  · have e : t_openCount s' u = t_openCount s u := hs.I 3587 (by decide) u
    rw [e] at b
    rw [Lv.sw hs]
    have w := h3 k a b
    simp only [t_open, hs.2.2.1] at *
    exact w
theorem Hq.sw {s s' : S1} (h : Hq s) (hs : Sw s s') : Hq s' := by
  obtain ⟨⟨v1, v2, v3⟩, h2, h3, h4, h5, h6, h7⟩ := h
  have eu : f_used s' = f_used s := hs.I 40 (by decide) 0
  have et : f_entryTop s' = f_entryTop s := hs.I 41 (by decide) 0
  have es : ∀ z, a_sort s' z = a_sort s z := fun z => hs.2.2.1 58 0 z
  have eP : ∀ u, t_place s' u = t_place s u := fun u => hs.I 3584 (by decide) u
  have e1 : ∀ z, a_first s' z = a_first s z := fun z => hs.2.2.1 62 0 z
  have e2 : ∀ z, a_second s' z = a_second s z := fun z => hs.2.2.1 63 0 z
  have e3 : ∀ z, a_third s' z = a_third s z := fun z => hs.2.2.1 64 0 z
  refine ⟨⟨?_, by rw [et]; exact v2, fun x a b => ?_⟩, h2.sq ⟨fun a j ha => hs.2.2.1 a 0 j, hs.I 40 (by decide) 0, hs.I 38 (by decide) 0⟩, ?_, ?_, ?_, ?_, by rw [eu]; exact h7⟩
  · unfold Rm at *
    simp only [p_ek, p_vk, p_ev, p_vv, p_follow, p_bucket, hs.I 8959 (by decide), hs.I 9087 (by decide), hs.I 9215 (by decide), hs.I 9343 (by decide), hs.I 9471 (by decide), hs.I 9599 (by decide)] at *
    exact v1
  · rw [eu] at b
    obtain ⟨⟨a5, a6, a7, a8⟩, c5, c6, c7, c8⟩ := v3 x a b
    refine ⟨⟨fun y => ?_, fun y => ?_, fun y => ?_, fun y => ?_⟩, ⟨fun y => ?_, fun y => ?_, fun y => ?_, fun y => ?_⟩⟩ <;> rw [es] at y
    · rw [e1, e2, e3, et]
      exact a5 y
    · rw [e1, e2, e3, et]
      exact a6 y
    · rw [e1, eP]
      exact ⟨(a7 y).1, (a7 y).2.1, (a7 y).2.2.1, (a7 y).2.2.2.sw hs⟩
    · rw [e1, e2]
      exact a8 y
    · have w := c5 y
      unfold TbV at *
      rw [e1, e3]
      simp only [Vl.sw hs, Lv.sw hs]
      simp only [a_chain, a_ek, a_ev, a_vk, a_vv, hs.2.2.1, hs.2.2.2.1] at *
      exact w
    · have w := c6 y
      unfold FnV at *
      rw [e1, e2, e3]
      simp only [Lv.sw hs]
      simp only [a_follow, hs.2.2.1] at *
      exact w
    · rw [e1]
      exact (c7 y).sw hs
    · have w := c8 y
      unfold VrV at *
      rw [e1, e2]
      simp only [Vl.sw hs]
      simp only [v_stack_k, v_stack_v, v_variable_k, v_variable_v, hs.2.2.1, hs.2.2.2.1] at *
      exact w
  · unfold Frl at *
    simp only [f_freed, f_existing, f_used, a_free, a_sort, hs.I 54 (by decide), hs.I 34 (by decide), hs.I 40 (by decide), hs.2.2.1] at *
    exact h3
  · unfold Ov at *
    simp only [Lv.sw hs]
    simp only [t_place, t_openCount, t_open, a_first, hs.I 3584 (by decide), hs.I 3587 (by decide), hs.2.2.1] at *
    exact h4
  · unfold Cv at *
    simp only [Lv.sw hs]
    simp only [t_place, t_openCount, t_open, a_first, hs.I 3584 (by decide), hs.I 3587 (by decide), hs.2.2.1] at *
    exact h5
  · unfold q_Tp at *
    simp only [Lv.sw hs]
    simp only [t_place, a_first, hs.I 3584 (by decide), hs.2.2.1] at *
    exact h6
theorem GG.sw {s s' : S1} (h : GG s) (hs : Sw s s') (hc : 0 ≤ f_current s' ∧ f_current s' < 33) (hk : ∃ ρ, Rk ρ s') (hn : ∀ n, 0 ≤ chN s' n → 0 ≤ t_place s (chN s' n)) : GG s' := by
  obtain ⟨hm, hnm, he, hr, htc⟩ := h
  have htp := hm.1.2.2.2.2.2.1
  refine ⟨⟨hm.1.sw hs, fun z => ?_⟩, ?_, ?_, ?_, (PT.same (fun t => hs.I 3584 (by decide) t) (hs.I 39 (by decide) 0)).2 htc⟩
  · have z' : f_noCollection s = 0 := (hs.I 92 (by decide) 0).symm.trans z
    obtain ⟨⟨r1, r2, r3⟩, q1, q2, q3, q4⟩ := hm.2 z'
    obtain ⟨ρ, rk⟩ := hk
    have eP : ∀ u, t_place s' u = t_place s u := fun u => hs.I 3584 (by decide) u
    refine ⟨⟨hc, ⟨ρ, rk⟩, ?_⟩, ?_, ?_, fun n a => ?_, ?_⟩
    · simp only [v_hand_n, v_args_n, v_results_n, v_ended_n, f_used, hs.I 2050 (by decide), hs.I 898 (by decide), hs.I 1282 (by decide), hs.I 1666 (by decide), hs.I 40 (by decide)] at *
      exact r3
    · rw [Lv.sw hs]
      have e : f_globals s' = f_globals s := hs.I 74 (by decide) 0
      rw [e]
      exact q1
    · rw [Lv.sw hs, eP]
      exact q2
    · rw [Lv.sw hs, eP]
      exact (htp _ a (chN_rank hc rk n a).1.2 (hn n a)).1
    · unfold RwV at *
      simp only [Lv.sw hs, Vl.sw hs, Wl.sw hs]
      simp only [f_errorKind, f_errorValue, f_calledKind, f_called, a_sort, a_fixed, a_marked, f_used, Nat.reduceMul, Nat.reduceAdd, hs.2.1, hs.2.2.1, hs.2.2.2.1, hs.I 64 (by decide), hs.I 75 (by decide), hs.I 40 (by decide), hs.I 2050 (by decide), hs.I 898 (by decide), hs.I 1282 (by decide), hs.I 1666 (by decide)] at *
      exact q4
  · unfold Nm at *
    simp only [f_entryTop, f_roomAll, f_textMade, f_textAll, f_made, f_madeAll, f_limit, f_used, a_sort, a_tag, a_second, hs.I 41 (by decide), hs.I 43 (by decide), hs.I 38 (by decide), hs.I 44 (by decide), hs.I 33 (by decide), hs.I 42 (by decide), hs.I 32 (by decide), hs.I 40 (by decide), hs.2.2.1] at *
    exact hnm
  · unfold Ex q_Dj q_Rg Tch Fu at *
    simp only [f_used, f_protos, a_sort, a_first, a_second, a_third, a_bucket, a_follow, a_upvalues, hs.I 40 (by decide), hs.I 23 (by decide), hs.2.2.1] at *
    exact he
  · unfold Rws RvV RwV at *
    simp only [Vl.sw hs, Wl.sw hs]
    simp only [v_hand_n, v_args_n, v_results_n, v_ended_n, f_errorKind, f_errorValue, f_calledKind, f_called, Nat.reduceMul, Nat.reduceAdd, hs.2.1, hs.2.2.1, hs.2.2.2.1, hs.I 64 (by decide), hs.I 75 (by decide), hs.I 2050 (by decide), hs.I 898 (by decide), hs.I 1282 (by decide), hs.I 1666 (by decide)] at *
    exact hr
theorem Fr.sw {s s' : S1} (h : Fr true s) (hs : Sw s s') (ht : Ths s') : Fr true s' := by
  obtain ⟨h1, h2, h3, h4⟩ := h
  have fl : ∀ x, FL s' x ↔ FL s x := fun x => by
    unfold FL
    rw [Lv.sw hs]
    simp only [a_fixed, hs.2.2.1]
  refine ⟨?_, ?_, ht, fun t a b c f d e => ?_⟩
  · unfold Pg Pp Wf Wn Gs Rr Rq at *
    simp only [wd, f_protos, f_constCount, a_params, a_registers, a_upvalues, a_upAt, a_constAt, a_consts, a_codeAt, a_codes, a_childAt, a_children, a_child, a_ups, a_code, hs.I 23 (by decide), hs.I 25 (by decide), hs.2.2.1] at *
    exact h1
  · unfold Fx4 Kc at *
    simp only [fl]
    simp only [f_constCount, a_event, a_kindName, a_stateName, v_constants_k, v_constants_v, hs.I 25 (by decide), hs.2.2.1, hs.2.2.2.1] at *
    exact h2
  · have e84 : t_place s' t = t_place s t := hs.I 3584 (by decide) t
    have e86 : t_frames s' t = t_frames s t := hs.I 3586 (by decide) t
    rw [e84] at c
    rw [e86] at e
    obtain ⟨k1, k2⟩ := h4 t a b c f d e
    have k3 := fun z => (k2 z).1
    have k4 := fun z => (k2 z).2 (Or.inr (Or.inr rfl))
    unfold Fi
    refine ⟨?_, fun z => ⟨?_, fun _ => ?_⟩⟩
    · simp only [t_kind, hs.2.2.1] at *
      exact k1
    · simp only [t_kind, t_extra, hs.2.2.1] at *
      exact k3 z
    · unfold Wt mks us Gs pf at *
      simp only [wd, t_kind, t_extra, t_pc, t_rowCount, t_mode, t_want, t_into, t_step, t_function, a_first, a_codes, a_registers, a_codeAt, a_code, hs.2.2.1] at *
      exact k4 z
theorem ch_in {s s' : S1} {u : Int32} (hu0 : 0 ≤ u) (hn : ∀ n, chN s n ≠ u) (c1 : cu s' = u) (c2 : ∀ i, t_resumer s' i = if i = u then cu s else t_resumer s i) : ∀ n, chN s' (n + 1) = chN s n := by
  intro n
  induction n with
  | zero =>
    show (if chN s' 0 < 0 then -1 else t_resumer s' (chN s' 0)) = cu s
    have e : chN s' 0 = u := c1
    rw [e, if_neg (Int32.not_lt.mpr hu0), c2, if_pos rfl]
  | succ n ih =>
    show (if chN s' (n + 1) < 0 then -1 else t_resumer s' (chN s' (n + 1))) = if chN s n < 0 then -1 else t_resumer s (chN s n)
    rw [ih, c2, if_neg (hn n)]
theorem ch_out {s s' : S1} (hne : ∀ n, 0 ≤ chN s (n + 1) → chN s (n + 1) ≠ cu s) (c1 : cu s' = t_resumer s (cu s)) (h0 : 0 ≤ cu s) (c2 : ∀ i, t_resumer s' i = if i = cu s then -1 else t_resumer s i) : ∀ n, chN s' n = chN s (n + 1) := by
  intro n
  induction n with
  | zero =>
    show cu s' = if chN s 0 < 0 then -1 else t_resumer s (chN s 0)
    have e : chN s 0 = cu s := rfl
    rw [e, if_neg (Int32.not_lt.mpr h0)]
    exact c1
  | succ n ih =>
    show (if chN s' n < 0 then -1 else t_resumer s' (chN s' n)) = if chN s (n + 1) < 0 then -1 else t_resumer s (chN s (n + 1))
    rw [ih]
    by_cases c : chN s (n + 1) < 0
    · rw [if_pos c, if_pos c]
    · rw [if_neg c, if_neg c, c2, if_neg (hne n (Int32.not_lt.mp c))]
theorem ch_next {s : S1} {m : Nat} {t : Int32} (e : chN s m = t) (h : 0 ≤ t) : chN s (m + 1) = t_resumer s t := by
  show (if chN s m < 0 then -1 else t_resumer s (chN s m)) = _
  rw [e, if_neg (Int32.not_lt.mpr h)]
/-- a thread goes on -/
theorem resume_ri {s s' : S1} {u : Int32} (h : RI true s) (hu : 0 ≤ u ∧ u < 33) (hp : 0 ≤ t_place s u) (h0 : u ≠ 0) (hst : t_state s u = 0) (hk : 0 < t_frames s (cu s) ∧ (t_kind s (cu s) (t_frames s (cu s) - 1) = 2 ∨ t_kind s (cu s) (t_frames s (cu s) - 1) = 3)) (hs : Sw s s') (c1 : cu s' = u) (c2 : ∀ i, t_resumer s' i = if i = u then cu s else t_resumer s i) (c3 : ∀ i, t_state s' i = if i = u then 1 else if i = cu s then 2 else t_state s i) (c4 : ∀ i, i ≠ u → t_begun s' i = t_begun s i ∧ v_start_n s' i = v_start_n s i) (c5 : t_begun s' u ≠ 0) : RI true s' := by
  obtain ⟨hg, hz, hf⟩ := h
  obtain ⟨t1, t2, t3, t4, t5, t6, t7, t8, t9, t10, t11⟩ := hf.2.2.1
  have hnu : ∀ n, chN s n ≠ u := fun n e => by
    by_cases q : n = 0
    · rw [q] at e
      have e' : cu s = u := e
      rw [← e', t2] at hst
      exact absurd hst (by decide)
    · have := (t4 n (Nat.pos_of_ne_zero q) (by rw [e]; exact hu.1)).1
      rw [e, hst] at this
      exact absurd this (by decide)
  have hch := ch_in hu.1 hnu c1 c2
  have hch0 : chN s' 0 = u := c1
  obtain ⟨⟨r1, ⟨ρ, r2⟩, -⟩, -⟩ := hg.1.2 hz
  have ncu : cu s ≠ u := hnu 0
  have pcu : 0 ≤ t_place s (cu s) := t9 0 t1.1
  have rk : ∃ ρ, Rk ρ s' := ⟨fun i => if i = u then ρ (cu s) + 1 else if 0 ≤ t_place s i then ρ i else ρ i + ρ (cu s) + 2, fun t a b c => by
    show 0 ≤ t_resumer s' t ∧ t_resumer s' t < 33 ∧ (if t_resumer s' t = u then ρ (cu s) + 1 else if 0 ≤ t_place s (t_resumer s' t) then ρ (t_resumer s' t) else ρ (t_resumer s' t) + ρ (cu s) + 2) < if t = u then ρ (cu s) + 1 else if 0 ≤ t_place s t then ρ t else ρ t + ρ (cu s) + 2
    rw [c2] at c ⊢
    by_cases q : t = u
    · rw [if_pos q, if_pos q, if_neg ncu, if_pos pcu]
      exact ⟨r1.1, r1.2, Nat.lt_succ_self _⟩
    · rw [if_neg q] at c ⊢
      rw [if_neg q]
      have w := r2 t a b c
      refine ⟨w.1, w.2.1, ?_⟩
      by_cases pt : 0 ≤ t_place s t
      · obtain ⟨m, em⟩ := t3 t a b pt c
        have e := hnu (m + 1)
        have en := ch_next em a
        rw [en] at e
        have pr : 0 ≤ t_place s (t_resumer s t) := by
          rw [← en]
          exact t9 (m + 1) (by rw [en]; exact w.1)
        rw [if_neg e, if_pos pr, if_pos pt]
        exact w.2.2
      · rw [if_neg pt]
        by_cases e : t_resumer s t = u
        · rw [if_pos e]
          omega
        · rw [if_neg e]
          by_cases pr : 0 ≤ t_place s (t_resumer s t)
          · rw [if_pos pr]
            omega
          · rw [if_neg pr]
            omega⟩
  have hpl : ∀ n, 0 ≤ chN s' n → 0 ≤ t_place s (chN s' n) := fun n => by
    cases n with
    | zero =>
      rw [hch0]
      exact fun _ => hp
    | succ n =>
      rw [hch]
      exact t9 n
  have cu' : 0 ≤ f_current s' ∧ f_current s' < 33 := by
    have e : f_current s' = u := c1
    rw [e]
    exact hu
  have g' := hg.sw hs cu' rk hpl
  have eP : ∀ i, t_place s' i = t_place s i := fun i => hs.I 3584 (by decide) i
  have eF : ∀ i, t_frames s' i = t_frames s i := fun i => hs.I 3586 (by decide) i
  have eK : ∀ i j, t_kind s' i j = t_kind s i j := fun i j => hs.2.2.1 30 i j
  have th : Ths s' := by
    refine ⟨cu', ?_, fun i a b pl c => ?_, fun n n1 n2 => ?_, fun i a b c d => ?_, fun n a b => ?_, ?_, ?_, fun n a => ?_, fun i a b c => ?_, fun i a b c d e => ?_⟩
    · have e : f_current s' = u := c1
      rw [e, c3, if_pos rfl]
    · by_cases q : i = u
      · exact ⟨0, by rw [hch0, q]⟩
      · rw [c2, if_neg q] at c
        rw [eP] at pl
        obtain ⟨m, em⟩ := t3 i a b pl c
        exact ⟨m + 1, (hch m).trans em⟩
    · cases n with
      | zero => exact absurd n1 (Nat.lt_irrefl 0)
      | succ n =>
        rw [hch] at n2 ⊢
        rw [c3, if_neg (hnu n), eF, eK]
        by_cases q : n = 0
        · rw [q]
          have e0 : chN s 0 = cu s := rfl
          rw [e0, if_pos rfl]
          exact ⟨rfl, hk⟩
        · rw [if_neg (chN_ne hg hz (Nat.pos_of_ne_zero q) n2)]
          exact t4 n (Nat.pos_of_ne_zero q) n2
    · by_cases q : i = u
      · exact ⟨0, by rw [hch0, q]⟩
      · rw [c3, if_neg q] at d
        by_cases q2 : i = cu s
        · exact ⟨1, (hch 0).trans q2.symm⟩
        · rw [if_neg q2] at d
          rw [eP] at c
          obtain ⟨m, em⟩ := t5 i a b c d
          exact ⟨m + 1, (hch m).trans em⟩
    · cases n with
      | zero =>
        rw [hch0, c2, if_pos rfl]
        intro z
        have w : 0 ≤ cu s := t1.1
        rw [z] at w
        exact absurd w (by decide)
      | succ n =>
        rw [hch] at a b ⊢
        rw [c2, if_neg (hnu n)]
        exact t6 n a b
    · rw [c2, if_neg (fun z => h0 z.symm)]
      exact t7
    · rw [eP]
      exact t8
    · rw [eP]
      exact hpl n a
    · rw [eP] at c
      rw [c3]
      by_cases q : i = u
      · rw [if_pos q]
        exact ⟨by decide, by decide⟩
      · rw [if_neg q]
        by_cases q2 : i = cu s
        · rw [if_pos q2]
          exact ⟨by decide, by decide⟩
        · rw [if_neg q2]
          exact t10 i a b c
    · by_cases q : i = u
      · rw [q] at e
        exact absurd e c5
      · rw [(c4 i q).1] at e
        rw [eP] at c
        have w := t11 i a b c d e
        rw [(c4 i q).2, c3, if_neg q, if_neg]
        · exact w
        · intro z
          rw [z] at w
          exact absurd (w.1.symm.trans t2) (by decide)
  exact ⟨g', (hs.I 92 (by decide) 0).trans hz, hf.sw hs th⟩
/-- a thread gives way to the one that resumed it -/
theorem back_ri {s s' : S1} {d : Int32} (h : RI true s) (h0 : cu s ≠ 0) (hs : Sw s s') (c1 : cu s' = t_resumer s (cu s)) (c2 : ∀ i, t_resumer s' i = if i = cu s then -1 else t_resumer s i) (c3 : ∀ i, t_state s' i = if i = t_resumer s (cu s) then 1 else if i = cu s then d else t_state s i) (hd : d = 0 ∨ d = 3) (c4 : ∀ i, t_begun s' i = t_begun s i ∧ v_start_n s' i = v_start_n s i) : RI true s' ∧ 0 < t_frames s (cu s') ∧ (t_kind s (cu s') (t_frames s (cu s') - 1) = 2 ∨ t_kind s (cu s') (t_frames s (cu s') - 1) = 3) := by
  obtain ⟨hg, hz, hf⟩ := h
  obtain ⟨t1, t2, t3, t4, t5, t6, t7, t8, t9, t10, t11⟩ := hf.2.2.1
  obtain ⟨⟨r1, ⟨ρ, r2⟩, -⟩, -⟩ := hg.1.2 hz
  have hr : t_resumer s (cu s) ≠ -1 := t6 0 t1.1 h0
  have hrr := r2 (cu s) t1.1 t1.2 hr
  have e1 : chN s 1 = t_resumer s (cu s) := ch_next (m := 0) rfl t1.1
  have p1 : 0 ≤ chN s 1 := by
    rw [e1]
    exact hrr.1
  have hne : ∀ n, 0 ≤ chN s (n + 1) → chN s (n + 1) ≠ cu s := fun n => chN_ne hg hz (Nat.succ_pos n)
  have hch := ch_out hne c1 t1.1 c2
  have rk : ∃ ρ, Rk ρ s' := ⟨ρ, fun t a b c => by
    rw [c2] at c ⊢
    by_cases q : t = cu s
    · rw [if_pos q] at c
      exact absurd rfl c
    · rw [if_neg q] at c ⊢
      exact r2 t a b c⟩
  have hpl : ∀ n, 0 ≤ chN s' n → 0 ≤ t_place s (chN s' n) := fun n => by
    rw [hch]
    exact t9 (n + 1)
  have cu' : 0 ≤ f_current s' ∧ f_current s' < 33 := by
    have e : f_current s' = t_resumer s (cu s) := c1
    rw [e]
    exact ⟨hrr.1, hrr.2.1⟩
  have g' := hg.sw hs cu' rk hpl
  have eP : ∀ i, t_place s' i = t_place s i := fun i => hs.I 3584 (by decide) i
  have eF : ∀ i, t_frames s' i = t_frames s i := fun i => hs.I 3586 (by decide) i
  have eK : ∀ i j, t_kind s' i j = t_kind s i j := fun i j => hs.2.2.1 30 i j
  have k1 := t4 1 Nat.one_pos p1
  rw [e1] at k1
  have th : Ths s' := by
    refine ⟨cu', ?_, fun i a b pl c => ?_, fun n n1 n2 => ?_, fun i a b c g => ?_, fun n a b => ?_, ?_, ?_, fun n a => ?_, fun i a b c => ?_, fun i a b c g e => ?_⟩
    · have e : f_current s' = t_resumer s (cu s) := c1
      rw [e, c3, if_pos rfl]
    · by_cases q : i = cu s
      · rw [c2, if_pos q] at c
        exact absurd rfl c
      · rw [c2, if_neg q] at c
        rw [eP] at pl
        obtain ⟨m, em⟩ := t3 i a b pl c
        cases m with
        | zero => exact absurd em.symm q
        | succ m => exact ⟨m, (hch m).trans em⟩
    · rw [hch] at n2 ⊢
      have d1 := chN_inj hg hz (n := 1) (m := n + 1) (by omega) n2
      rw [e1] at d1
      rw [c3, if_neg d1, if_neg (hne n n2), eF, eK]
      exact t4 (n + 1) (Nat.succ_pos n) n2
    · by_cases q : i = t_resumer s (cu s)
      · exact ⟨0, by rw [hch, q, e1]⟩
      · rw [c3, if_neg q] at g
        by_cases q2 : i = cu s
        · rw [if_pos q2] at g
          rcases hd with e | e <;> rw [e] at g <;> exact absurd g (by decide)
        · rw [if_neg q2] at g
          rw [eP] at c
          obtain ⟨m, em⟩ := t5 i a b c g
          cases m with
          | zero => exact absurd em.symm q2
          | succ m => exact ⟨m, (hch m).trans em⟩
    · rw [hch] at a b ⊢
      rw [c2, if_neg (hne n a)]
      exact t6 (n + 1) a b
    · rw [c2, if_neg (fun z => h0 z.symm)]
      exact t7
    · rw [eP]
      exact t8
    · rw [eP]
      exact hpl n a
    · rw [eP] at c
      rw [c3]
      by_cases q : i = t_resumer s (cu s)
      · rw [if_pos q]
        exact ⟨by decide, by decide⟩
      · rw [if_neg q]
        by_cases q2 : i = cu s
        · rw [if_pos q2]
          rcases hd with e | e <;> rw [e] <;> exact ⟨by decide, by decide⟩
        · rw [if_neg q2]
          exact t10 i a b c
    · rw [(c4 i).1] at e
      rw [eP] at c
      have w := t11 i a b c g e
      rw [(c4 i).2, c3, if_neg, if_neg]
      · exact w
      · intro z
        rw [z] at w
        exact absurd (w.1.symm.trans t2) (by decide)
      · intro z
        rw [z] at w
        exact absurd (w.1.symm.trans k1.1) (by decide)
  refine ⟨⟨g', (hs.I 92 (by decide) 0).trans hz, hf.sw hs th⟩, ?_⟩
  rw [c1]
  exact k1.2
