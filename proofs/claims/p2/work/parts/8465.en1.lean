/-! A function's frame is pushed, its stack filled before. -/
def Pw (v z : S1) (x b e : Int32) : Prop := (∀ f i, f ≠ 3586 ∨ i ≠ cu v → gI z f i = gI v f i) ∧ t_frames z (cu v) = t_frames v (cu v) + 1 ∧ (∀ f i, gL z f i = gL v f i) ∧ (∀ a i j, (a ≠ 30 ∧ a ≠ 31 ∧ a ≠ 32 ∧ a ≠ 33 ∧ a ≠ 34 ∧ a ≠ 36 ∧ a ≠ 37) ∨ i ≠ cu v ∨ j ≠ t_frames v (cu v) → gA z a i j = gA v a i j) ∧ (∀ a i j, gB z a i j = gB v a i j) ∧
  (t_kind z (cu v) (t_frames v (cu v)) = 0 ∧ t_function z (cu v) (t_frames v (cu v)) = x ∧ t_pc z (cu v) (t_frames v (cu v)) = 0 ∧ t_base z (cu v) (t_frames v (cu v)) = b ∧ t_extra z (cu v) (t_frames v (cu v)) = e ∧ t_rowCount z (cu v) (t_frames v (cu v)) = 0)
theorem Pw.I {v z : S1} {x b e : Int32} (h : Pw v z x b e) (f : Nat) (hf : f ≠ 3586) (i : Int32) : gI z f i = gI v f i := h.1 f i (Or.inl hf)
theorem Pw.A {v z : S1} {x b e : Int32} (h : Pw v z x b e) (a : Nat) (ha : a ≠ 30 ∧ a ≠ 31 ∧ a ≠ 32 ∧ a ≠ 33 ∧ a ≠ 34 ∧ a ≠ 36 ∧ a ≠ 37) (i j : Int32) : gA z a i j = gA v a i j := h.2.2.2.1 a i j (Or.inl ha)
theorem Pw.B {v z : S1} {x b e : Int32} (h : Pw v z x b e) (a : Nat) (i j : Int32) : gB z a i j = gB v a i j := h.2.2.2.2.1 a i j
theorem Pw.F {v z : S1} {x b e : Int32} (h : Pw v z x b e) {t j : Int32} (q : t ≠ cu v ∨ j ≠ t_frames v (cu v)) (a : Nat) : gA z a t j = gA v a t j := h.2.2.2.1 a t j (Or.inr q)
theorem Lv.pw {m : Bool} {v z : S1} {x b e y k : Int32} (hs : Pw v z x b e) : Lv m z y k ↔ Lv m v y k := by
  unfold Lv
  simp only [f_used, a_sort, a_marked, hs.I 40 (by decide), hs.A 58 (by decide), hs.A 59 (by decide)]
theorem Vl.pw {m : Bool} {v z : S1} {x b e k : Int32} {w : Int64} (hs : Pw v z x b e) : Vl m z k w ↔ Vl m v k w := by
  unfold Vl
  simp only [Lv.pw hs]
theorem Pw.set {v z : S1} {x b e : Int32} (h : Pw v z x b e) (t i k : Int32) (w : Int64) : Pw (sB (sA v 20 t i k) 21 t i w) (sB (sA z 20 t i k) 21 t i w) x b e := by
  obtain ⟨h1, h2, h3, h4, h5, h6, h7, h8, h9, h10, h11⟩ := h
  refine ⟨h1, h2, h3, fun a i' j q => ?_, fun a i' j => ?_, ?_, ?_, ?_, ?_, ?_, ?_⟩
  · rw [gA_sB, gA_sA, gA_sB, gA_sA, h4 a i' j q]
  · rw [gB_sB, gB_sA, gB_sB, gB_sA, h5]
  · simp only [t_kind, cu, f_current, t_frames, gI_sI, gI_sL, gI_sA, gI_sB, gI_sAf, gI_sBf, gL_sI, gL_sL, gL_sA, gL_sB, gL_sAf, gL_sBf, gA_sI, gA_sL, gA_sA, gA_sB, gA_sAf, gA_sBf, gB_sI, gB_sL, gB_sA, gB_sB, gB_sAf, gB_sBf, Nat.reduceEqDiff, Nat.reduceMul, Nat.reduceAdd, false_and, true_and, and_true, and_false, if_true, if_false]
    exact h6
  · simp only [t_function, cu, f_current, t_frames, gI_sI, gI_sL, gI_sA, gI_sB, gI_sAf, gI_sBf, gL_sI, gL_sL, gL_sA, gL_sB, gL_sAf, gL_sBf, gA_sI, gA_sL, gA_sA, gA_sB, gA_sAf, gA_sBf, gB_sI, gB_sL, gB_sA, gB_sB, gB_sAf, gB_sBf, Nat.reduceEqDiff, Nat.reduceMul, Nat.reduceAdd, false_and, true_and, and_true, and_false, if_true, if_false]
    exact h7
  · simp only [t_pc, cu, f_current, t_frames, gI_sI, gI_sL, gI_sA, gI_sB, gI_sAf, gI_sBf, gL_sI, gL_sL, gL_sA, gL_sB, gL_sAf, gL_sBf, gA_sI, gA_sL, gA_sA, gA_sB, gA_sAf, gA_sBf, gB_sI, gB_sL, gB_sA, gB_sB, gB_sAf, gB_sBf, Nat.reduceEqDiff, Nat.reduceMul, Nat.reduceAdd, false_and, true_and, and_true, and_false, if_true, if_false]
    exact h8
  · simp only [t_base, cu, f_current, t_frames, gI_sI, gI_sL, gI_sA, gI_sB, gI_sAf, gI_sBf, gL_sI, gL_sL, gL_sA, gL_sB, gL_sAf, gL_sBf, gA_sI, gA_sL, gA_sA, gA_sB, gA_sAf, gA_sBf, gB_sI, gB_sL, gB_sA, gB_sB, gB_sAf, gB_sBf, Nat.reduceEqDiff, Nat.reduceMul, Nat.reduceAdd, false_and, true_and, and_true, and_false, if_true, if_false]
    exact h9
  · simp only [t_extra, cu, f_current, t_frames, gI_sI, gI_sL, gI_sA, gI_sB, gI_sAf, gI_sBf, gL_sI, gL_sL, gL_sA, gL_sB, gL_sAf, gL_sBf, gA_sI, gA_sL, gA_sA, gA_sB, gA_sAf, gA_sBf, gB_sI, gB_sL, gB_sA, gB_sB, gB_sAf, gB_sBf, Nat.reduceEqDiff, Nat.reduceMul, Nat.reduceAdd, false_and, true_and, and_true, and_false, if_true, if_false]
    exact h10
  · simp only [t_rowCount, cu, f_current, t_frames, gI_sI, gI_sL, gI_sA, gI_sB, gI_sAf, gI_sBf, gL_sI, gL_sL, gL_sA, gL_sB, gL_sAf, gL_sBf, gA_sI, gA_sL, gA_sA, gA_sB, gA_sAf, gA_sBf, gB_sI, gB_sL, gB_sA, gB_sB, gB_sAf, gB_sBf, Nat.reduceEqDiff, Nat.reduceMul, Nat.reduceAdd, false_and, true_and, and_true, and_false, if_true, if_false]
    exact h11
theorem Pw.zero {v z : S1} {x b e : Int32} (h : Pw v z x b e) : Pw (sI v 898 0 0) (sI z 898 0 0) x b e := by
  obtain ⟨h1, h2, h3, h4, h5, h6, h7, h8, h9, h10, h11⟩ := h
  have ec : cu (sI v 898 0 0) = cu v := by simp only [cu, f_current, gI_sI, gI_sL, gI_sA, gI_sB, gI_sAf, gI_sBf, gL_sI, gL_sL, gL_sA, gL_sB, gL_sAf, gL_sBf, gA_sI, gA_sL, gA_sA, gA_sB, gA_sAf, gA_sBf, gB_sI, gB_sL, gB_sA, gB_sB, gB_sAf, gB_sBf, Nat.reduceEqDiff, Nat.reduceMul, Nat.reduceAdd, false_and, true_and, and_true, and_false, if_true, if_false]
  have ef : ∀ t, t_frames (sI v 898 0 0) t = t_frames v t := fun t => by simp only [t_frames, gI_sI, gI_sL, gI_sA, gI_sB, gI_sAf, gI_sBf, gL_sI, gL_sL, gL_sA, gL_sB, gL_sAf, gL_sBf, gA_sI, gA_sL, gA_sA, gA_sB, gA_sAf, gA_sBf, gB_sI, gB_sL, gB_sA, gB_sB, gB_sAf, gB_sBf, Nat.reduceEqDiff, Nat.reduceMul, Nat.reduceAdd, false_and, true_and, and_true, and_false, if_true, if_false]
  refine ⟨fun f i q => ?_, ?_, h3, fun a i j q => ?_, h5, ?_⟩
  · rw [ec] at q
    rw [gI_sI, gI_sI, h1 f i q]
  · rw [ec, ef]
    simp only [t_frames, gI_sI, gI_sL, gI_sA, gI_sB, gI_sAf, gI_sBf, gL_sI, gL_sL, gL_sA, gL_sB, gL_sAf, gL_sBf, gA_sI, gA_sL, gA_sA, gA_sB, gA_sAf, gA_sBf, gB_sI, gB_sL, gB_sA, gB_sB, gB_sAf, gB_sBf, Nat.reduceEqDiff, Nat.reduceMul, Nat.reduceAdd, false_and, true_and, and_true, and_false, if_true, if_false]
    exact h2
  · rw [ec, ef] at q
    exact h4 a i j q
  · rw [ec, ef]
    exact ⟨h6, h7, h8, h9, h10, h11⟩
theorem enter_tw {v z : S1} {x b e : Int32} (h : GG v) (ht : 0 ≤ cu v ∧ cu v < 33) (hp : 0 ≤ t_place v (cu v)) (hn : t_frames v (cu v) ≠ 200) (hx : Lv false v x 6) (hf : 0 ≤ a_first v x ∧ a_first v x < 251) (he : 0 ≤ e ∧ e ≤ b ∧ b ≤ 4000) (hr : 0 ≤ a_registers v (a_first v x) ∧ a_registers v (a_first v x) ≤ 255 ∧ b + a_registers v (a_first v x) ≤ 4000) (hv : ∀ i, b - e ≤ i → i < b - e + (a_registers v (a_first v x) + e) → Vl false v (v_stack_k v (cu v) i) (v_stack_v v (cu v) i)) (hs : Pw v z x b e) : Tw2 v z (cu v) := by
  obtain ⟨⟨q1, q2, q3, q4⟩, p1, p2, p3⟩ := h.thr ht hp
  obtain ⟨n1, n2, n3, n4, n5⟩ := ph_num q2 hn
  obtain ⟨k1, k2, k3, k4, k5, k6⟩ := hs.2.2.2.2.2
  have ef : a_first z x = a_first v x := hs.A 62 (by decide) 0 x
  have er : ∀ p, a_registers z p = a_registers v p := fun p => hs.A 44 (by decide) 0 p
  refine ⟨fun f i q => ?_, hs.2.2.1, fun a i j q => ?_, fun a i j _ => hs.B a i j, ⟨?_, ?_, ?_, fun g a b => ?_⟩, ?_, fun g a b => ?_, ?_⟩
  · rcases q with q | q
    · exact hs.I f q.2 i
    · exact hs.1 f i (Or.inr q)
  · rcases q with q | q
    · exact hs.A a ⟨q.2.1, q.2.2.1, q.2.2.2.1, q.2.2.2.2.1, q.2.2.2.2.2.1, q.2.2.2.2.2.2.2.1, q.2.2.2.2.2.2.2.2.1⟩ i j
    · exact hs.2.2.2.1 a i j (Or.inr (Or.inl q))
  · simp only [v_start_n, hs.I 3202 (by decide)]
    exact q1
  · rw [hs.2.1]
    exact n1
  · simp only [t_openCount, hs.I 3587 (by decide)]
    exact q3
  · rw [hs.2.1] at b
    rcases n4 g b with e' | ⟨e', e2⟩
    · intro _
      rw [e', k2, k4, k5, k6, ef, er]
      exact ⟨⟨hx.1, Int32.lt_trans (Int32.lt_of_lt_of_le hx.2.1 h.used.2) (by decide)⟩, hf, he, hr, by decide, by decide⟩
    · have w := q4 g a e2
      have r := fun a => hs.F (t := cu v) (Or.inr e') a
      unfold FrS at *
      simp only [t_kind, t_function, t_extra, t_base, t_rowCount, a_first, a_registers, r, hs.A 62 (by decide), hs.A 44 (by decide)] at *
      exact w
  · simp only [Vl.pw hs]
    simp only [v_start_n, v_start_k, v_start_v, hs.I 3202 (by decide), hs.A 26 (by decide), hs.B 27]
    exact p1
  · rw [hs.2.1] at b
    rcases n4 g b with e' | ⟨e', e2⟩
    · unfold FrV
      rw [e', k2, k4, k5, k6, ef, er, Lv.pw hs]
      refine ⟨fun _ => hx, fun _ => ⟨fun i i1 i2 => ?_, fun _ i i1 i2 => absurd (Int32.lt_of_le_of_lt i1 i2) (by decide)⟩⟩
      rw [Vl.pw hs]
      simp only [v_stack_k, v_stack_v, hs.A 20 (by decide), hs.B 21]
      exact hv i i1 i2
    · have w := p2 g a e2
      have r := fun a => hs.F (t := cu v) (Or.inr e') a
      unfold FrV at *
      rw [hs.2.1]
      simp only [Vl.pw hs, Lv.pw hs]
      simp only [t_kind, t_function, t_extra, t_base, t_rowCount, a_first, a_registers, v_stack_k, v_stack_v, v_row_k, v_row_v, r, hs.A 62 (by decide), hs.A 44 (by decide), hs.A 20 (by decide), hs.A 23 (by decide), hs.B 21, hs.B 24] at *
      refine ⟨w.1, fun z => ⟨(w.2 z).1, fun y => ?_⟩⟩
      exact absurd y (n5 g e2)
  · simp only [Lv.pw hs]
    simp only [t_openCount, t_open, hs.I 3587 (by decide), hs.A 29 (by decide)]
    exact p3
theorem enter_out {v z : S1} {x b e : Int32} (h : RI true v) (hh : v_hand_n v = 0) (htd : f_todo v = 0 ∨ f_todo v = 3 ∨ f_todo v = 4) (hn : t_frames v (cu v) ≠ 200) (hx : Lv false v x 6) (hf : 0 ≤ a_first v x ∧ a_first v x < f_protos v) (he : 0 ≤ e ∧ e ≤ b ∧ b ≤ 4000) (he2 : e ≤ 250) (hr : b + a_registers v (a_first v x) ≤ 4000) (hv : ∀ i, b - e ≤ i → i < b - e + (a_registers v (a_first v x) + e) → Vl false v (v_stack_k v (cu v) i) (v_stack_v v (cu v) i)) (hs : Pw v z x b e) : Out z := by
  have h0 := h
  obtain ⟨hg, hz, h1, h2, h3, h4⟩ := h
  have hc := h3.1
  have hpl : 0 ≤ t_place v (cu v) := h3.2.2.2.2.2.2.2.2.1 0 hc.1
  obtain ⟨⟨q1, q2, q3, q4⟩, -⟩ := hg.thr hc hpl
  obtain ⟨n1, n2, n3, n4, n5⟩ := ph_num q2 hn
  obtain ⟨k1, k2, k3, k4, k5, k6⟩ := hs.2.2.2.2.2
  have pp := h1.2.2 _ hf.1 hf.2
  have f251 : a_first v x < 251 := Int32.lt_of_lt_of_le hf.2 (Int32.le_trans h1.1.2 (by decide))
  have g := hg.th (enter_tw hg hc hpl hn hx ⟨hf.1, f251⟩ he ⟨Int32.le_of_lt (Int32.lt_trans (by decide) pp.2.1.1), Int32.le_trans (Int32.le_of_lt pp.2.1.2) (by decide), hr⟩ hv hs)
  have hch : ∀ n, chN z n = chN v n := fun n => chN_I (hs.I 72 (by decide) 0) (fun i => hs.I 3590 (by decide) i) n
  have fl : ∀ x, FL z x ↔ FL v x := fun x => by
    unfold FL
    rw [Lv.pw hs]
    simp only [a_fixed, hs.A 60 (by decide)]
  have ecu : cu z = cu v := hs.I 72 (by decide) 0
  have etp : tp z = t_frames v (cu v) := by
    show t_frames z (cu z) - 1 = _
    rw [ecu, hs.2.1, n3]
  have epq : pq z = a_first v x := by
    show a_first z (t_function z (cu z) (tp z)) = _
    rw [ecu, etp, k2]
    exact hs.A 62 (by decide) 0 x
  have pg : Pg z := by
    unfold Pg Pp Wf Wn Gs Rr Rq at *
    simp only [wd, f_protos, f_constCount, a_params, a_registers, a_upvalues, a_upAt, a_constAt, a_consts, a_codeAt, a_codes, a_childAt, a_children, a_child, a_ups, a_code, hs.I 23 (by decide), hs.I 25 (by decide), hs.A 42 (by decide), hs.A 43 (by decide), hs.A 44 (by decide), hs.A 45 (by decide), hs.A 46 (by decide), hs.A 47 (by decide), hs.A 48 (by decide), hs.A 49 (by decide), hs.A 50 (by decide), hs.A 51 (by decide), hs.A 52 (by decide), hs.A 53 (by decide), hs.A 54 (by decide), hs.A 55 (by decide)] at *
    exact h1
  have fr : Fr false z := by
    refine ⟨pg, ?_, ?_, fun t a b c f d e => ?_⟩
    · unfold Fx4 Kc at *
      simp only [fl]
      simp only [f_constCount, a_event, a_kindName, a_stateName, v_constants_k, v_constants_v, hs.I 25 (by decide), hs.A 2 (by decide), hs.A 82 (by decide), hs.A 83 (by decide), hs.A 84 (by decide), hs.B 3] at *
      exact h2
    · obtain ⟨t1, t2, t3, t4, t5, t6, t7, t8, t9, t10, t11⟩ := h3
      unfold Ths
      simp only [hch]
      simp only [f_current, t_state, t_resumer, t_begun, v_start_n, t_place, hs.I 72 (by decide), hs.I 3585 (by decide), hs.I 3590 (by decide), hs.I 3589 (by decide), hs.I 3202 (by decide), hs.I 3584 (by decide)]
      refine ⟨t1, t2, t3, fun n n1 n2 => ?_, t5, t6, t7, t8, t9, t10, t11⟩
      have ne := chN_ne hg hz n1 n2
      have ef : t_frames z (chN v n) = t_frames v (chN v n) := hs.1 3586 _ (Or.inr ne)
      have ek : ∀ j, t_kind z (chN v n) j = t_kind v (chN v n) j := fun j => hs.F (Or.inl ne) 30
      rw [ef, ek]
      exact t4 n n1 n2
    · have c' : 0 ≤ t_place v t := by
        have w : t_place z t = t_place v t := hs.I 3584 (by decide) t
        rw [← w]
        exact c
      have key : f < t_frames v t → (t ≠ cu v ∨ f ≠ t_frames v (cu v)) → Fi false z t f := fun w q => by
        have kk := h4 t a b c' f d w
        have k' : (0 ≤ t_kind v t f ∧ t_kind v t f ≤ 4) ∧ (t_kind v t f = 0 → t_extra v t f ≤ 250 ∧ ((0 ≤ t_pc v t f ∧ t_pc v t f < a_codes v (pf v t f)) ∧ Wt v t f)) := ⟨kk.1, fun z => ⟨(kk.2 z).1, (kk.2 z).2 (Or.inr (Or.inr rfl))⟩⟩
        clear kk
        have r := fun a => hs.F q a
        unfold Fi Wt mks us Gs pf at *
        simp only [wd, t_kind, t_extra, t_pc, t_rowCount, t_mode, t_want, t_into, t_step, t_function, a_first, a_codes, a_registers, a_codeAt, a_code, r, hs.A 62 (by decide), hs.A 50 (by decide), hs.A 44 (by decide), hs.A 49 (by decide), hs.A 55 (by decide)] at *
        exact ⟨k'.1, fun z => ⟨(k'.2 z).1, fun _ => (k'.2 z).2⟩⟩
      by_cases g : t = cu v
      · subst g
        rw [hs.2.1] at e
        rcases n4 f e with e' | ⟨e', e2⟩
        · unfold Fi
          rw [e', k1, k5, hs.2.1, n3]
          have ecu' : f_current z = cu v := ecu
          refine ⟨⟨by decide, by decide⟩, fun _ => ⟨he2, fun w => ?_⟩⟩
          rcases w with w | w | w
          · exact absurd w Int32.lt_irrefl
          · exact absurd ecu'.symm w
          · cases w
        · exact key e2 (Or.inr e')
      · have ef : t_frames z t = t_frames v t := hs.1 3586 t (Or.inr g)
        rw [ef] at e
        exact key e (Or.inl g)
  have e73 : f_todo z = f_todo v := hs.I 73 (by decide) 0
  refine ⟨g, (hs.I 92 (by decide) 0).trans hz, (hs.I 2050 (by decide) 0).trans hh, ?_⟩
  by_cases hq : f_todo v = 0
  case neg => exact Or.inr (Or.inl ⟨by rw [e73]; exact htd.resolve_left hq, fr⟩)
  refine Or.inl ⟨e73.trans hq, fr, ?_⟩
  have wf := pp.2.2.2.2.2.2.2.1 0 (by decide) pp.2.2.2.2.2.1.2.1
  have no : ¬ us (wd z (a_first v x) 0) := fun w => by
    have ew : wd z (a_first v x) 0 = wd v (a_first v x) 0 := by
      show gA z 55 0 (gA z 49 0 (a_first v x) + 0) = gA v 55 0 (gA v 49 0 (a_first v x) + 0)
      rw [hs.A 49 (by decide), hs.A 55 (by decide)]
    rw [ew] at w
    exact (wf.2.2.1 w).1 rfl
  have ec : a_codes z (a_first v x) = a_codes v (a_first v x) := hs.A 50 (by decide) 0 _
  unfold Run
  rw [epq, ecu, etp, k1, k3, k6, ec]
  exact ⟨n2.1, rfl, ⟨by decide, pp.2.2.2.2.2.1.2.1⟩, fun w => absurd rfl w, fun w => absurd w no⟩
