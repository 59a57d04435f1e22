/-! A method's call, joining strings. -/
theorem td_out {s : S1} {i : Int32} (h : RI false s) (ht : Tf s i) (hp : Pl s i) (hh : v_hand_n s = 0) (hd : f_todo s = 0 ∨ f_todo s = 3 ∨ f_todo s = 4) : Out s := by
  rcases hd with d | d
  · have ic : Ic s i := ⟨h, ht, d, hh⟩
    exact ic.done hp.1 hp.2.1 hp.2.2
  · exact ⟨h.1, h.2.1, hh, Or.inr (Or.inl ⟨d, h.2.2⟩)⟩
theorem a1_num {a r : Int32} (ha : 0 ≤ a ∧ a ≤ 255) (h : a + 1 < r) (hr : r < 251) : a < r ∧ 0 ≤ a + 1 := by grind
theorem self_ok (s : S1) (i : Int32) (h : Ic s i) (ho : iO (wd s (pq s) i) = 12) : ok (M_Mo_self (cu s) (tp s) (pq s) (wd s (pq s) i) 19 (cu s) (bs s + iA (wd s (pq s) i))) s (fun _ s' => Out s') := by
  obtain ⟨w0, w1, w3, w4, w5, w6, w7, w8, w10, w11, w12, -⟩ := Wn.all h
  obtain ⟨q1, q2, q3⟩ := w12 ho
  have n := top_num h.1 h.2.1.1 h.2.1.2.1
  obtain ⟨t1, t2, t3, t4, t5, t6, t7, t8, t9, t10, t11, -⟩ := h.1.top h.2.1.1 h.2.1.2.1
  have hp : Pl s i := Pl.op (by rw [ho]; decide)
  have aa := iA_in (wd s (pq s) i)
  have b0 := (iB_in (wd s (pq s) i)).1
  obtain ⟨x1, x2⟩ := t11 _ b0 q2
  have x3 : 0 ≤ bs s + iB (wd s (pq s) i) ∧ bs s + iB (wd s (pq s) i) < 4300 := ⟨x1.1, Int32.lt_trans x1.2 (by decide)⟩
  have na := a1_num aa q1 t7.2.1.2
  have ea : bs s + iA (wd s (pq s) i) + 1 = bs s + (iA (wd s (pq s) i) + 1) := Int32.add_assoc _ _ _
  simp only [M_Mo_self, M_Mo_b, M_Mo_c, M_Mo_a, ok_B, ok_C, ok_R, ok_L, ok_K, ok_GI, ok_GL, ok_PI, ok_PL, ok_AI, ok_AL, ok_SI, ok_SL, ok_Pr, ok_CI, cmp_lt, cmp_le, cmp_gt, cmp_ge, cmp_eq, nar0, nar1, Sum.elim_inl, Sum.elim_inr]
  rw [ea]
  refine ⟨n.2.2, x3, n.2.2, x3, ok_mono (h.set (r := iA (wd s (pq s) i) + 1) ⟨na.2, q1⟩ x2) fun _ s1 ⟨i1, ss, e2, e3, e4, e5, e6⟩ => ?_⟩
  have q3' : Rq s1 (pq s1) (iC (wd s (pq s) i)) := by
    unfold Rq at *
    rw [e3]
    simp only [a_registers, a_consts, ss.A 44 (by decide), ss.A 48 (by decide)] at *
    exact q3
  have w := rk_ok s1 i _ i1 (iC_in _).1 q3'
  rw [e4, e5, e3] at w
  refine ok_mono w fun _ s2 ⟨k, v, es, hv⟩ => ?_
  have r1 : Rf s1 s2 := ⟨k, v, es⟩
  obtain ⟨c1, c2, c3, c4, c5, c6, c7, c8⟩ := r1.same
  have g98 : gI s2 98 0 = k ∧ gL s2 99 0 = v := by
    rw [es]
    simp only [gI_sI, gI_sL, gI_sA, gI_sB, gI_sAf, gI_sBf, gL_sI, gL_sL, gL_sA, gL_sB, gL_sAf, gL_sBf, gA_sI, gA_sL, gA_sA, gA_sB, gA_sAf, gA_sBf, gB_sI, gB_sL, gB_sA, gB_sB, gB_sAf, gB_sBf, Nat.reduceEqDiff, Nat.reduceMul, Nat.reduceAdd, false_and, true_and, and_true, and_false, if_true, if_false]
  rw [g98.1, g98.2]
  have p2 := (hp.of e3 e2).of c3 c5
  exact index_ok s2 i _ k _ _ v (r1.ic i1) ((Vl.hs r1.hs).mpr ((Vl.ss ss).mpr x2)) ((Vl.hs r1.hs).mpr hv) ⟨aa.1, by rw [c3, c6, e3]; show _ < gA s1 44 0 _; rw [ss.A 44 (by decide)]; exact na.1⟩ p2.1 p2.2.1 p2.2.2
/-- what joining leaves of frames -/
def Jn (s s' : S1) (n : Int32) : Prop := (∀ t, t_frames s' t = t_frames s t ∧ t_resumer s' t = t_resumer s t) ∧ (∀ t f, t_kind s' t f = t_kind s t f) ∧ (∀ t f, ¬ (t = cu s ∧ f = tp s) → t_mode s' t f = t_mode s t f ∧ t_step s' t f = t_step s t f) ∧ cu s' = cu s ∧ ((t_mode s' (cu s) (tp s) = t_mode s (cu s) (tp s) ∧ t_step s' (cu s) (tp s) = t_step s (cu s) (tp s)) ∨ (0 ≤ t_step s' (cu s) (tp s) ∧ t_step s' (cu s) (tp s) ≤ n)) ∧ (f_todo s' = 1 → 0 ≤ t_step s' (cu s) (tp s) ∧ t_step s' (cu s) (tp s) ≤ n) ∧ f_todo s' ≠ 2
theorem Jn.fs {s s' : S1} {n : Int32} (h : Fs s s') (ht : f_todo s' ≠ 1 ∧ f_todo s' ≠ 2) : Jn s s' n := ⟨fun t => ⟨h.I 3586 (by decide) t, h.I 3590 (by decide) t⟩, fun t f => h.A 30 (by decide) t f, fun t f _ => ⟨h.A 37 (by decide) t f, h.A 40 (by decide) t f⟩, h.I 72 (by decide) 0, Or.inl ⟨h.A 37 (by decide) _ _, h.A 40 (by decide) _ _⟩, fun z => absurd z ht.1, ht.2⟩
theorem Ec.refl (s : S1) : Ec s s (t_mode s (cu s) (tp s)) (t_into s (cu s) (tp s)) (t_want s (cu s) (tp s)) := ⟨fun _ _ _ => rfl, fun _ _ _ _ _ => rfl, fun _ _ => rfl, rfl, rfl, rfl⟩
/-- two values are told one behind the other, and the string is found or made -/
theorem cat_ok (s1 : S1) (i lk k n1 n2 c f w b idx : Int32) (lv v : Int64) (h : Ic s1 i) (hp : Pl s1 i) (hl : Vl false s1 lk lv) (hv : Vl false s1 k v) (z1 : 0 ≤ n1.toInt ∧ n1.toInt ≤ 266667 ∧ q_sz s1 lk lv ≤ n1.toInt + 1) (z2 : 0 ≤ n2.toInt ∧ n2.toInt ≤ 266667 ∧ q_sz s1 k v ≤ n2.toInt + 1)
    (e0 : gI s1 96 0 = 0) (zz : 0 ≤ q_sz s1 lk lv ∧ 0 ≤ q_sz s1 k v) :
    ok (M_Mo_join_j158 c f w b k v idx lk lv n2 n1) s1 (fun y s' => Sum.elim (fun z => Ic s' i ∧ Rx s1 s' ∧ ∃ x, z = (c, f, w, b, 4, x, idx + (-1)) ∧ Vl false s' 4 x) (fun e => Sum.elim (fun _ => Ic s' i ∧ Rx s1 s') (fun e2 => Out s' ∧ Rx s1 s' ∧ (f_todo s' ≠ 1 ∧ f_todo s' ≠ 2) ∧ e2 = Sum.inl ()) e) y) := by
  have k0 : (0 : Int32).toInt = 0 := rfl
  have k4 : (266740 : Int32).toInt = 266740 := rfl
  have k6 : (266667 : Int32).toInt = 266667 := rfl
  have ys := tI_add (a := n1) (b := n2) (by omega)
  have b0 : (f_builtSize s1).toInt = 0 := by
    show (gI s1 96 0).toInt = 0
    rw [e0, k0]
  simp only [M_Mo_join_j158, ok_B, ok_C, ok_R, ok_L, ok_K, ok_GI, ok_GL, ok_PI, ok_PL, ok_AI, ok_AL, ok_SI, ok_SL, ok_Pr, ok_CI, cmp_lt, cmp_le, cmp_gt, cmp_ge, cmp_eq, nar0, nar1, Sum.elim_inl, Sum.elim_inr]
  refine ⟨fun hle => ?_, fun _ => ⟨h, Rx.refl h.1.1 h.1.2.1⟩⟩
  rw [i32_le, ys, k4] at hle
  refine ok_mono (sayValue_ok s1 lk lv h.1.1 hl ⟨by omega, by omega⟩) fun _ s2 sy1 => ?_
  have g2 := h.1.1.hx sy1.hx
  have b1 := sy1.2.2.2.2
  have es : q_sz s2 k v = q_sz s1 k v := by
    unfold q_sz
    simp only [a_second, sy1.2.2.1 63 0 _ (by decide) (by decide)]
  refine ok_mono (sayValue_ok s2 k v g2 ((Vl.hs sy1.hs).mpr hv) ⟨by omega, by rw [es]; omega⟩) fun _ s3 sy2 => ?_
  rw [es] at sy2
  have sy := sy1.trans sy2
  have b2 := sy.2.2.2.2
  have rx3 := Rx.hx h.1.1 sy.hx sy.hy h.1.2.1
  have i3 := h.rx rx3 (sy.1 73 0 (by decide)) (sy.1 2050 0 (by decide))
  have hv3 := (Vl.hs sy.hs).mpr hv
  have hn3 : gI s3 2050 0 = 0 := i3.2.2.2
  rw [hn3]
  have hn3' : v_hand_n s3 = 0 := hn3
  refine ok_mono (handAdd_ok s3 k v i3.1.1 (by rw [hn3']; decide) (Or.inl hv3) hv3.kind) fun _ s4 ⟨nx4, es4⟩ => ?_
  rw [hn3'] at es4
  have e96 : gI s4 96 0 = gI s3 96 0 := by
    rw [es4]
    simp only [gI_sI, gI_sL, gI_sA, gI_sB, gI_sAf, gI_sBf, gL_sI, gL_sL, gL_sA, gL_sB, gL_sAf, gL_sBf, gA_sI, gA_sL, gA_sA, gA_sB, gA_sAf, gA_sBf, gB_sI, gB_sL, gB_sA, gB_sB, gB_sAf, gB_sBf, Nat.reduceEqDiff, Nat.reduceMul, Nat.reduceAdd, false_and, true_and, and_true, and_false, if_true, if_false]
  have e73 : gI s4 73 0 = gI s3 73 0 := by
    rw [es4]
    simp only [gI_sI, gI_sL, gI_sA, gI_sB, gI_sAf, gI_sBf, gL_sI, gL_sL, gL_sA, gL_sB, gL_sAf, gL_sBf, gA_sI, gA_sL, gA_sA, gA_sB, gA_sAf, gA_sBf, gB_sI, gB_sL, gB_sA, gB_sB, gB_sAf, gB_sBf, Nat.reduceEqDiff, Nat.reduceMul, Nat.reduceAdd, false_and, true_and, and_true, and_false, if_true, if_false]
  have e50 : gI s4 2050 0 = 0 + 1 := by
    rw [es4]
    simp only [gI_sI, gI_sL, gI_sA, gI_sB, gI_sAf, gI_sBf, gL_sI, gL_sL, gL_sA, gL_sB, gL_sAf, gL_sBf, gA_sI, gA_sL, gA_sA, gA_sB, gA_sAf, gA_sBf, gB_sI, gB_sL, gB_sA, gB_sB, gB_sAf, gB_sBf, Nat.reduceEqDiff, Nat.reduceMul, Nat.reduceAdd, false_and, true_and, and_true, and_false, if_true, if_false]
  rw [e96]
  have rx4 := nx4.rx i3.1.2.1
  have r4 := i3.1.rx rx4
  have t4 := i3.2.1.rx i3.1 rx4
  have rx14 := rx3.trans rx4
  clear es4
  -- what comes behind
  have fin : ∀ s5 x, Nx s4 s5 → gI s5 2050 0 = 0 + 1 → (x < 0 → f_todo s5 = 0 ∨ f_todo s5 = 3 ∨ f_todo s5 = 4) → (¬ x < 0 → f_todo s5 = 0 ∧ Lv false s5 x 4) → ok (M_Mo_join_j245 c f w b idx 0 x) s5 (fun y s' => Sum.elim (fun z => Ic s' i ∧ Rx s1 s' ∧ ∃ x, z = (c, f, w, b, 4, x, idx + (-1)) ∧ Vl false s' 4 x) (fun e => Sum.elim (fun _ => Ic s' i ∧ Rx s1 s') (fun e2 => Out s' ∧ Rx s1 s' ∧ (f_todo s' ≠ 1 ∧ f_todo s' ≠ 2) ∧ e2 = Sum.inl ()) e) y) := fun s5 x nx5 h50 hx0 hx1 => by
    have rx5 := nx5.rx r4.2.1
    have r5 := r4.rx rx5
    have t5 := t4.rx r4 rx5
    have nx6 := Nx.handN r5.1 (n := 0) ⟨by decide, by show (0 : Int32) ≤ gI s5 2050 0; rw [h50]; decide⟩
    have rx6 := nx6.rx r5.2.1
    have r6 := r5.rx rx6
    have t6 := t5.rx r5 rx6
    have rx16 := rx14.trans (rx5.trans rx6)
    have h6 : v_hand_n (sI s5 2050 0 0) = 0 := by simp only [v_hand_n, gI_sI, gI_sL, gI_sA, gI_sB, gI_sAf, gI_sBf, gL_sI, gL_sL, gL_sA, gL_sB, gL_sAf, gL_sBf, gA_sI, gA_sL, gA_sA, gA_sB, gA_sAf, gA_sBf, gB_sI, gB_sL, gB_sA, gB_sB, gB_sAf, gB_sBf, Nat.reduceEqDiff, Nat.reduceMul, Nat.reduceAdd, false_and, true_and, and_true, and_false, if_true, if_false]
    have d6 : f_todo (sI s5 2050 0 0) = f_todo s5 := by simp only [f_todo, gI_sI, gI_sL, gI_sA, gI_sB, gI_sAf, gI_sBf, gL_sI, gL_sL, gL_sA, gL_sB, gL_sAf, gL_sBf, gA_sI, gA_sL, gA_sA, gA_sB, gA_sAf, gA_sBf, gB_sI, gB_sL, gB_sA, gB_sB, gB_sAf, gB_sBf, Nat.reduceEqDiff, Nat.reduceMul, Nat.reduceAdd, false_and, true_and, and_true, and_false, if_true, if_false]
    have l6 : ∀ q, Lv false s5 q 4 → Lv false (sI s5 2050 0 0) q 4 := fun q z => by
      unfold Lv at *
      simp only [f_used, a_sort, gI_sI, gI_sL, gI_sA, gI_sB, gI_sAf, gI_sBf, gL_sI, gL_sL, gL_sA, gL_sB, gL_sAf, gL_sBf, gA_sI, gA_sL, gA_sA, gA_sB, gA_sAf, gA_sBf, gB_sI, gB_sL, gB_sA, gB_sB, gB_sAf, gB_sBf, Nat.reduceEqDiff, Nat.reduceMul, Nat.reduceAdd, false_and, true_and, and_true, and_false, if_true, if_false] at *
      exact z
    obtain ⟨d1, d2, d3, d4⟩ := rx16.same h.1 h.2.1.1 h.2.1.2.1
    have p6 := hp.of d3 rx16.wd
    simp only [M_Mo_join_j245, ok_B, ok_C, ok_R, ok_L, ok_K, ok_GI, ok_GL, ok_PI, ok_PL, ok_AI, ok_AL, ok_SI, ok_SL, ok_Pr, ok_CI, cmp_lt, cmp_le, cmp_gt, cmp_ge, cmp_eq, nar0, nar1, Sum.elim_inl, Sum.elim_inr]
    generalize sI s5 2050 0 0 = s6 at *
    refine ⟨fun c => ?_, fun c => ?_⟩
    · obtain ⟨q1, q2⟩ := hx1 (Int32.not_lt.mpr c)
      exact ⟨⟨r6, t6, d6.trans q1, h6⟩, rx16, x.toInt64, rfl, Vl.of (l6 x q2) ⟨by decide, by decide⟩ r6.1.used.2⟩
    · have q := hx0 (Int32.not_le.mp c)
      refine ⟨td_out r6 t6 p6 h6 (by rw [d6]; exact q), rx16, ?_, by trivial⟩
      rw [d6]
      rcases q with q | q | q <;> rw [q] <;> decide
  have e73' : f_todo s4 = 0 := e73.trans i3.2.2.1
  refine ⟨fun hc => ?_, fun hc => ?_⟩
  · have hc' := hc
    rw [i32_le, k6] at hc'
    have bb : (0 : Int) ≤ (gI s3 96 0).toInt := by
      have : (f_builtSize s3).toInt = (gI s3 96 0).toInt := rfl
      omega
    have n0 : 0 ≤ gI s3 96 0 := by
      rw [i32_le, k0]
      exact bb
    have l0 : (0 : Int32) + gI s3 96 0 ≤ lnI 87 := by
      rw [Int32.zero_add]
      exact Int32.le_trans hc (by decide)
    refine ok_mono (string_x s4 87 0 0 (gI s3 96 0) r4.1 rfl ⟨by decide, by decide⟩ ⟨by decide, by decide⟩ ⟨n0, Int32.le_trans hc (by decide)⟩ hc l0 (by decide) (by decide)) fun x s5 hd => ?_
    rcases hd with hd | ⟨es, hl⟩
    · have nx5 := Nx.mdx r4.1 hd
      rcases hd.2 with ⟨e, q, ql⟩ | ⟨s0, q0, q1, q2, q3, q4, q5⟩
      · refine fin s5 x nx5 ((q.I 2050 (by decide) 0).trans e50) (fun _ => ?_) (fun z => absurd (by rw [e]; decide) z)
        rcases ql.1 with u | u
        · exact Or.inl (u.trans e73')
        · exact Or.inr u
      · refine fin s5 x nx5 ((q3.I 2050 (by decide) 0).trans ((q1.I 2050 (by decide) 0).trans e50)) (fun z => absurd (Int32.lt_of_le_of_lt q3.1.1 z) Int32.lt_irrefl) (fun _ => ⟨?_, q5⟩)
        exact (q3.I 73 (by decide) 0).trans ((q1.I 73 (by decide) 0).trans e73')
    · subst es
      exact fin s5 x (Nx.refl r4.1) e50 (fun z => absurd (Int32.lt_of_le_of_lt hl.1 z) Int32.lt_irrefl) (fun _ => ⟨e73', hl⟩)
  · refine ok_mono (q_raise_ok s4 11) fun x s5 ⟨ex, es⟩ => ?_
    subst ex es
    refine fin _ _ (Nx.raise r4.1 11 _ (by decide)) ?_ (fun _ => Or.inr (Or.inr ?_)) (fun z => absurd (by decide) z)
    · simp only [gI_sI, gI_sL, gI_sA, gI_sB, gI_sAf, gI_sBf, gL_sI, gL_sL, gL_sA, gL_sB, gL_sAf, gL_sBf, gA_sI, gA_sL, gA_sA, gA_sB, gA_sAf, gA_sBf, gB_sI, gB_sL, gB_sA, gB_sB, gB_sAf, gB_sBf, Nat.reduceEqDiff, Nat.reduceMul, Nat.reduceAdd, false_and, true_and, and_true, and_false, if_true, if_false]
      exact e50
    · simp only [f_todo, gI_sI, gI_sL, gI_sA, gI_sB, gI_sAf, gI_sBf, gL_sI, gL_sL, gL_sA, gL_sB, gL_sAf, gL_sBf, gA_sI, gA_sL, gA_sA, gA_sB, gA_sAf, gA_sBf, gB_sI, gB_sL, gB_sA, gB_sB, gB_sAf, gB_sBf, Nat.reduceEqDiff, Nat.reduceMul, Nat.reduceAdd, false_and, true_and, and_true, and_false, if_true, if_false]
theorem sz_num {s : S1} {k : Int32} {v : Int64} (h : GG s) (hv : Vl false s k v) (hk : k = 4 ∨ k = 3) : (k = 4 → (0 ≤ v.toInt32 ∧ v.toInt32 < 4100) ∧ 0 ≤ (a_second s v.toInt32).toInt ∧ (a_second s v.toInt32).toInt ≤ 266667 ∧ q_sz s k v ≤ (a_second s v.toInt32).toInt + 1) ∧ (k ≠ 4 → q_sz s k v ≤ (20 : Int32).toInt + 1) ∧ 0 ≤ q_sz s k v := by
  have k0 : (0 : Int32).toInt = 0 := rfl
  have k2 : (20 : Int32).toInt = 20 := rfl
  have k6 : (266667 : Int32).toInt = 266667 := rfl
  unfold q_sz
  by_cases c : k = 4
  · have hl : Lv false s v.toInt32 4 := by
      have := hv.lv5 (Or.inl c)
      rw [c] at this
      exact this
    obtain ⟨x1, x2, x3, x4⟩ := str_in h hl
    have y := (h.2.1.2.2.2.2 _ hl.1 hl.2.1 hl.2.2.1).2
    rw [i32_le, k6] at y
    have x5 := x2.1
    rw [i32_le, k0] at x5
    rw [if_pos c]
    exact ⟨fun _ => ⟨x4, x5, y, by omega⟩, fun z => absurd c z, x5⟩
  · have c3 : k = 3 := by
      rcases hk with e | e
      · exact absurd e c
      · exact e
    rw [if_neg c, if_pos c3, k2]
    exact ⟨fun z => absurd z c, fun _ => by omega, by omega⟩
theorem sub_one {a i : Int32} : a + (i + 1) - 1 = a + i := by grind
theorem join_num {b c idx nx : Int32} (bb : 0 ≤ b ∧ b ≤ 511) (cc : 0 ≤ c ∧ c ≤ 511) (x1 : -1 ≤ idx) (x2 : idx ≤ nx) (hn : nx < c) (d : ¬ idx < b) : 0 ≤ idx ∧ idx < c ∧ b ≤ idx ∧ (idx + (-1) + 1).toNatClampNeg < (idx + 1).toNatClampNeg ∧ -1 ≤ idx + (-1) ∧ idx + (-1) ≤ nx := by
  refine ⟨by grind, by grind, by grind, clamp_lt (by grind) (by grind), by grind, by grind⟩
theorem join_ok (s : S1) (i nx k : Int32) (v : Int64) (h : Ic s i) (ho : iO (wd s (pq s) i) = 29) (hv : Vl false s k v) (hn : -1 ≤ nx ∧ nx < iC (wd s (pq s) i)) : ok (M_Mo_join (cu s) (tp s) nx k v) s (fun _ s' => Out s' ∧ Jn s s' nx) := by
  obtain ⟨w0, w1, w3, w4, w5, w6, w7, w8, w10, w11, w12, w13, w29, -⟩ := Wn.all h
  obtain ⟨q1, q2, q3⟩ := w29 ho
  have n := top_num h.1 h.2.1.1 h.2.1.2.1
  obtain ⟨t1, t2, t3, t4, t5, t6, t7, t8, t9, t10, t11, -⟩ := h.1.top h.2.1.1 h.2.1.2.1
  have hp : Pl s i := Pl.op (by rw [ho]; decide)
  have aa := iA_in (wd s (pq s) i)
  have bb := iB_in (wd s (pq s) i)
  have cc := iC_in (wd s (pq s) i)
  have pr := t7.2.2.2.2.2.1
  have wb := add_in (a := a_codeAt s (pq s)) (i := i) (n := a_codes s (pq s)) (L := 20000) ⟨pr.1, Int32.le_trans pr.2.2.1 (by decide)⟩ h.2.1.2.2.2.1.1 h.2.1.2.2.2.1.2 (Int32.le_trans pr.2.2.2.1 (by decide)) pr.2.2.2.2
  have pb : 0 ≤ pq s ∧ pq s < 251 := ⟨t6.1, Int32.lt_of_lt_of_le t6.2 (Int32.le_trans h.1.2.2.1.1.2 (by decide))⟩
  simp only [M_Mo_join, M_Mo_a, ok_B, ok_C, ok_R, ok_L, ok_K, ok_GI, ok_GL, ok_PI, ok_PL, ok_AI, ok_AL, ok_SI, ok_SL, ok_Pr, ok_CI, cmp_lt, cmp_le, cmp_gt, cmp_ge, cmp_eq, nar0, nar1, Sum.elim_inl, Sum.elim_inr, pc_in h, sub_one]
  refine ⟨n.2.2, t5, pb, n.2.2, ⟨wb.1, Int32.lt_trans wb.2 (by decide)⟩, n.2.2, ?_⟩
  refine ok_mono (ok_W (Q := fun y s' => Rx s s' ∧ Sum.elim (fun _ => Ic s' i) (Sum.elim (fun _ => Out s' ∧ (f_todo s' ≠ 1 ∧ f_todo s' ≠ 2)) (Sum.elim (fun z => Ic s' i ∧ (z.1 = cu s ∧ z.2.1 = tp s ∧ z.2.2.1 = wd s (pq s) i) ∧ (iB (wd s (pq s) i) ≤ z.2.2.2.2.2.1 ∧ z.2.2.2.2.2.1 ≤ nx) ∧ Vl false s' z.2.2.2.1 z.2.2.2.2.1 ∧ Vl false s' z.2.2.2.2.2.2.1 z.2.2.2.2.2.2.2) (fun z => Ic s' i ∧ (z.1 = cu s ∧ z.2.1 = wd s (pq s) i ∧ z.2.2.1 = bs s) ∧ Vl false s' z.2.2.2.1 z.2.2.2.2))) y)
    (fun x s' => Rx s s' ∧ Ic s' i ∧ (x.1 = cu s ∧ x.2.1 = tp s ∧ x.2.2.1 = wd s (pq s) i ∧ x.2.2.2.1 = bs s) ∧ Vl false s' x.2.2.2.2.1 x.2.2.2.2.2.1 ∧ (-1 ≤ x.2.2.2.2.2.2 ∧ x.2.2.2.2.2.2 ≤ nx)) (fun x _ => (x.2.2.2.2.2.2 + 1).toNatClampNeg) ?_ _ _ ⟨Rx.refl h.1.1 h.1.2.1, h, ⟨rfl, rfl, rfl, rfl⟩, hv, hn.1, Int32.le_refl _⟩) ?_
  · rintro ⟨y1, y2, y3, y4, y5, y6, idx⟩ s1 ⟨rx, i1, ⟨e1, e2, e3, e4⟩, hv1, ⟨x1, x2⟩⟩
    dsimp only at e1 e2 e3 e4 hv1 x1 x2
    subst e1 e2 e3 e4
    obtain ⟨d1, d2, d3, d4⟩ := rx.same h.1 h.2.1.1 h.2.1.2.1
    have p1 := hp.of d3 rx.wd
    obtain ⟨-, -, -, -, -, -, -, -, -, -, u11, -⟩ := i1.1.top i1.2.1.1 i1.2.1.2.1
    have d1' : f_current s1 = f_current s := d1
    rw [d1', d3, d4] at u11
    simp only [M_Mo_join_L51, M_Mo_b, ok_B, ok_C, ok_R, ok_L, ok_K, ok_GI, ok_GL, ok_PI, ok_PL, ok_AI, ok_AL, ok_SI, ok_SL, ok_Pr, ok_CI, cmp_lt, cmp_le, cmp_gt, cmp_ge, cmp_eq, nar0, nar1, Sum.elim_inl, Sum.elim_inr]
    refine ⟨fun c => ⟨rx, i1, ⟨by trivial, by trivial, by trivial⟩, hv1⟩, fun c => ?_⟩
    have nn := join_num bb cc x1 x2 hn.2 c
    have lt : idx < a_registers s1 (pq s) := by
      rw [rx.reg]
      exact Int32.lt_trans nn.2.1 q3
    obtain ⟨g1, g2'⟩ := u11 idx nn.1 lt
    have g2 : Vl false s1 (gA s1 20 (cu s) (bs s + idx)) (gB s1 21 (cu s) (bs s + idx)) := g2'
    clear g2'
    have g3 : 0 ≤ bs s + idx ∧ bs s + idx < 4300 := ⟨g1.1, Int32.lt_trans g1.2 (by decide)⟩
    have ex : Rx s s1 ∧ Ic s1 i ∧ (True ∧ True ∧ True) ∧ (iB (wd s (pq s) i) ≤ idx ∧ idx ≤ nx) ∧ Vl false s1 y5 y6 ∧ Vl false s1 (gA s1 20 (cu s) (bs s + idx)) (gB s1 21 (cu s) (bs s + idx)) := ⟨rx, i1, ⟨trivial, trivial, trivial⟩, ⟨nn.2.2.1, x2⟩, hv1, g2⟩
    have cat : (gA s1 20 (cu s) (bs s + idx) = 4 ∨ gA s1 20 (cu s) (bs s + idx) = 3) → ok (M_Mo_join_j103 (cu s) (tp s) (wd s (pq s) i) (bs s) y5 y6 idx (gA s1 20 (cu s) (bs s + idx)) (gB s1 21 (cu s) (bs s + idx))) s1 (fun y s' => Sum.elim (fun z => (Rx s s' ∧ Ic s' i ∧ (z.1 = cu s ∧ z.2.1 = tp s ∧ z.2.2.1 = wd s (pq s) i ∧ z.2.2.2.1 = bs s) ∧ Vl false s' z.2.2.2.2.1 z.2.2.2.2.2.1 ∧ (-1 ≤ z.2.2.2.2.2.2 ∧ z.2.2.2.2.2.2 ≤ nx)) ∧ (z.2.2.2.2.2.2 + 1).toNatClampNeg < (idx + 1).toNatClampNeg) (fun e => Rx s s' ∧ Sum.elim (fun _ => Ic s' i) (Sum.elim (fun _ => Out s' ∧ (f_todo s' ≠ 1 ∧ f_todo s' ≠ 2)) (Sum.elim (fun z => Ic s' i ∧ (z.1 = cu s ∧ z.2.1 = tp s ∧ z.2.2.1 = wd s (pq s) i) ∧ (iB (wd s (pq s) i) ≤ z.2.2.2.2.2.1 ∧ z.2.2.2.2.2.1 ≤ nx) ∧ Vl false s' z.2.2.2.1 z.2.2.2.2.1 ∧ Vl false s' z.2.2.2.2.2.2.1 z.2.2.2.2.2.2.2) (fun z => Ic s' i ∧ (z.1 = cu s ∧ z.2.1 = wd s (pq s) i ∧ z.2.2.1 = bs s) ∧ Vl false s' z.2.2.2.1 z.2.2.2.2))) e) y) := fun hlk => by
      generalize gA s1 20 (cu s) (bs s + idx) = lk at *
      generalize gB s1 21 (cu s) (bs s + idx) = lv at *
      have go : (y5 = 4 ∨ y5 = 3) → ok (M_Mo_join_j115 (cu s) (tp s) (wd s (pq s) i) (bs s) y5 y6 idx lk lv) s1 (fun y s' => Sum.elim (fun z => (Rx s s' ∧ Ic s' i ∧ (z.1 = cu s ∧ z.2.1 = tp s ∧ z.2.2.1 = wd s (pq s) i ∧ z.2.2.2.1 = bs s) ∧ Vl false s' z.2.2.2.2.1 z.2.2.2.2.2.1 ∧ (-1 ≤ z.2.2.2.2.2.2 ∧ z.2.2.2.2.2.2 ≤ nx)) ∧ (z.2.2.2.2.2.2 + 1).toNatClampNeg < (idx + 1).toNatClampNeg) (fun e => Rx s s' ∧ Sum.elim (fun _ => Ic s' i) (Sum.elim (fun _ => Out s' ∧ (f_todo s' ≠ 1 ∧ f_todo s' ≠ 2)) (Sum.elim (fun z => Ic s' i ∧ (z.1 = cu s ∧ z.2.1 = tp s ∧ z.2.2.1 = wd s (pq s) i) ∧ (iB (wd s (pq s) i) ≤ z.2.2.2.2.2.1 ∧ z.2.2.2.2.2.1 ≤ nx) ∧ Vl false s' z.2.2.2.1 z.2.2.2.2.1 ∧ Vl false s' z.2.2.2.2.2.2.1 z.2.2.2.2.2.2.2) (fun z => Ic s' i ∧ (z.1 = cu s ∧ z.2.1 = wd s (pq s) i ∧ z.2.2.1 = bs s) ∧ Vl false s' z.2.2.2.1 z.2.2.2.2))) e) y) := fun hy5 => by
        have h96 : Hx0 s1 (sI s1 96 0 0) ∧ Hy s1 (sI s1 96 0 0) := ⟨(Hx0.refl s1).sI (by decide), (Hy.refl s1).sI (by decide)⟩
        have rx2 := Rx.hx i1.1.1 h96.1 h96.2 i1.1.2.1
        have i2 := i1.rx rx2 (by simp only [gI_sI, gI_sL, gI_sA, gI_sB, gI_sAf, gI_sBf, gL_sI, gL_sL, gL_sA, gL_sB, gL_sAf, gL_sBf, gA_sI, gA_sL, gA_sA, gA_sB, gA_sAf, gA_sBf, gB_sI, gB_sL, gB_sA, gB_sB, gB_sAf, gB_sBf, Nat.reduceEqDiff, Nat.reduceMul, Nat.reduceAdd, false_and, true_and, and_true, and_false, if_true, if_false]) (by simp only [gI_sI, gI_sL, gI_sA, gI_sB, gI_sAf, gI_sBf, gL_sI, gL_sL, gL_sA, gL_sB, gL_sAf, gL_sBf, gA_sI, gA_sL, gA_sA, gA_sB, gA_sAf, gA_sBf, gB_sI, gB_sL, gB_sA, gB_sB, gB_sAf, gB_sBf, Nat.reduceEqDiff, Nat.reduceMul, Nat.reduceAdd, false_and, true_and, and_true, and_false, if_true, if_false])
        have e96 : gI (sI s1 96 0 0) 96 0 = 0 := by simp only [gI_sI, gI_sL, gI_sA, gI_sB, gI_sAf, gI_sBf, gL_sI, gL_sL, gL_sA, gL_sB, gL_sAf, gL_sBf, gA_sI, gA_sL, gA_sA, gA_sB, gA_sAf, gA_sBf, gB_sI, gB_sL, gB_sA, gB_sB, gB_sAf, gB_sBf, Nat.reduceEqDiff, Nat.reduceMul, Nat.reduceAdd, false_and, true_and, and_true, and_false, if_true, if_false]
        have hh := h96.1.hw.hs
        obtain ⟨f1, f2, f3, f4⟩ := rx2.same i1.1 i1.2.1.1 i1.2.1.2.1
        have p2 := p1.of f3 rx2.wd
        simp only [M_Mo_join_j115, M_Mo_join_j139, ok_B, ok_C, ok_R, ok_L, ok_K, ok_GI, ok_GL, ok_PI, ok_PL, ok_AI, ok_AL, ok_SI, ok_SL, ok_Pr, ok_CI, cmp_lt, cmp_le, cmp_gt, cmp_ge, cmp_eq, nar0, nar1, Sum.elim_inl, Sum.elim_inr]
        clear h96
        generalize sI s1 96 0 0 = s2 at *
        have hl2 := (Vl.hs hh).mpr g2
        have hv2 := (Vl.hs hh).mpr hv1
        obtain ⟨m1, m2, m3⟩ := sz_num i2.1.1 hl2 hlk
        obtain ⟨o1, o2, o3⟩ := sz_num i2.1.1 hv2 hy5
        have c20 : (20 : Int32).toInt = 20 := rfl
        have done : ∀ n1 n2 : Int32, (0 ≤ n1.toInt ∧ n1.toInt ≤ 266667 ∧ q_sz s2 lk lv ≤ n1.toInt + 1) → (0 ≤ n2.toInt ∧ n2.toInt ≤ 266667 ∧ q_sz s2 y5 y6 ≤ n2.toInt + 1) → ok (M_Mo_join_j158 (cu s) (tp s) (wd s (pq s) i) (bs s) y5 y6 idx lk lv n2 n1) s2 (fun y s' => Sum.elim (fun z => (Rx s s' ∧ Ic s' i ∧ (z.1 = cu s ∧ z.2.1 = tp s ∧ z.2.2.1 = wd s (pq s) i ∧ z.2.2.2.1 = bs s) ∧ Vl false s' z.2.2.2.2.1 z.2.2.2.2.2.1 ∧ (-1 ≤ z.2.2.2.2.2.2 ∧ z.2.2.2.2.2.2 ≤ nx)) ∧ (z.2.2.2.2.2.2 + 1).toNatClampNeg < (idx + 1).toNatClampNeg) (fun e => Rx s s' ∧ Sum.elim (fun _ => Ic s' i) (Sum.elim (fun _ => Out s' ∧ (f_todo s' ≠ 1 ∧ f_todo s' ≠ 2)) (Sum.elim (fun z => Ic s' i ∧ (z.1 = cu s ∧ z.2.1 = tp s ∧ z.2.2.1 = wd s (pq s) i) ∧ (iB (wd s (pq s) i) ≤ z.2.2.2.2.2.1 ∧ z.2.2.2.2.2.1 ≤ nx) ∧ Vl false s' z.2.2.2.1 z.2.2.2.2.1 ∧ Vl false s' z.2.2.2.2.2.2.1 z.2.2.2.2.2.2.2) (fun z => Ic s' i ∧ (z.1 = cu s ∧ z.2.1 = wd s (pq s) i ∧ z.2.2.1 = bs s) ∧ Vl false s' z.2.2.2.1 z.2.2.2.2))) e) y) := fun n1 n2 a1 a2 => by
          refine ok_mono (cat_ok s2 i lk y5 n1 n2 _ _ _ _ idx lv y6 i2 p2 hl2 hv2 a1 a2 e96 ⟨m3, o3⟩) fun y s3 hy => ?_
          rcases y with z | e | e
          · obtain ⟨r1, r2, x, ez, r3⟩ := hy
            subst ez
            exact ⟨⟨rx.trans (rx2.trans r2), r1, ⟨rfl, rfl, rfl, rfl⟩, r3, nn.2.2.2.2⟩, nn.2.2.2.1⟩
          · exact ⟨rx.trans (rx2.trans hy.2), hy.1⟩
          · obtain ⟨r1, r2, r3, r4⟩ := hy
            subst r4
            exact ⟨rx.trans (rx2.trans r2), r1, r3⟩
        refine ⟨fun c4 => ⟨(m1 c4).1, fun d4 => ⟨(o1 d4).1, done _ _ (m1 c4).2 (o1 d4).2⟩, fun d4 => done _ _ (m1 c4).2 ⟨by rw [c20]; decide, by rw [c20]; decide, o2 d4⟩⟩, fun c4 => ⟨fun d4 => ⟨(o1 d4).1, done _ _ ⟨by rw [c20]; decide, by rw [c20]; decide, m2 c4⟩ (o1 d4).2⟩, fun d4 => done _ _ ⟨by rw [c20]; decide, by rw [c20]; decide, m2 c4⟩ ⟨by rw [c20]; decide, by rw [c20]; decide, o2 d4⟩⟩⟩
      simp only [M_Mo_join_j103, ok_B, ok_C, ok_R, ok_L, ok_K, ok_GI, ok_GL, ok_PI, ok_PL, ok_AI, ok_AL, ok_SI, ok_SL, ok_Pr, ok_CI, cmp_lt, cmp_le, cmp_gt, cmp_ge, cmp_eq, nar0, nar1, Sum.elim_inl, Sum.elim_inr]
      exact ⟨fun c4 => go (Or.inl c4), fun _ => ⟨fun c3 => go (Or.inr c3), fun _ => ex⟩⟩
    exact ⟨g3, g3, fun c4 => cat (Or.inl c4), fun _ => ⟨fun c3 => cat (Or.inr c3), fun _ => ex⟩⟩
  · rintro y s1 ⟨rx, hy⟩
    obtain ⟨d1, d2, d3, d4⟩ := rx.same h.1 h.2.1.1 h.2.1.2.1
    have p1 := hp.of d3 rx.wd
    rcases y with y | y | y | y
    · simp only [Sum.elim_inl] at hy
      simp only [ok_B, ok_C, ok_R, ok_L, ok_K, ok_GI, ok_GL, ok_PI, ok_PL, ok_AI, ok_AL, ok_SI, ok_SL, ok_Pr, ok_CI, cmp_lt, cmp_le, cmp_gt, cmp_ge, cmp_eq, nar0, nar1, Sum.elim_inl, Sum.elim_inr]
      refine ok_mono (q_raise_ok s1 11) fun w s2 ⟨ew, es⟩ => ?_
      subst es
      refine ⟨hy.raise 11 _ (by decide), Jn.fs (rx.2.2.2.trans ((Nx.raise hy.1.1 11 _ (by decide)).rx hy.1.2.1).2.2.2) ?_⟩
      simp only [f_todo, gI_sI, gI_sL, gI_sA, gI_sB, gI_sAf, gI_sBf, gL_sI, gL_sL, gL_sA, gL_sB, gL_sAf, gL_sBf, gA_sI, gA_sL, gA_sA, gA_sB, gA_sAf, gA_sBf, gB_sI, gB_sL, gB_sA, gB_sB, gB_sAf, gB_sBf, Nat.reduceEqDiff, Nat.reduceMul, Nat.reduceAdd, false_and, true_and, and_true, and_false, if_true, if_false]
      decide
    · simp only [Sum.elim_inl, Sum.elim_inr] at hy
      simp only [ok_B, ok_C, ok_R, ok_L, ok_K, ok_GI, ok_GL, ok_PI, ok_PL, ok_AI, ok_AL, ok_SI, ok_SL, ok_Pr, ok_CI, cmp_lt, cmp_le, cmp_gt, cmp_ge, cmp_eq, nar0, nar1, Sum.elim_inl, Sum.elim_inr]
      exact ⟨hy.1, Jn.fs rx.2.2.2 hy.2⟩
    · obtain ⟨y1, y2, y3, y4, y5, y6, y7, y8⟩ := y
      simp only [Sum.elim_inl, Sum.elim_inr] at hy
      obtain ⟨i1, ⟨e1, e2, e3⟩, ⟨b1, b2⟩, v1, v2⟩ := hy
      subst e1 e2 e3
      have n1 := top_num i1.1 i1.2.1.1 i1.2.1.2.1
      simp only [M_Mo_join_j273, M_Mo_a, ok_B, ok_C, ok_R, ok_L, ok_K, ok_GI, ok_GL, ok_PI, ok_PL, ok_AI, ok_AL, ok_SI, ok_SL, ok_Pr, ok_CI, cmp_lt, cmp_le, cmp_gt, cmp_ge, cmp_eq, nar0, nar1, Sum.elim_inl, Sum.elim_inr]
      refine ok_mono (expect_ok s1 4 (iA (wd s (pq s) i)) 1 i1.1.1 n1.1 n1.2.1) fun _ s2 ⟨es2, g2, ec2⟩ => ?_
      rw [d1, d2] at es2
      have i2 := ec2.ic i1 g2 (by rw [es2]; rfl) (by rw [es2]; rfl)
      obtain ⟨f1, f2, f3, f4, f5, f6, f7, f8, f9, f10⟩ := ec2.same
      refine ⟨n.2.2, ?_⟩
      -- the step
      have ic3 : Ic (sA s2 40 (cu s) (tp s) y6) i ∧ Hs s1 (sA s2 40 (cu s) (tp s) y6) ∧ (∀ a u j, a ≠ 37 → a ≠ 38 → a ≠ 39 → a ≠ 40 → gA (sA s2 40 (cu s) (tp s) y6) a u j = gA s1 a u j) ∧ (∀ t f, ¬ (t = cu s ∧ f = tp s) → gA (sA s2 40 (cu s) (tp s) y6) 37 t f = gA s1 37 t f ∧ gA (sA s2 40 (cu s) (tp s) y6) 40 t f = gA s1 40 t f) ∧ (gA (sA s2 40 (cu s) (tp s) y6) 40 (cu s) (tp s) = y6 ∧ gA (sA s2 40 (cu s) (tp s) y6) 37 (cu s) (tp s) = 4) ∧ (∀ f j, gI (sA s2 40 (cu s) (tp s) y6) f j = gI s1 f j) := by
        have gg : GG (sA s2 40 (cu s) (tp s) y6) := g2.hx ((Hx0.refl s2).sA (by decide))
        refine ⟨⟨⟨gg, i2.1.2.1, i2.1.2.2.topz ⟨fun _ _ _ => rfl, fun a u j q p => ?_, fun _ _ => rfl⟩⟩, ?_, i2.2.2.1, i2.2.2.2⟩, ?_, fun a u j a1 a2 a3 a4 => ?_, fun t f q => ⟨?_, ?_⟩, ⟨?_, ?_⟩, fun f j => ?_⟩
        · rw [gA_sA, if_neg]
          rintro ⟨z1, z2, z3⟩
          rcases p with p | p
          · exact p.2.2.2.2.2.2 z1
          · exact p ⟨by rw [f1, d1]; exact z2, by rw [f2, d2]; exact z3⟩
        · have t := i2.2.1
          unfold Tf at *
          have eA : ∀ a u j, a ≠ 40 → gA (sA s2 40 (cu s) (tp s) y6) a u j = gA s2 a u j := fun a u j q => by simp only [gI_sI, gI_sL, gI_sA, gI_sB, gI_sAf, gI_sBf, gL_sI, gL_sL, gL_sA, gL_sB, gL_sAf, gL_sBf, gA_sI, gA_sL, gA_sA, gA_sB, gA_sAf, gA_sBf, gB_sI, gB_sL, gB_sA, gB_sB, gB_sAf, gB_sBf, Nat.reduceEqDiff, Nat.reduceMul, Nat.reduceAdd, false_and, true_and, and_true, and_false, if_true, if_false, q]
          have m3 : pq (sA s2 40 (cu s) (tp s) y6) = pq s2 := by
            show gA (sA s2 40 (cu s) (tp s) y6) 62 0 (gA (sA s2 40 (cu s) (tp s) y6) 31 (cu s2) (tp s2)) = gA s2 62 0 (gA s2 31 (cu s2) (tp s2))
            rw [eA 31 _ _ (by decide), eA 62 _ _ (by decide)]
          rw [m3]
          show _ ∧ gA (sA s2 40 (cu s) (tp s) y6) 30 (cu s2) (tp s2) = 0 ∧ gA (sA s2 40 (cu s) (tp s) y6) 32 (cu s2) (tp s2) = i + 1 ∧ (0 ≤ i ∧ i < gA (sA s2 40 (cu s) (tp s) y6) 50 0 (pq s2)) ∧ (gA (sA s2 40 (cu s) (tp s) y6) 36 (cu s2) (tp s2) ≠ 0 → us (gA (sA s2 40 (cu s) (tp s) y6) 55 0 (gA (sA s2 40 (cu s) (tp s) y6) 49 0 (pq s2) + i))) ∧ (us (gA (sA s2 40 (cu s) (tp s) y6) 55 0 (gA (sA s2 40 (cu s) (tp s) y6) 49 0 (pq s2) + i)) → gA (sA s2 40 (cu s) (tp s) y6) 35 (cu s2) (tp s2) = iA (gA (sA s2 40 (cu s) (tp s) y6) 55 0 (gA (sA s2 40 (cu s) (tp s) y6) 49 0 (pq s2) + (i - 1))))
          rw [eA 30 _ _ (by decide), eA 32 _ _ (by decide), eA 50 _ _ (by decide), eA 36 _ _ (by decide), eA 49 _ _ (by decide), eA 55 _ _ (by decide), eA 35 _ _ (by decide), eA 55 _ _ (by decide)]
          exact t
        · have q2 : Hs s1 s2 := by
            rw [es2]
            exact (((Hw.refl s1).sA (by decide)).sA (by decide)).sA (by decide) |>.hs
          have q3 : Hs s2 (sA s2 40 (cu s) (tp s) y6) := ((Hw.refl s2).sA (by decide)).hs
          exact ⟨fun a i j p => (q3.1 a i j p).trans (q2.1 a i j p), fun a i j p => (q3.2.1 a i j p).trans (q2.2.1 a i j p), fun f i p => (q3.2.2 f i p).trans (q2.2.2 f i p)⟩
        · rw [es2]
          simp only [gI_sI, gI_sL, gI_sA, gI_sB, gI_sAf, gI_sBf, gL_sI, gL_sL, gL_sA, gL_sB, gL_sAf, gL_sBf, gA_sI, gA_sL, gA_sA, gA_sB, gA_sAf, gA_sBf, gB_sI, gB_sL, gB_sA, gB_sB, gB_sAf, gB_sBf, Nat.reduceEqDiff, Nat.reduceMul, Nat.reduceAdd, false_and, true_and, and_true, and_false, if_true, if_false, a1, a2, a3, a4]
        · rw [es2]
          simp only [gI_sI, gI_sL, gI_sA, gI_sB, gI_sAf, gI_sBf, gL_sI, gL_sL, gL_sA, gL_sB, gL_sAf, gL_sBf, gA_sI, gA_sL, gA_sA, gA_sB, gA_sAf, gA_sBf, gB_sI, gB_sL, gB_sA, gB_sB, gB_sAf, gB_sBf, Nat.reduceEqDiff, Nat.reduceMul, Nat.reduceAdd, false_and, true_and, and_true, and_false, if_true, if_false, q]
        · rw [es2]
          simp only [gI_sI, gI_sL, gI_sA, gI_sB, gI_sAf, gI_sBf, gL_sI, gL_sL, gL_sA, gL_sB, gL_sAf, gL_sBf, gA_sI, gA_sL, gA_sA, gA_sB, gA_sAf, gA_sBf, gB_sI, gB_sL, gB_sA, gB_sB, gB_sAf, gB_sBf, Nat.reduceEqDiff, Nat.reduceMul, Nat.reduceAdd, false_and, true_and, and_true, and_false, if_true, if_false, q]
        · simp only [gI_sI, gI_sL, gI_sA, gI_sB, gI_sAf, gI_sBf, gL_sI, gL_sL, gL_sA, gL_sB, gL_sAf, gL_sBf, gA_sI, gA_sL, gA_sA, gA_sB, gA_sAf, gA_sBf, gB_sI, gB_sL, gB_sA, gB_sB, gB_sAf, gB_sBf, Nat.reduceEqDiff, Nat.reduceMul, Nat.reduceAdd, false_and, true_and, and_true, and_false, if_true, if_false]
        · rw [es2]
          simp only [gI_sI, gI_sL, gI_sA, gI_sB, gI_sAf, gI_sBf, gL_sI, gL_sL, gL_sA, gL_sB, gL_sAf, gL_sBf, gA_sI, gA_sL, gA_sA, gA_sB, gA_sAf, gA_sBf, gB_sI, gB_sL, gB_sA, gB_sB, gB_sAf, gB_sBf, Nat.reduceEqDiff, Nat.reduceMul, Nat.reduceAdd, false_and, true_and, and_true, and_false, if_true, if_false]
        · rw [es2]
          rfl
      obtain ⟨i3, hs3, k1, k2, k3, k4⟩ := ic3
      have into3 : gA (sA s2 40 (cu s) (tp s) y6) 38 (cu s) (tp s) = iA (wd s (pq s) i) ∧ gA (sA s2 40 (cu s) (tp s) y6) 39 (cu s) (tp s) = 1 := by
        rw [es2]
        simp only [gI_sI, gI_sL, gI_sA, gI_sB, gI_sAf, gI_sBf, gL_sI, gL_sL, gL_sA, gL_sB, gL_sAf, gL_sBf, gA_sI, gA_sL, gA_sA, gA_sB, gA_sAf, gA_sBf, gB_sI, gB_sL, gB_sA, gB_sB, gB_sAf, gB_sBf, Nat.reduceEqDiff, Nat.reduceMul, Nat.reduceAdd, false_and, true_and, and_true, and_false, if_true, if_false]
      have m1 : cu (sA s2 40 (cu s) (tp s) y6) = cu s := by
        show gI _ 72 0 = _
        rw [k4]
        exact d1
      have m2 : tp (sA s2 40 (cu s) (tp s) y6) = tp s := by
        show gI _ 3586 (cu (sA s2 40 (cu s) (tp s) y6)) - 1 = _
        rw [m1, k4]
        have := d2
        have d1' : f_current s1 = f_current s := d1
        simp only [tp] at this
        rw [d1'] at this
        exact this
      have m3 : pq (sA s2 40 (cu s) (tp s) y6) = pq s := by
        rw [← d3]
        show gA _ 62 0 (gA _ 31 (cu (sA s2 40 (cu s) (tp s) y6)) (tp (sA s2 40 (cu s) (tp s) y6))) = gA s1 62 0 (gA s1 31 (cu s1) (tp s1))
        rw [m1, m2, d1, d2, k1 31 _ _ (by decide) (by decide) (by decide) (by decide), k1 62 _ _ (by decide) (by decide) (by decide) (by decide)]
      have m5 : ∀ p j, wd (sA s2 40 (cu s) (tp s) y6) p j = wd s1 p j := fun p j => by
        show gA _ 55 0 (gA _ 49 0 p + j) = gA s1 55 0 (gA s1 49 0 p + j)
        rw [k1 49 _ _ (by decide) (by decide) (by decide) (by decide), k1 55 _ _ (by decide) (by decide) (by decide) (by decide)]
      generalize sA s2 40 (cu s) (tp s) y6 = s3 at *
      have er := Ec.refl s3
      have em : t_mode s3 (cu s3) (tp s3) = 4 := by
        rw [m1, m2]
        exact k3.2
      have st3 : t_step s3 (cu s3) (tp s3) = y6 := by
        rw [m1, m2]
        exact k3.1
      have p3 := p1.of (m3.trans d3.symm) m5
      have w3 : wd s3 (pq s3) i = wd s (pq s) i := by
        rw [m3, m5]
        exact rx.wd _ _
      rw [em] at er
      have h20 : gI s3 2050 0 = 0 := i3.2.2.2
      have jn : ∀ s4, Hy s3 s4 → f_todo s4 ≠ 2 → Jn s s4 nx := fun s4 hy n2 => by
        have e : t_step s4 (cu s) (tp s) = y6 := (hy.2.1 40 _ _ (by decide)).trans k3.1
        refine ⟨fun t => ⟨?_, ?_⟩, fun t f => ?_, fun t f q => ⟨?_, ?_⟩, ?_, Or.inr ?_, fun _ => ?_, n2⟩
        · exact (hy.1 3586 t (by decide)).trans ((k4 3586 t).trans (rx.2.2.2.I 3586 (by decide) t))
        · exact (hy.1 3590 t (by decide)).trans ((k4 3590 t).trans (rx.2.2.2.I 3590 (by decide) t))
        · exact (hy.2.1 30 t f (by decide)).trans ((k1 30 t f (by decide) (by decide) (by decide) (by decide)).trans (rx.2.2.2.A 30 (by decide) t f))
        · exact (hy.2.1 37 t f (by decide)).trans ((k2 t f q).1.trans (rx.2.2.2.A 37 (by decide) t f))
        · exact (hy.2.1 40 t f (by decide)).trans ((k2 t f q).2.trans (rx.2.2.2.A 40 (by decide) t f))
        · exact (hy.1 72 0 (by decide)).trans ((k4 72 0).trans (rx.2.2.2.I 72 (by decide) 0))
        · rw [e]
          exact ⟨Int32.le_trans bb.1 b1, b2⟩
        · rw [e]
          exact ⟨Int32.le_trans bb.1 b1, b2⟩
      refine ok_mono (q_either_ok s3 s3 i 4 _ _ 15 y7 y4 y8 y5 i3 er i3.1.1 h20 ((Vl.hs hs3).mpr v2) ((Vl.hs hs3).mpr v1) ⟨by decide, by decide⟩ p3 (Or.inr (Or.inr (Or.inr (Or.inr ⟨rfl, by rw [w3]; exact ho, by rw [w3, st3]; exact b1, by rw [w3, st3]; exact Int32.lt_of_le_of_lt b2 hn.2⟩))))) fun r s4 ⟨u1, u2, u3, u4⟩ => ⟨fun c => ?_, fun c => ⟨u1 c, jn s4 u3 (by rw [u4 c]; decide)⟩⟩
      have gf := u2 c
      have i4 := gf.ic i3
      refine ok_mono (q_raise_ok s4 3) fun w s5 ⟨ew, es⟩ => ?_
      subst es
      exact ⟨i4.raise 3 _ (by decide), jn _ (u3.trans (((Hy.refl s4).sI (by decide)).sL.sI (by decide))) (by simp only [f_todo, gI_sI, gI_sL, gI_sA, gI_sB, gI_sAf, gI_sBf, gL_sI, gL_sL, gL_sA, gL_sB, gL_sAf, gL_sBf, gA_sI, gA_sL, gA_sA, gA_sB, gA_sAf, gA_sBf, gB_sI, gB_sL, gB_sA, gB_sB, gB_sAf, gB_sBf, Nat.reduceEqDiff, Nat.reduceMul, Nat.reduceAdd, false_and, true_and, and_true, and_false, if_true, if_false]; decide)⟩
    · obtain ⟨y1, y2, y3, y4, y5⟩ := y
      simp only [Sum.elim_inl, Sum.elim_inr] at hy
      obtain ⟨i1, ⟨e1, e2, e3⟩, v1⟩ := hy
      subst e1 e2 e3
      simp only [M_Mo_a, ok_B, ok_C, ok_R, ok_L, ok_K, ok_GI, ok_GL, ok_PI, ok_PL, ok_AI, ok_AL, ok_SI, ok_SL, ok_Pr, ok_CI, cmp_lt, cmp_le, cmp_gt, cmp_ge, cmp_eq, nar0, nar1, Sum.elim_inl, Sum.elim_inr]
      have w := i1.set (r := iA (wd s (pq s) i)) (k := y4) (v := y5) (by rw [d3, rx.reg]; exact ⟨aa.1, q1⟩) v1
      rw [d1, d4] at w
      refine ok_mono w fun _ s2 ⟨i2, ss, f2, f3, _⟩ => ?_
      have p2 := p1.of f3 f2
      refine ⟨i2.done p2.1 p2.2.1 p2.2.2, Jn.fs (rx.2.2.2.trans ss.hy.fs) ?_⟩
      rw [i2.2.2.1]
      decide
