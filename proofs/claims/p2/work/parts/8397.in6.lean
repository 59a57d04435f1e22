/-! Jumps; arithmetic, length, comparison. -/
theorem Ic.jump {s : S1} {i j : Int32} (h : Ic s i) (hu : ¬ us (wd s (pq s) i)) (hj : Gs s (pq s) j) : Out (sA s 32 (cu s) (tp s) j) := by
  obtain ⟨hr, hT, h0, hh⟩ := h
  obtain ⟨t1, t2, t3, t4, t5, t6⟩ := hT
  have r0 : t_rowCount s (cu s) (tp s) = 0 := Classical.byContradiction fun z => hu (t5 z)
  have g : GG (sA s 32 (cu s) (tp s) j) := hr.1.hx ((Hx0.refl s).sA (by decide))
  have f : Fr false (sA s 32 (cu s) (tp s) j) := hr.2.2.topz ⟨fun _ _ _ => rfl, fun a u v q p => by
    rw [gA_sA, if_neg]
    rintro ⟨e1, e2, e3⟩
    rcases p with p | p
    · exact p.1 e1
    · exact p ⟨e2, e3⟩, fun _ _ => rfl⟩
  refine ⟨g, hr.2.1, hh, Or.inl ⟨h0, f, ?_⟩⟩
  obtain ⟨j1, j2, j3⟩ := hj
  unfold Run
  have e1 : cu (sA s 32 (cu s) (tp s) j) = cu s := rfl
  have e2 : tp (sA s 32 (cu s) (tp s) j) = tp s := rfl
  have e3 : pq (sA s 32 (cu s) (tp s) j) = pq s := by
    show gA s 62 0 (gA (sA s 32 (cu s) (tp s) j) 31 (cu s) (tp s)) = gA s 62 0 (gA s 31 (cu s) (tp s))
    rw [gA_sA, if_neg (fun z => absurd z.1 (by decide))]
  have e4 : t_pc (sA s 32 (cu s) (tp s) j) (cu s) (tp s) = j := by simp only [t_pc, gI_sI, gI_sL, gI_sA, gI_sB, gI_sAf, gI_sBf, gL_sI, gL_sL, gL_sA, gL_sB, gL_sAf, gL_sBf, gA_sI, gA_sL, gA_sA, gA_sB, gA_sAf, gA_sBf, gB_sI, gB_sL, gB_sA, gB_sB, gB_sAf, gB_sBf, Nat.reduceEqDiff, Nat.reduceMul, Nat.reduceAdd, false_and, true_and, and_true, and_false, if_true, if_false]
  have e5 : ∀ p q, wd (sA s 32 (cu s) (tp s) j) p q = wd s p q := fun p q => by simp only [wd, a_code, a_codeAt, gI_sI, gI_sL, gI_sA, gI_sB, gI_sAf, gI_sBf, gL_sI, gL_sL, gL_sA, gL_sB, gL_sAf, gL_sBf, gA_sI, gA_sL, gA_sA, gA_sB, gA_sAf, gA_sBf, gB_sI, gB_sL, gB_sA, gB_sB, gB_sAf, gB_sBf, Nat.reduceEqDiff, Nat.reduceMul, Nat.reduceAdd, false_and, true_and, and_true, and_false, if_true, if_false]
  rw [e1, e2, e3, e4]
  simp only [e5]
  simp only [t_kind, t_rowCount, t_rowAt, a_codes, gI_sI, gI_sL, gI_sA, gI_sB, gI_sAf, gI_sBf, gL_sI, gL_sL, gL_sA, gL_sB, gL_sAf, gL_sBf, gA_sI, gA_sL, gA_sA, gA_sB, gA_sAf, gA_sBf, gB_sI, gB_sL, gB_sA, gB_sB, gB_sAf, gB_sBf, Nat.reduceEqDiff, Nat.reduceMul, Nat.reduceAdd, false_and, true_and, and_true, and_false, if_true, if_false] at *
  exact ⟨t1, t2, ⟨j1, j2⟩, fun z => absurd r0 z, fun z => absurd z j3⟩
theorem pc_in {s : S1} {i : Int32} (h : Ic s i) : gA s 32 (cu s) (tp s) = i + 1 := h.2.1.2.2.1
theorem add2 (i : Int32) : i + 1 + 1 = i + 2 := by grind
theorem Wn.all {s : S1} {i : Int32} (h : Ic s i) : Wn s (pq s) i (wd s (pq s) i) (iO (wd s (pq s) i)) := (h.1.wf h.2.1).2.2.2.2
theorem Pl.op {s : S1} {i : Int32} (h : iO (wd s (pq s) i) ≠ 30 ∧ iO (wd s (pq s) i) ≠ 36 ∧ iO (wd s (pq s) i) ≠ 37 ∧ iO (wd s (pq s) i) ≠ 38 ∧ iO (wd s (pq s) i) ≠ 43 ∧ iO (wd s (pq s) i) ≠ 45) : Pl s i := by
  obtain ⟨h1, h2, h3, h4, h5, h6⟩ := h
  refine ⟨?_, ?_, h1, h3, h4⟩
  · rintro (z | z)
    · exact h2 z.1
    · exact h6 z.1
  · rintro ⟨z | z | z | z, -⟩
    · exact h2 z
    · exact h3 z
    · exact h4 z
    · exact h5 z
theorem op_arith (o : Int32) (h : 13 ≤ o ∧ o ≤ 26) : o ≠ 30 ∧ o ≠ 36 ∧ o ≠ 37 ∧ o ≠ 38 ∧ o ≠ 43 ∧ o ≠ 45 := by grind
theorem op_arith2 (o : Int32) (h : 13 ≤ o ∧ o ≤ 26) (h2 : o ≠ 17) (h3 : o ≠ 18) (c : o ≤ 24) : o = 13 ∨ o = 14 ∨ o = 15 ∨ o = 16 ∨ o = 19 ∨ o = 20 ∨ o = 21 ∨ o = 22 ∨ o = 23 ∨ o = 24 := by grind
theorem op_arith3 (o : Int32) (h : 13 ≤ o ∧ o ≤ 26) (c : ¬ o ≤ 24) : o = 0 ∨ o = 25 ∨ o = 26 ∨ o = 27 ∨ o = 28 := by grind
theorem arith_event (o : Int32) (h : 13 ≤ o ∧ o ≤ 26 ∧ o ≠ 17 ∧ o ≠ 18) (s : S1) : ok (M_Mo_eventOf o) s (fun r s' => s' = s ∧ 0 ≤ r ∧ r < 22) := by
  simp only [M_Mo_eventOf, ok_B, ok_C, ok_R, ok_L, ok_K, ok_GI, ok_GL, ok_PI, ok_PL, ok_AI, ok_AL, ok_SI, ok_SL, ok_Pr, ok_CI, cmp_lt, cmp_le, cmp_gt, cmp_ge, cmp_eq, nar0, nar1, Sum.elim_inl, Sum.elim_inr]
  refine ⟨fun c => ⟨fun d => ⟨by trivial, by grind, by grind⟩, fun d => ⟨by trivial, by grind, by grind⟩⟩, fun c => ⟨by trivial, by grind, by grind⟩⟩
/-- an operand of two: a metamethod, or an error -/
theorem arith118_ok (s : S1) (i k1 k2 : Int32) (v1 v2 : Int64) (h : Ic s i) (h1 : Vl false s k1 v1) (h2 : Vl false s k2 v2) (ho : 13 ≤ iO (wd s (pq s) i) ∧ iO (wd s (pq s) i) ≤ 26 ∧ iO (wd s (pq s) i) ≠ 17 ∧ iO (wd s (pq s) i) ≠ 18) (ha : iA (wd s (pq s) i) < a_registers s (pq s)) (hp : Pl s i) :
    ok (M_Mo_arithmetic_j118 (wd s (pq s) i) (iO (wd s (pq s) i)) k1 v1 k2 v2) s (fun _ s' => Out s') := by
  have n := top_num h.1 h.2.1.1 h.2.1.2.1
  simp only [M_Mo_arithmetic_j118, M_Mo_a, ok_B, ok_C, ok_R, ok_L, ok_K, ok_GI, ok_GL, ok_PI, ok_PL, ok_AI, ok_AL, ok_SI, ok_SL, ok_Pr, ok_CI, cmp_lt, cmp_le, cmp_gt, cmp_ge, cmp_eq, nar0, nar1, Sum.elim_inl, Sum.elim_inr]
  refine ok_mono (expect_ok s 1 (iA (wd s (pq s) i)) 1 h.1.1 n.1 n.2.1) fun _ s1 ⟨e1, g1, ec⟩ => ?_
  refine ok_mono (arith_event _ ho s1) fun e s2 ⟨es, r1, r2⟩ => ?_
  subst es
  have hs : Hs s s2 := by
    rw [e1]
    exact (((Hw.refl s).sA (by decide)).sA (by decide)).sA (by decide) |>.hs
  have h0 : gI s2 2050 0 = 0 := by
    rw [e1]
    exact h.2.2.2
  refine ok_mono (q_either_ok s s2 i 1 _ 1 e k1 k2 v1 v2 h ec g1 h0 ((Vl.hs hs).mpr h1) ((Vl.hs hs).mpr h2) ⟨r1, r2⟩ hp (Or.inl ⟨rfl, (iA_in _).1, ha⟩)) fun r s3 ⟨q1, q2, _⟩ => ⟨fun c => ?_, fun c => q1 c⟩
  have gf := q2 c
  have r3 := (ec.ri h.1 g1).rx (Rx.hx g1 gf.hx gf.hy ((ec.1 92 0 (by decide)).trans h.1.2.1))
  refine ok_mono (q_raise_ok s3 3) fun w s4 ⟨ew, es⟩ => ?_
  subst es
  exact raise_out r3 ((gf.I 2050 (by decide) 0).trans h0) 3 _ (by decide)
theorem Ic.setDone {s : S1} {i r k : Int32} {v : Int64} (h : Ic s i) (hr : 0 ≤ r ∧ r < a_registers s (pq s)) (hv : Vl false s k v) (hp : Pl s i) : ok (M_Va_set 19 (cu s) (bs s + r) k v) s (fun _ s' => Out s') :=
  ok_mono (h.set hr hv) fun _ s2 ⟨i2, _, w2, w3, _⟩ => by
    have p2 := hp.of w3 w2
    exact i2.done p2.1 p2.2.1 p2.2.2
theorem arith106_ok (s : S1) (i k1 k2 : Int32) (v1 v2 : Int64) (h : Ic s i) (h1 : Vl false s k1 v1) (h2 : Vl false s k2 v2) (ho : 13 ≤ iO (wd s (pq s) i) ∧ iO (wd s (pq s) i) ≤ 26 ∧ iO (wd s (pq s) i) ≠ 17 ∧ iO (wd s (pq s) i) ≠ 18) (ha : iA (wd s (pq s) i) < a_registers s (pq s)) (hp : Pl s i) :
    ok (M_Mo_arithmetic_j106 (wd s (pq s) i) (iO (wd s (pq s) i)) 19 (cu s) (bs s + iA (wd s (pq s) i)) k1 v1 k2 v2) s (fun _ s' => Out s') := by
  have el := arith118_ok s i k1 k2 v1 v2 h h1 h2 ho ha hp
  have go : (iO (wd s (pq s) i) = 16 ∨ iO (wd s (pq s) i) = 19 → v2 ≠ 0) → ok (M_Mo_arithmetic_j188 (iO (wd s (pq s) i)) 19 (cu s) (bs s + iA (wd s (pq s) i)) v1 v2) s (fun _ s' => Out s') := fun hz => by
    simp only [M_Mo_arithmetic_j188, ok_B, ok_C, ok_R, ok_L, ok_K, ok_GI, ok_GL, ok_PI, ok_PL, ok_AI, ok_AL, ok_SI, ok_SL, ok_Pr, ok_CI, cmp_lt, cmp_le, cmp_gt, cmp_ge, cmp_eq, nar0, nar1, Sum.elim_inl, Sum.elim_inr]
    refine ok_mono (q_reckon_ok s _ v1 v2 hz) fun v s' es => ?_
    subst es
    exact h.setDone ⟨(iA_in _).1, ha⟩ (Or.inl ⟨by decide, by decide⟩) hp
  have di : ok (M_Mo_arithmetic_j172 (iO (wd s (pq s) i)) 19 (cu s) (bs s + iA (wd s (pq s) i)) v1 v2) s (fun _ s' => Out s') := by
    simp only [M_Mo_arithmetic_j172, ok_B, ok_C, ok_R, ok_L, ok_K, ok_GI, ok_GL, ok_PI, ok_PL, ok_AI, ok_AL, ok_SI, ok_SL, ok_Pr, ok_CI, cmp_lt, cmp_le, cmp_gt, cmp_ge, cmp_eq, nar0, nar1, Sum.elim_inl, Sum.elim_inr]
    refine ⟨fun _ => ok_mono (q_raise_ok s 5) fun w s4 ⟨ew, es⟩ => ?_, fun c => go fun _ => c⟩
    subst es
    exact h.raise 5 _ (by decide)
  simp only [M_Mo_arithmetic_j106, ok_B, ok_C, ok_R, ok_L, ok_K, ok_GI, ok_GL, ok_PI, ok_PL, ok_AI, ok_AL, ok_SI, ok_SL, ok_Pr, ok_CI, cmp_lt, cmp_le, cmp_gt, cmp_ge, cmp_eq, nar0, nar1, Sum.elim_inl, Sum.elim_inr]
  exact ⟨fun _ => ⟨fun _ => ⟨fun _ => di, fun c => ⟨fun _ => di, fun d => go fun z => by rcases z with z | z; exact absurd z c; exact absurd z d⟩⟩, fun _ => el⟩, fun _ => el⟩
/-- two operands that may be constants -/
theorem rk2_ok (s : S1) (i x y : Int32) (h : Ic s i) (hx0 : 0 ≤ x) (hx : Rq s (pq s) x) (hy0 : 0 ≤ y) (hy : Rq s (pq s) y) {α : Type} (f : Int32 → Int64 → Int32 → Int64 → M α) (Q : α → S1 → Prop)
    (hf : ∀ s2 k1 v1 k2 v2, Ic s2 i → Hs s s2 → cu s2 = cu s → tp s2 = tp s → pq s2 = pq s → bs s2 = bs s → (∀ p j, wd s2 p j = wd s p j) → (∀ a u j, gA s2 a u j = gA s a u j) → (∀ a u j, gB s2 a u j = gB s a u j) → Vl false s2 k1 v1 → Vl false s2 k2 v2 → ok (f k1 v1 k2 v2) s2 Q) :
    ok (oB (M_Mo_rk_ (cu s) (tp s) (pq s) x) fun _ => oB (oGI 98 0) fun a => oB (oGL 99 0) fun b => oB (M_Mo_rk_ (cu s) (tp s) (pq s) y) fun _ => oB (oGI 98 0) fun c => oB (oGL 99 0) fun d => f a b c d) s Q := by
  simp only [ok_B, ok_C, ok_R, ok_L, ok_K, ok_GI, ok_GL, ok_PI, ok_PL, ok_AI, ok_AL, ok_SI, ok_SL, ok_Pr, ok_CI, cmp_lt, cmp_le, cmp_gt, cmp_ge, cmp_eq, nar0, nar1, Sum.elim_inl, Sum.elim_inr]
  refine ok_mono (rk_ok s i x h hx0 hx) fun _ s1 ⟨k1, v1, e1, q1⟩ => ?_
  have r1 : Rf s s1 := ⟨k1, v1, e1⟩
  have i1 := r1.ic h
  obtain ⟨c1, c2, c3, c4, c5, c6, c7, c8⟩ := r1.same
  have g98 : gI s1 98 0 = k1 ∧ gL s1 99 0 = v1 := by
    rw [e1]
    simp only [gI_sI, gI_sL, gI_sA, gI_sB, gI_sAf, gI_sBf, gL_sI, gL_sL, gL_sA, gL_sB, gL_sAf, gL_sBf, gA_sI, gA_sL, gA_sA, gA_sB, gA_sAf, gA_sBf, gB_sI, gB_sL, gB_sA, gB_sB, gB_sAf, gB_sBf, Nat.reduceEqDiff, Nat.reduceMul, Nat.reduceAdd, false_and, true_and, and_true, and_false, if_true, if_false]
  rw [g98.1, g98.2]
  have hy' : Rq s1 (pq s1) y := by
    unfold Rq at *
    rw [c3]
    simp only [a_registers, a_consts, c7] at *
    exact hy
  have w := rk_ok s1 i y i1 hy0 hy'
  rw [c1, c2, c3] at w
  refine ok_mono w fun _ s2 ⟨k2, v2, e2, q2⟩ => ?_
  have r2 : Rf s1 s2 := ⟨k2, v2, e2⟩
  have i2 := r2.ic i1
  obtain ⟨d1, d2, d3, d4, d5, d6, d7, d8⟩ := r2.same
  have g99 : gI s2 98 0 = k2 ∧ gL s2 99 0 = v2 := by
    rw [e2]
    simp only [gI_sI, gI_sL, gI_sA, gI_sB, gI_sAf, gI_sBf, gL_sI, gL_sL, gL_sA, gL_sB, gL_sAf, gL_sBf, gA_sI, gA_sL, gA_sA, gA_sB, gA_sAf, gA_sBf, gB_sI, gB_sL, gB_sA, gB_sB, gB_sAf, gB_sBf, Nat.reduceEqDiff, Nat.reduceMul, Nat.reduceAdd, false_and, true_and, and_true, and_false, if_true, if_false]
  rw [g99.1, g99.2]
  have hh : Hs s s2 := ⟨fun a i j p => (d7 a i j).trans (c7 a i j), fun a i j p => (d8 a i j).trans (c8 a i j), fun f i p => (r2.hs.2.2 f i p).trans (r1.hs.2.2 f i p)⟩
  exact hf s2 k1 v1 k2 v2 i2 hh (d1.trans c1) (d2.trans c2) (d3.trans c3) (d4.trans c4) (fun p j => (d5 p j).trans (c5 p j)) (fun a u j => (d7 a u j).trans (c7 a u j)) (fun a u j => (d8 a u j).trans (c8 a u j)) ((Vl.hs hh).mpr q1) ((Vl.hs r2.hs).mpr q2)
theorem arithmetic_ok (s : S1) (i : Int32) (h : Ic s i) (ho : 13 ≤ iO (wd s (pq s) i) ∧ iO (wd s (pq s) i) ≤ 26) : ok (M_Mo_arithmetic (cu s) (tp s) (pq s) (wd s (pq s) i) (iO (wd s (pq s) i)) 19 (cu s) (bs s + iA (wd s (pq s) i))) s (fun _ s' => Out s') := by
  have wn := Wn.all h
  have n := top_num h.1 h.2.1.1 h.2.1.2.1
  obtain ⟨t1, t2, t3, t4, t5, t6, t7, t8, t9, t10, t11, -⟩ := h.1.top h.2.1.1 h.2.1.2.1
  have hp : Pl s i := Pl.op (op_arith _ ho)
  obtain ⟨w0, w1, w3, w4, w5, w6, w7, w8, w10, w11, w12, w13, w29, w30, w31, w34, w35, w36, w37, w38, w39, w40, w41, w42, w43, w44, w45, wl, x2, x17, x18⟩ := wn
  have ho4 : 13 ≤ iO (wd s (pq s) i) ∧ iO (wd s (pq s) i) ≤ 26 ∧ iO (wd s (pq s) i) ≠ 17 ∧ iO (wd s (pq s) i) ≠ 18 := ⟨ho.1, ho.2, x17, x18⟩
  simp only [M_Mo_arithmetic, M_Mo_b, M_Mo_c, ok_B, ok_C, ok_R, ok_L, ok_K, ok_GI, ok_GL, ok_PI, ok_PL, ok_AI, ok_AL, ok_SI, ok_SL, ok_Pr, ok_CI, cmp_lt, cmp_le, cmp_gt, cmp_ge, cmp_eq, nar0, nar1, Sum.elim_inl, Sum.elim_inr]
  refine ⟨fun c => ?_, fun c => ?_⟩
  · have q : Rr s (pq s) (iA (wd s (pq s) i)) ∧ Rq s (pq s) (iB (wd s (pq s) i)) ∧ Rq s (pq s) (iC (wd s (pq s) i)) := w13 (op_arith2 _ ho x17 x18 c)
    have key := rk2_ok s i (iB (wd s (pq s) i)) (iC (wd s (pq s) i)) h (iB_in _).1 q.2.1 (iC_in _).1 q.2.2 (fun k1 v1 k2 v2 => M_Mo_arithmetic_j106 (wd s (pq s) i) (iO (wd s (pq s) i)) 19 (cu s) (bs s + iA (wd s (pq s) i)) k1 v1 k2 v2) (fun _ s' => Out s') (fun s2 k1 v1 k2 v2 i2 hs e1 e2 e3 e4 e5 e6 e7 u1 u2 => by
      have a := arith106_ok s2 i k1 k2 v1 v2 i2 u1 u2 (by rw [e3, e5]; exact ho4) (by rw [e3, e5]; show _ < gA s2 44 0 _; rw [e6]; exact q.1) (hp.of e3 e5)
      rw [e1, e3, e4, e5] at a
      exact a)
    simp only [ok_B, ok_C, ok_R, ok_L, ok_K, ok_GI, ok_GL, ok_PI, ok_PL, ok_AI, ok_AL, ok_SI, ok_SL, ok_Pr, ok_CI, cmp_lt, cmp_le, cmp_gt, cmp_ge, cmp_eq, nar0, nar1, Sum.elim_inl, Sum.elim_inr] at key
    exact key
  · have q : Rr s (pq s) (iA (wd s (pq s) i)) ∧ Rr s (pq s) (iB (wd s (pq s) i)) := w0 (op_arith3 _ ho c)
    obtain ⟨q1, q2⟩ := t11 _ (iB_in (wd s (pq s) i)).1 q.2
    have q3 : 0 ≤ bs s + iB (wd s (pq s) i) ∧ bs s + iB (wd s (pq s) i) < 4300 := ⟨q1.1, Int32.lt_trans q1.2 (by decide)⟩
    exact ⟨n.2.2, q3, n.2.2, q3, arith106_ok s i _ _ _ _ h q2 q2 ho4 q.1 hp⟩
