/-! The class: errors, calls, reads. -/
theorem cV.at5 {L : Int32 → Int32 → Prop} {v : Int64} (h : cV L 5 v) : L v.toInt32 5 := by
  rcases h with h | h | h
  · exact absurd h.2 (by decide)
  · exact h.2.2
  · exact absurd h.1 (by decide)
theorem cV.at4 {L : Int32 → Int32 → Prop} {v : Int64} (h : cV L 4 v) : L v.toInt32 4 := by
  rcases h with h | h | h
  · exact absurd h.2 (by decide)
  · exact h.2.2
  · exact absurd h.1 (by decide)
theorem cV.at7 {L : Int32 → Int32 → Prop} {v : Int64} (h : cV L 7 v) : L v.toInt32 7 := by
  rcases h with h | h | h
  · exact absurd h.2 (by decide)
  · exact h.2.2
  · exact absurd h.1 (by decide)
theorem cV.lit {L : Int32 → Int32 → Prop} {k : Int32} {v : Int64} (h : 0 ≤ k ∧ k ≤ 3) : cV L k v := .inl h
theorem i64_32 (x : Int32) : x.toInt64.toInt32 = x := by simp
theorem cV.obj {L : Int32 → Int32 → Prop} {k x : Int32} (hk : k = 4 ∨ k = 5 ∨ k = 7) (x0 : 0 ≤ x) (h : L x k) : cV L k x.toInt64 := by
  refine .inr (.inl ⟨hk, ⟨?_, ?_⟩, ?_⟩)
  · rw [Int64.le_iff_toInt_le, Int32.toInt_toInt64]
    rw [i32_le] at x0
    exact x0
  · rw [i64_32]
  · rw [i64_32]
    exact h
theorem cV.fun_ {L : Int32 → Int32 → Prop} {x : Int32} (x0 : 0 ≤ x) (h : L x 6 ∨ L x 9) : cV L 6 x.toInt64 := by
  refine .inr (.inr ⟨rfl, .inr ⟨⟨?_, ?_⟩, ?_⟩⟩)
  · rw [Int64.le_iff_toInt_le, Int32.toInt_toInt64]
    rw [i32_le] at x0
    exact x0
  · rw [i64_32]
  · rw [i64_32]
    exact h
/-- rows and registers are as they were -/
theorem lw.pure {b : Bool} {s t : S1} {n : Nat × Nat} (k : lw b s t) (W : cW s n) (e : t.2.2 = s.2.2) (sz : ∀ f j, f = 16898 ∨ f = 17666 ∨ f = 18050 ∨ f = 19462 → gI t f j = gI s f j) (jv : ∀ j, gL t 19463 j = gL s 19463 j) : rgV t ∧ cRow (cLv false s) t 132 ∧ cRow (cLv false s) t 138 ∧ cRow (cLv false s) t 141 := by
  have eA : ∀ a j q, gA t a j q = gA s a j q := fun a j q => by
    show t.2.2.1 a j q = s.2.2.1 a j q
    rw [e]
  have eB : ∀ a j q, gB t a j q = gB s a j q := fun a j q => by
    show t.2.2.2 a j q = s.2.2.2 a j q
    rw [e]
  have co := (W.hi.dep W.cur).1
  have row : ∀ r, r = 132 ∨ r = 138 ∨ r = 141 → cRow (cLv false s) s r → cRow (cLv false s) t r := fun r hr z => z.up (fun _ _ q => q) (sz _ _ (by omega)) (fun j => eA _ _ _) (fun j => eB _ _ _)
  refine ⟨⟨fun i i0 i1 => ?_, fun o => ?_⟩, row _ (by decide) W.args, row _ (by decide) W.opn, row _ (by decide) W.last⟩
  · rw [k.cur, k.usd] at i1
    rw [k.cur, k.lv', show oRk t (mCur s) i = oRk s (mCur s) i from eA _ _ _, show oRv t (mCur s) i = oRv s (mCur s) i from eB _ _ _]
    exact co.2.1.2 i i0 i1
  · rw [k.cur, k.dep] at o
    rw [k.etF, k.lv', show mJk t (tF s) = mJk s (tF s) from sz _ _ (by decide), show mJv t (tF s) = mJv s (tF s) from jv _]
    obtain ⟨j, j0, j1, -, -, e'⟩ := tF_of W o
    rw [e']
    exact (co.2.2.1.2 j j0 j1).2
/-- an error is told -/
def flQ (s t : S1) : Prop := (∀ f j, f ≠ 16396 ∧ f ≠ 16399 ∧ f ≠ 16401 → gI t f j = gI s f j) ∧ (∀ f j, f ≠ 16400 → gL t f j = gL s f j) ∧ t.2.2 = s.2.2 ∧ gI t 16396 0 = 5
theorem raise_ok (k : Int32) (v : Int64) (s : S1) : ok (M_Ma_raise k v) s (fun _ t => flQ s t ∧ gI t 16399 0 = k ∧ gL t 16400 0 = v) := by
  simp only [M_Ma_raise, ok_B, ok_C, ok_R, ok_L, ok_K, ok_GI, ok_GL, ok_PI, ok_PL, ok_AI, ok_AL, ok_SI, ok_SL, ok_CI, cmp_lt, cmp_le, cmp_gt, cmp_ge, cmp_eq, nar0, nar1, Sum.elim_inl, Sum.elim_inr, ok_PzT, ok_PzC, ok_PzP, ok_PrC, ok_PrP, ok_PrF, ok_PrN, ok_Ln, ok_CL, ok_Nw, ok_S, ok_Ks, ok_Nz]
  refine ⟨⟨fun f j q => ?_, fun f j q => ?_, rfl, ?_⟩, ?_, ?_⟩
  · simp only [gI_sI, gI_sL]
    rw [if_neg (fun z => q.1 z.1), if_neg (fun z => q.2.2 z.1), if_neg (fun z => q.2.1 z.1)]
  · simp only [gL_sI, gL_sL]
    rw [if_neg (fun z => q z.1)]
  · simp only [gI_sI, gI_sL, gI_sA, gI_sB, gI_sAf, gI_sBf, gL_sI, gL_sL, gL_sA, gL_sB, gL_sAf, gL_sBf, gA_sI, gA_sL, gA_sA, gA_sB, gA_sAf, gA_sBf, gB_sI, gB_sL, gB_sA, gB_sB, gB_sAf, gB_sBf, Nat.reduceEqDiff, Nat.reduceMul, Nat.reduceAdd, false_and, true_and, and_true, and_false, if_true, if_false]
  · simp only [gI_sI, gI_sL, gI_sA, gI_sB, gI_sAf, gI_sBf, gL_sI, gL_sL, gL_sA, gL_sB, gL_sAf, gL_sBf, gA_sI, gA_sL, gA_sA, gA_sB, gA_sAf, gA_sBf, gB_sI, gB_sL, gB_sA, gB_sB, gB_sAf, gB_sBf, Nat.reduceEqDiff, Nat.reduceMul, Nat.reduceAdd, false_and, true_and, and_true, and_false, if_true, if_false]
  · simp only [gI_sI, gI_sL, gI_sA, gI_sB, gI_sAf, gI_sBf, gL_sI, gL_sL, gL_sA, gL_sB, gL_sAf, gL_sBf, gA_sI, gA_sL, gA_sA, gA_sB, gA_sAf, gA_sBf, gB_sI, gB_sL, gB_sA, gB_sB, gB_sAf, gB_sBf, Nat.reduceEqDiff, Nat.reduceMul, Nat.reduceAdd, false_and, true_and, and_true, and_false, if_true, if_false]
theorem fail_ok (e : Int32) (s : S1) : ok (M_Ma_fail e) s (fun _ t => flQ s t ∧ gI t 16399 0 = 3) := by
  simp only [M_Ma_fail, M_Ma_fail_j19, ok_B, ok_C, ok_R, ok_L, ok_K, ok_GI, ok_GL, ok_PI, ok_PL, ok_AI, ok_AL, ok_SI, ok_SL, ok_CI, cmp_lt, cmp_le, cmp_gt, cmp_ge, cmp_eq, nar0, nar1, Sum.elim_inl, Sum.elim_inr, ok_PzT, ok_PzC, ok_PzP, ok_PrC, ok_PrP, ok_PrF, ok_PrN, ok_Ln, ok_CL, ok_Nw, ok_S, ok_Ks, ok_Nz]
  refine ok_mono (raise_ok 3 e.toInt64 s) ?_
  rintro - t ⟨⟨f1, f2, f3, f4⟩, f5, -⟩
  have key : ∀ b : Int32, flQ s (sI t 16401 0 b) ∧ gI (sI t 16401 0 b) 16399 0 = 3 := fun b => by
    refine ⟨⟨fun f j q => ?_, f2, f3, ?_⟩, ?_⟩
    · rw [gI_sI, if_neg (fun z => q.2.2 z.1)]
      exact f1 f j q
    · rw [gI_sI, if_neg (fun z => absurd z.1 (by decide))]
      exact f4
    · rw [gI_sI, if_neg (fun z => absurd z.1 (by decide))]
      exact f5
  exact ⟨fun _ => ⟨by decide, key 1⟩, fun _ => ⟨by decide, key 0⟩⟩
theorem flQ.lw {s t : S1} (h : flQ s t) : lw true s t := by
  obtain ⟨f1, f2, f3, f4⟩ := h
  have eA : ∀ a j q, gA t a j q = gA s a j q := fun a j q => by
    show t.2.2.1 a j q = s.2.2.1 a j q
    rw [f3]
  have eB : ∀ a j q, gB t a j q = gB s a j q := fun a j q => by
    show t.2.2.2 a j q = s.2.2.2 a j q
    rw [f3]
  refine ⟨fun f j q => f1 f j (by unfold lwX at q; omega), fun j _ => ⟨f1 _ _ (by decide), f1 _ _ (by decide)⟩, fun j _ => ⟨f1 _ _ (by decide), f2 _ _ (by decide)⟩, fun f j q => f2 f j q.2.1, fun a j k _ => eA a j k, fun j k _ => eA _ j k, fun a j k _ => eB a j k, fun j k _ => eB _ j k⟩
theorem flQ.w {s t : S1} {n : Nat × Nat} {τ : Bool} (h : flQ s t) (W : cW s n) (F : qFr τ s) : cW t n ∧ qFr τ t := by
  have l := h.lw
  have F0 : qFr false s := by
    cases τ with
    | true => exact F.weak
    | false => exact F
  obtain ⟨p1, p2, p3, p4⟩ := l.pure W h.2.2.1 (fun f j q => h.1 f j (by omega)) (fun j => h.2.1 _ _ (by decide))
  exact ⟨l.w W F0 p1 p2 p3 p4, l.fr W F (fun _ => rfl)⟩
theorem flQ.ix {s t : S1} {n : Nat × Nat} {i w : Int32} (h : flQ s t) (x : Ix s n i w) : Ix t n i w := by
  have l := h.lw
  obtain ⟨p1, p2, p3, p4⟩ := l.pure x.w h.2.2.1 (fun f j q => h.1 f j (by omega)) (fun j => h.2.1 _ _ (by decide))
  exact x.lw l p1 p2 p3 p4
/-- a value of a table is called -/
def ceQ (s t : S1) : Prop := (∀ f j, f ≠ 16396 ∧ f ≠ 16397 ∧ f ≠ 16898 → gI t f j = gI s f j) ∧ (∀ f j, f ≠ 16398 → gL t f j = gL s f j) ∧ (∀ a j k, a ≠ 133 → gA t a j k = gA s a j k) ∧ (∀ a j k, a ≠ 134 → gB t a j k = gB s a j k) ∧ gI t 16396 0 = 1 ∧ cV (cLv false s) (gI t 16397 0) (gL t 16398 0) ∧ cRow (cLv false s) t 132 ∧ (rwS t 132).toInt ≤ 3
theorem cRow.nil {L : Int32 → Int32 → Prop} {s : S1} {r : Nat} (h : rwS s r = 0) : cRow L s r := by
  refine ⟨?_, fun i i0 i1 => ?_⟩
  · show 0 ≤ rwS s r ∧ rwS s r ≤ 512
    rw [h]
    decide
  · change i < rwS s r at i1
    rw [h, i32_lt] at i1
    rw [i32_le] at i0
    omega
theorem callEntry_ok {s : S1} {at_ k k' : Int32} {v v' : Int64} (H : cHI s) (hat : inT s at_) (hv : cV (cLv false s) k v) (hv' : cV (cLv false s) k' v') : ok (M_Ma_callEntry at_ k v k' v') s (fun _ t => ceQ s t ∧ (rwS t 132).toInt = 2) := by
  have e0 : (0 : Int32).toInt = 0 := rfl
  obtain ⟨b1, -, b2⟩ := hat.v H
  simp only [M_Ma_callEntry, ok_B, ok_C, ok_R, ok_L, ok_K, ok_GI, ok_GL, ok_PI, ok_PL, ok_AI, ok_AL, ok_SI, ok_SL, ok_CI, cmp_lt, cmp_le, cmp_gt, cmp_ge, cmp_eq, nar0, nar1, Sum.elim_inl, Sum.elim_inr, ok_PzT, ok_PzC, ok_PzP, ok_PrC, ok_PrP, ok_PrF, ok_PrN, ok_Ln, ok_CL, ok_Nw, ok_S, ok_Ks, ok_Nz]
  refine ⟨b1, b1, ?_⟩
  generalize ht1 : sL (sI s 16397 0 (gA s 123 0 at_)) 16398 0 (gB (sI s 16397 0 (gA s 123 0 at_)) 124 0 at_) = t1
  have g1 : ∀ f j, f ≠ 16397 → gI t1 f j = gI s f j := fun f j q => by
    rw [← ht1, gI_sL, gI_sI, if_neg (fun z => q z.1)]
  have g2 : ∀ f j, f ≠ 16398 → gL t1 f j = gL s f j := fun f j q => by
    rw [← ht1, gL_sL, if_neg (fun z => q z.1)]
    rfl
  have g3 : ∀ a j q, gA t1 a j q = gA s a j q := fun a j q => by
    rw [← ht1]
    rfl
  have g4 : ∀ a j q, gB t1 a j q = gB s a j q := fun a j q => by
    rw [← ht1]
    rfl
  have g5 : gI t1 16397 0 = cVk s at_ := by
    rw [← ht1, gI_sL, gI_sI, if_pos ⟨rfl, rfl⟩]
  have g6 : gL t1 16398 0 = cVv s at_ := by
    rw [← ht1, gL_sL, if_pos ⟨rfl, rfl⟩]
    rfl
  refine ok_mono (rClear_ok 132 t1) ?_
  rintro - t2 ⟨x2, z2⟩
  refine ok_mono (rAdd_ok (L := cLv false s) (cRow.nil z2) hv) ?_
  rintro - t3 ⟨x3, c3, q3, -⟩
  refine ok_mono (rAdd_ok (L := cLv false s) c3 hv') ?_
  rintro - t4 ⟨x4, c4, q4, -⟩
  rw [z2] at q3
  have n3 := (q3 (by decide)).1
  have n4 := (q4 (by omega)).1
  have cx := (x2.trans x3).trans x4
  refine ⟨⟨fun f j q => ?_, fun f j q => ?_, fun a j q z => ?_, fun a j q z => ?_, ?_, ?_, ?_, ?_⟩, ?_⟩
  · rw [gI_sI, if_neg (fun z => q.1 z.1), cx.1 f j q.2.2]
    exact g1 f j q.2.1
  · rw [gL_sI, cx.2.1]
    exact g2 f j q
  · rw [gA_sI, cx.2.2.1 a j q z]
    exact g3 a j q
  · rw [gB_sI, cx.2.2.2 a j q z]
    exact g4 a j q
  · rw [gI_sI, if_pos ⟨rfl, rfl⟩]
  · rw [gI_sI, if_neg (fun z => absurd z.1 (by decide)), gL_sI, cx.1 _ _ (by decide), cx.2.1, g5, g6]
    exact b2
  · exact c4
  · show (rwS t4 132).toInt ≤ 3
    omega
  · show (rwS t4 132).toInt = 2
    omega
theorem ceQ.lw {s t : S1} (h : ceQ s t) : lw true s t := by
  obtain ⟨f1, f2, f3, f4, -⟩ := h
  exact ⟨fun f j q => f1 f j (by unfold lwX at q; omega), fun j _ => ⟨f1 _ _ (by decide), f1 _ _ (by decide)⟩, fun j _ => ⟨f1 _ _ (by decide), f2 _ _ (by decide)⟩, fun f j q => f2 f j q.1, fun a j k q => f3 a j k q.1, fun j k _ => f3 _ j k (by decide), fun a j k q => f4 a j k q.1, fun j k _ => f4 _ j k (by decide)⟩
theorem ceQ.kept {s t : S1} {n : Nat × Nat} (h : ceQ s t) (W : cW s n) : rgV t ∧ cRow (cLv false s) t 132 ∧ cRow (cLv false s) t 138 ∧ cRow (cLv false s) t 141 := by
  have k := h.lw
  obtain ⟨f1, f2, f3, f4, f5, f6, f7, f8⟩ := h
  have co := (W.hi.dep W.cur).1
  refine ⟨⟨fun i i0 i1 => ?_, fun o => ?_⟩, f7, W.opn.up (fun _ _ q => q) (f1 _ _ (by decide)) (fun j => f3 _ _ _ (by decide)) (fun j => f4 _ _ _ (by decide)), W.last.up (fun _ _ q => q) (f1 _ _ (by decide)) (fun j => f3 _ _ _ (by decide)) (fun j => f4 _ _ _ (by decide))⟩
  · rw [k.cur, k.usd] at i1
    rw [k.cur, k.lv', show oRk t (mCur s) i = oRk s (mCur s) i from f3 _ _ _ (by decide), show oRv t (mCur s) i = oRv s (mCur s) i from f4 _ _ _ (by decide)]
    exact co.2.1.2 i i0 i1
  · rw [k.cur, k.dep] at o
    rw [k.etF, k.lv', show mJk t (tF s) = mJk s (tF s) from f1 _ _ (by decide), show mJv t (tF s) = mJv s (tF s) from f2 _ _ (by decide)]
    obtain ⟨j, j0, j1, -, -, e'⟩ := tF_of W o
    rw [e']
    exact (co.2.2.1.2 j j0 j1).2
theorem ceQ.ix {s t : S1} {n : Nat × Nat} {i w : Int32} (h : ceQ s t) (x : Ix s n i w) : Ix t n i w := by
  obtain ⟨p1, p2, p3, p4⟩ := h.kept x.w
  exact x.lw h.lw p1 p2 p3 p4
/-- how an instruction's work may end -/
def Oi (s : S1) (n : Nat × Nat) (i w : Int32) (t : S1) : Prop := Ix t n i w ∧ (gI t 19461 (tF t) = gI s 19461 (tF s) ∧ gI t 19464 (tF t) = gI s 19464 (tF s) ∧ gI t 16390 0 = gI s 16390 0) ∧ (gI t 16396 0 = gI s 16396 0 ∨ (gI t 16396 0 = 1 ∧ dCl (dO w).toInt ∧ cV (cLv false t) (gI t 16397 0) (gL t 16398 0)) ∨ (gI t 16396 0 = 5 ∧ cV (cLv false t) (gI t 16399 0) (gL t 16400 0)))
theorem flQ.oi {s t : S1} {n : Nat × Nat} {i w : Int32} (h : flQ s t) (k : gI t 16399 0 = 3) (x : Ix s n i w) : Oi s n i w t := by
  refine ⟨h.ix x, ?_, .inr (.inr ⟨h.2.2.2, ?_⟩)⟩
  · rw [h.lw.etF]
    exact ⟨h.1 _ _ (by decide), h.1 _ _ (by decide), h.1 _ _ (by decide)⟩
  · rw [k]
    exact cV.lit (by decide)
theorem dCl_of {w k : Int32} (o : dO w = k) (h : dCl k.toInt) : dCl (dO w).toInt := by
  rw [o]
  exact h
theorem ceQ.oi {s t : S1} {n : Nat × Nat} {i w : Int32} (h : ceQ s t) (x : Ix s n i w) (hc : dCl (dO w).toInt) : Oi s n i w t := by
  refine ⟨h.ix x, ?_, .inr (.inl ⟨h.2.2.2.2.1, hc, ?_⟩)⟩
  · rw [h.lw.etF]
    exact ⟨h.1 _ _ (by decide), h.1 _ _ (by decide), h.1 _ _ (by decide)⟩
  · rw [h.lw.lv']
    exact h.2.2.2.2.2.1
theorem stQ.oi {s t : S1} {n : Nat × Nat} {i w r k : Int32} {v : Int64} (h : stQ s n i w r k v t) : Oi s n i w t := by
  have e : tF t = tF s := by
    unfold tF mCur oD
    rw [h.2.1, h.2.1]
  refine ⟨h.1, ?_, .inl (h.2.1 _ _)⟩
  rw [e]
  exact ⟨h.2.1 _ _, h.2.1 _ _, h.2.1 _ _⟩
theorem Oi.refl {s : S1} {n : Nat × Nat} {i w : Int32} (x : Ix s n i w) : Oi s n i w s := ⟨x, ⟨rfl, rfl, rfl⟩, .inl rfl⟩
theorem failJ_ok {s : S1} {n : Nat × Nat} {i w : Int32} (e : Int32) (x : Ix s n i w) : ok (M_Ma_fail e) s (fun _ t => Oi s n i w t ∧ gI t 16396 0 = 5) := by
  refine ok_mono (fail_ok e s) ?_
  rintro - t ⟨h, k⟩
  exact ⟨h.oi k x, h.2.2.2⟩
theorem failI_ok {s : S1} {n : Nat × Nat} {i w : Int32} (e : Int32) (x : Ix s n i w) : ok (M_Ma_fail e) s (fun _ t => Oi s n i w t) := by
  refine ok_mono (fail_ok e s) ?_
  rintro - t ⟨h, k⟩
  exact h.oi k x
def rdP (s : S1) (kk : Int32) (vv : Int64) (e : Unit ⊕ Int32 ⊕ Unit ⊕ (Int32 × Int64 × Int32 × Int64 × Int32) ⊕ Unit) (s' : S1) : Prop := s' = s ∧ (∀ p, e = .inr (.inl p) → inT s p) ∧ ∀ y, e = .inr (.inr (.inr (.inl y))) → y.1 = kk ∧ y.2.1 = vv ∧ cV (cLv false s) y.2.2.1 y.2.2.2.1 ∧ inT s y.2.2.2.2
theorem fd_inT {s : S1} {x p : Int32} (hx : cLv false s x 5) (h : p = -1 ∨ ∃ i, 0 ≤ i ∧ i < cE s x ∧ p = cS0 s x + i) (c : ¬ p < 0) : inT s p := by
  rcases h with rfl | ⟨i, i0, i1, rfl⟩
  · exact absurd (show (-1 : Int32) < 0 by decide) c
  · exact ⟨x, i, hx, i0, i1, rfl⟩
theorem read_ok {s : S1} {n : Nat × Nat} {i w k kk : Int32} {v vv : Int64} (x : Ix s n i w) (hcl : dCl (dO w).toInt) (hA : (dA w).toInt < pNr s (fPr s (tF s))) (hv : cV (cLv false s) k v) (hk : cV (cLv false s) kk vv) : ok (M_St_read k v kk vv) s (fun _ t => Oi s n i w t) := by
  have e0 : (0 : Int32).toInt = 0 := rfl
  have e1 : (1 : Int32).toInt = 1 := rfl
  have e100 : (100 : Int32).toInt = 100 := rfl
  have H := x.w.hi
  have a21 := x.2.2.2.2.2.2.1.2.1
  simp only [M_St_read, ok_B, ok_C, ok_R, ok_L, ok_K, ok_GI, ok_GL, ok_PI, ok_PL, ok_AI, ok_AL, ok_SI, ok_SL, ok_CI, cmp_lt, cmp_le, cmp_gt, cmp_ge, cmp_eq, nar0, nar1, Sum.elim_inl, Sum.elim_inr, ok_PzT, ok_PzC, ok_PzP, ok_PrC, ok_PrP, ok_PrF, ok_PrN, ok_Ln, ok_CL, ok_Nw, ok_S, ok_Ks, ok_Nz]
  refine ok_mono (P := rdP s kk vv) (ok_W (fun y t => t = s ∧ (y.1 = kk ∧ y.2.1 = vv) ∧ cV (cLv false s) y.2.2.1 y.2.2.2.1 ∧ 0 ≤ y.2.2.2.2.toInt ∧ y.2.2.2.2.toInt ≤ 100) (fun y _ => (100 - y.2.2.2.2.toInt).toNat) ?_ (kk, vv, k, v, 0) s ⟨rfl, ⟨rfl, rfl⟩, hv, Int.le_refl _, by dsimp only; omega⟩) ?_
  · rintro ⟨k1, v1, k2, v2, h⟩ t ⟨et, ⟨ek, ev⟩, cv, h0, h1⟩
    dsimp only at ek ev cv h0 h1
    subst et ek ev
    have j94 : k2 = 5 → ¬ 100 ≤ h → ok (M_St_read_j94 k1 v1 k2 v2 h) t (fun y s' => Sum.elim (fun z => (s' = t ∧ (z.1 = k1 ∧ z.2.1 = v1) ∧ cV (cLv false t) z.2.2.1 z.2.2.2.1 ∧ 0 ≤ z.2.2.2.2.toInt ∧ z.2.2.2.2.toInt ≤ 100) ∧ (100 - z.2.2.2.2.toInt).toNat < (100 - h.toInt).toNat) (fun e => rdP t k1 v1 e s') y) := fun k5 nh => by
      rw [i32_le] at nh
      have eh : (h + 1).toInt = h.toInt + 1 := by rw [ktI_add] <;> omega
      simp only [M_St_read_j94, ok_B, ok_C, ok_R, ok_L, ok_K, ok_GI, ok_GL, ok_PI, ok_PL, ok_AI, ok_AL, ok_SI, ok_SL, ok_CI, cmp_lt, cmp_le, cmp_gt, cmp_ge, cmp_eq, nar0, nar1, Sum.elim_inl, Sum.elim_inr, ok_PzT, ok_PzC, ok_PzP, ok_PrC, ok_PrP, ok_PrF, ok_PrN, ok_Ln, ok_CL, ok_Nw, ok_S, ok_Ks, ok_Nz]
      refine ok_mono (findEvent_ok H k2 v2 0 (fun z => by rw [z] at cv; exact cv.at5) ⟨Int.le_refl _, by decide⟩) ?_
      rintro p u ⟨es, hp⟩
      subst es
      refine ⟨fun c => ?_, fun c => ⟨rfl, fun p z => by simp at z, fun y z => by simp at z⟩⟩
      have it : inT u p := by
        rcases hp with rfl | z
        · exact absurd c (by decide)
        · exact z.2.1
      obtain ⟨b1, -, b3⟩ := it.v H
      refine ⟨b1, fun _ => ⟨rfl, fun p z => by simp at z, fun y z => ?_⟩, fun _ => ⟨b1, b1, ⟨by trivial, ⟨by trivial, by trivial⟩, b3, by omega, by omega⟩, by omega⟩⟩
      simp only [Sum.inr.injEq, Sum.inl.injEq] at z
      subst z
      exact ⟨rfl, rfl, cv, it⟩
    simp only [M_St_read_L9, ok_B, ok_C, ok_R, ok_L, ok_K, ok_GI, ok_GL, ok_PI, ok_PL, ok_AI, ok_AL, ok_SI, ok_SL, ok_CI, cmp_lt, cmp_le, cmp_gt, cmp_ge, cmp_eq, nar0, nar1, Sum.elim_inl, Sum.elim_inr, ok_PzT, ok_PzC, ok_PzP, ok_PrC, ok_PrP, ok_PrF, ok_PrN, ok_Ln, ok_CL, ok_Nw, ok_S, ok_Ks, ok_Nz]
    refine ⟨fun _ => ⟨rfl, fun p z => by simp at z, fun y z => by simp at z⟩, fun nh => ⟨fun k5 => ?_, fun _ => ⟨rfl, fun p z => by simp at z, fun y z => by simp at z⟩⟩⟩
    subst k5
    have l5 := cv.at5
    refine ok_mono (find_ok H l5 k1 v1) ?_
    rintro p u ⟨es, hp⟩
    subst es
    refine ⟨fun _ => j94 rfl nh, fun c => ?_⟩
    have it := fd_inT l5 hp c
    obtain ⟨b1, -, -⟩ := it.v H
    refine ⟨b1, fun _ => j94 rfl nh, fun _ => ⟨rfl, fun p z => ?_, fun y z => by simp at z⟩⟩
    simp only [Sum.inr.injEq, Sum.inl.injEq] at z
    subst z
    exact it
  · rintro e t ⟨es, q1, q2⟩
    subst es
    rcases e with u | p | u | y | u
    · simp only [Sum.elim_inl, Sum.elim_inr, ok_B, ok_C, ok_R, ok_L, ok_K, ok_GI, ok_GL, ok_PI, ok_PL, ok_AI, ok_AL, ok_SI, ok_SL, ok_CI, cmp_lt, cmp_le, cmp_gt, cmp_ge, cmp_eq, nar0, nar1, Sum.elim_inl, Sum.elim_inr, ok_PzT, ok_PzC, ok_PzP, ok_PrC, ok_PrP, ok_PrF, ok_PrN, ok_Ln, ok_CL, ok_Nw, ok_S, ok_Ks, ok_Nz]
      exact failI_ok 2 x
    · simp only [Sum.elim_inl, Sum.elim_inr, ok_B, ok_C, ok_R, ok_L, ok_K, ok_GI, ok_GL, ok_PI, ok_PL, ok_AI, ok_AL, ok_SI, ok_SL, ok_CI, cmp_lt, cmp_le, cmp_gt, cmp_ge, cmp_eq, nar0, nar1, Sum.elim_inl, Sum.elim_inr, ok_PzT, ok_PzC, ok_PzP, ok_PrC, ok_PrP, ok_PrF, ok_PrN, ok_Ln, ok_CL, ok_Nw, ok_S, ok_Ks, ok_Nz]
      have it := q1 p rfl
      obtain ⟨b1, -, b3⟩ := it.v H
      refine ⟨b1, b1, ?_⟩
      rw [a21]
      refine ok_mono (set_ok x (dA_in w).1 hA b3) ?_
      rintro - u st
      exact st.oi
    · simp only [Sum.elim_inl, Sum.elim_inr, ok_B, ok_C, ok_R, ok_L, ok_K, ok_GI, ok_GL, ok_PI, ok_PL, ok_AI, ok_AL, ok_SI, ok_SL, ok_CI, cmp_lt, cmp_le, cmp_gt, cmp_ge, cmp_eq, nar0, nar1, Sum.elim_inl, Sum.elim_inr, ok_PzT, ok_PzC, ok_PzP, ok_PrC, ok_PrP, ok_PrF, ok_PrN, ok_Ln, ok_CL, ok_Nw, ok_S, ok_Ks, ok_Nz]
      rw [a21]
      refine ok_mono (set_ok x (dA_in w).1 hA (cV.lit (by decide))) ?_
      rintro - u st
      exact st.oi
    · simp only [Sum.elim_inl, Sum.elim_inr, ok_B, ok_C, ok_R, ok_L, ok_K, ok_GI, ok_GL, ok_PI, ok_PL, ok_AI, ok_AL, ok_SI, ok_SL, ok_CI, cmp_lt, cmp_le, cmp_gt, cmp_ge, cmp_eq, nar0, nar1, Sum.elim_inl, Sum.elim_inr, ok_PzT, ok_PzC, ok_PzP, ok_PrC, ok_PrP, ok_PrF, ok_PrN, ok_Ln, ok_CL, ok_Nw, ok_S, ok_Ks, ok_Nz]
      obtain ⟨r1, r2, r3, r4⟩ := q2 y rfl
      refine ok_mono (callEntry_ok H r4 r3 (by rw [r1, r2]; exact hk)) ?_
      rintro - u ⟨ce, -⟩
      exact ce.oi x hcl
    · simp only [Sum.elim_inl, Sum.elim_inr, ok_B, ok_C, ok_R, ok_L, ok_K, ok_GI, ok_GL, ok_PI, ok_PL, ok_AI, ok_AL, ok_SI, ok_SL, ok_CI, cmp_lt, cmp_le, cmp_gt, cmp_ge, cmp_eq, nar0, nar1, Sum.elim_inl, Sum.elim_inr, ok_PzT, ok_PzC, ok_PzP, ok_PrC, ok_PrP, ok_PrF, ok_PrN, ok_Ln, ok_CL, ok_Nw, ok_S, ok_Ks, ok_Nz]
      exact failI_ok 4 x
