/-! The class: built ins that make coroutines, that call, that print; perform. -/
theorem coQ.w {s t : S1} {n : Nat × Nat} {τ : Bool} {v : Int64} {r : Int32 × (Nat × Nat)} (W : cW s n) (F : qFr τ s) (h : coQ s (0, 0) v r t) : mkW s τ r.2 t ∧ ((r.1 = -10 ∨ r.1 = -11) ∨ (0 ≤ r.1 ∧ cLv false t r.1 7)) := by
  obtain ⟨s0, g, h0, S, R, w | ⟨w1, w2, c, w3, w4⟩⟩ := h
  · have m := W.mg F g h0
    rw [w.2] at R ⊢
    exact ⟨⟨⟨m.1.1, m.1.2.1, m.1.2.2.1, m.1.2.2.2.1, R, m.1.2.2.2.2.2⟩, m.2⟩, .inl w.1⟩
  · have m := W.mg F g h0
    exact ⟨m.trans (m.1.nc m.2.1 w3 w4 w2 S R), .inr ⟨w1, w3.1⟩⟩
theorem Pf.f6 {s : S1} {n : Nat × Nat} (h : Pf s n) (c : rk s 132 0 = 6) : ∀ s0, cMg s s0 → cHR s0 → cV (cLv false s0) 6 (rv s 132 0) := fun s0 g h0 => by
  have m := h.w.mg h.1.2.1 g h0
  have w := args_m m.1.rt m.2.2 (i := 0) (by decide)
  rw [c] at w
  exact w
theorem create_ok {s : S1} {n : Nat × Nat} (h : Pf s n) (z0 : rwS s 135 = 0) : ok (M_Bu_create n) s (fun r t => Pq t r.2) := by
  have a5 := h.a5
  have W := h.w
  simp only [M_Bu_create, ok_B, ok_C, ok_R, ok_L, ok_K, ok_GI, ok_GL, ok_PI, ok_PL, ok_AI, ok_AL, ok_SI, ok_SL, ok_CI, cmp_lt, cmp_le, cmp_gt, cmp_ge, cmp_eq, nar0, nar1, Sum.elim_inl, Sum.elim_inr, ok_PzT, ok_PzC, ok_PzP, ok_PrC, ok_PrP, ok_PrF, ok_PrN, ok_Ln, ok_CL, ok_Nw, ok_S, ok_Ks, ok_Nz]
  refine ok_mono (hasFunction_ok h) ?_
  rintro r t (⟨r1, et, c⟩ | ⟨r0, q⟩)
  · rw [et]
    refine ⟨fun z => by rw [r1] at z; exact absurd z (by decide), fun _ => ?_⟩
    rw [ok_vA a5 (by decide)]
    refine ok_mono (makeCo_ok W.hr W.ro W.sf _ (h.f6 c)) ?_
    rintro x u q
    obtain ⟨mk, d⟩ := q.w W h.1.2.1
    refine made_ok (mk.pf h z0).1.1 ?_
    rcases d with z | z
    · exact .inl (neg_of z)
    · exact .inr (cV.obj (.inr (.inr rfl)) z.1 z.2)
  · exact ⟨fun _ => .inr q, fun z => absurd r0 z⟩
def wmQ (s : S1) (τ : Bool) (c : Int32) (r : Int32 × (Nat × Nat)) (t : S1) : Prop := (r.1 < 0 ∧ mkW s τ r.2 t) ∨ (0 ≤ r.1 ∧ pT t r.1 ∧ mkW s τ r.2 (sI t 18564 r.1 c) ∧ cLv false (sI t 18564 r.1 c) r.1 9)
theorem wrapMk {s : S1} {n : Nat × Nat} {τ : Bool} {c : Int32} (W : cW s n) (F : qFr τ s) (hc : ∀ s0, cMg s s0 → cHR s0 → cLv false s0 c 7) : ok (M_He_make n 9 0 0) s (wmQ s τ c) := by
  refine ok_mono (make_ok W.hr W.ro 9 0 0 ⟨by decide, by decide⟩ ⟨by decide, by decide⟩) ?_
  rintro ⟨x, m⟩ s1 ⟨s0, mg, h0, r0, w⟩
  dsimp only at w
  have m0 := W.mg F mg h0
  rcases w with ⟨w1, em, es⟩ | ⟨x0, md, -, r1⟩
  · left
    rw [em, es]
    exact ⟨neg_not w1, m0⟩
  · right
    have px := md.nw.2.1
    have fi : cFi x s1 (sI s1 18564 x c) := by
      refine ⟨fun f j q w => ?_, fun f j w => rfl, fun _ _ _ _ _ => rfl, fun _ _ _ _ _ => rfl, ?_, ?_, ?_, ?_⟩
      · rw [gI_sI, if_neg (not_j w _ (by decide))]
      · simp only [cTy, gI_sI, gI_sL, gI_sA, gI_sB, gI_sAf, gI_sBf, gL_sI, gL_sL, gL_sA, gL_sB, gL_sAf, gL_sBf, gA_sI, gA_sL, gA_sA, gA_sB, gA_sAf, gA_sBf, gB_sI, gB_sL, gB_sA, gB_sB, gB_sAf, gB_sBf, Nat.reduceEqDiff, Nat.reduceMul, Nat.reduceAdd, false_and, true_and, and_true, and_false, if_true, if_false]
      · simp only [cNu, gI_sI, gI_sL, gI_sA, gI_sB, gI_sAf, gI_sBf, gL_sI, gL_sL, gL_sA, gL_sB, gL_sAf, gL_sBf, gA_sI, gA_sL, gA_sA, gA_sB, gA_sAf, gA_sBf, gB_sI, gB_sL, gB_sA, gB_sB, gB_sAf, gB_sBf, Nat.reduceEqDiff, Nat.reduceMul, Nat.reduceAdd, false_and, true_and, and_true, and_false, if_true, if_false]
      · simp only [cSy, gI_sI, gI_sL, gI_sA, gI_sB, gI_sAf, gI_sBf, gL_sI, gL_sL, gL_sA, gL_sB, gL_sAf, gL_sBf, gA_sI, gA_sL, gA_sA, gA_sB, gA_sAf, gA_sBf, gB_sI, gB_sL, gB_sA, gB_sB, gB_sAf, gB_sBf, Nat.reduceEqDiff, Nat.reduceMul, Nat.reduceAdd, false_and, true_and, and_true, and_false, if_true, if_false]
      · simp only [gI_sI, gI_sL, gI_sA, gI_sB, gI_sAf, gI_sBf, gL_sI, gL_sL, gL_sA, gL_sB, gL_sAf, gL_sBf, gA_sI, gA_sL, gA_sA, gA_sB, gA_sAf, gA_sBf, gB_sI, gB_sL, gB_sA, gB_sB, gB_sAf, gB_sBf, Nat.reduceEqDiff, Nat.reduceMul, Nat.reduceAdd, false_and, true_and, and_true, and_false, if_true, if_false]
    have f1 : cLk (sI s1 18564 x c) x = c := by
      simp only [cLk, gI_sI, gI_sL, gI_sA, gI_sB, gI_sAf, gI_sBf, gL_sI, gL_sL, gL_sA, gL_sB, gL_sAf, gL_sBf, gA_sI, gA_sL, gA_sA, gA_sB, gA_sAf, gA_sBf, gB_sI, gB_sL, gB_sA, gB_sB, gB_sAf, gB_sBf, Nat.reduceEqDiff, Nat.reduceMul, Nat.reduceAdd, false_and, true_and, and_true, and_false, if_true, if_false]
    have R : cRo (sI s1 18564 x c) m (0, 0) := by
      refine cRo.fi (x := x) (r1.le (Nat.le_succ _) (by dsimp only; omega)) (fun f j q => ?_) (fun j _ => rfl)
      rcases q with rfl | rfl | rfl | rfl | rfl | rfl | rfl | rfl | rfl <;> simp only [gI_sI, gI_sL, gI_sA, gI_sB, gI_sAf, gI_sBf, gL_sI, gL_sL, gL_sA, gL_sB, gL_sAf, gL_sBf, gA_sI, gA_sL, gA_sA, gA_sB, gA_sAf, gA_sBf, gB_sI, gB_sL, gB_sA, gB_sB, gB_sAf, gB_sBf, Nat.reduceEqDiff, Nat.reduceMul, Nat.reduceAdd, false_and, true_and, and_true, and_false, if_true, if_false]
    dsimp only
    refine ⟨x0, px, ?_⟩
    generalize sI s1 18564 x c = t at fi f1 R ⊢
    have ty : cTy t x = 9 := fi.2.2.2.2.1.trans md.ty
    have nt := md.nt h0.1 fi (by decide)
    have pl := md.plain h0 r0.1.1.1 fi (.inr (.inr (.inr rfl))) ⟨cPv.of9 ty (by rw [f1]; exact (nt.2.1 _ _ (by decide) (hc s0 mg h0)).1), fun z => absurd (ty.symm.trans z) (by decide)⟩ (fun z => absurd z (by decide)) (fun z => absurd z (by decide))
    exact ⟨m0.trans (m0.1.nt m0.2.1 pl.2 pl.1 R (fun z => absurd z (by decide)) (fun z => absurd z (by decide))), nt.1⟩
theorem wrap_ok {s : S1} {n : Nat × Nat} (h : Pf s n) (z0 : rwS s 135 = 0) : ok (M_Bu_wrap n) s (fun r t => Pq t r.2) := by
  have a5 := h.a5
  have W := h.w
  have F := h.1.2.1
  simp only [M_Bu_wrap, M_Bu_wrap_j78, ok_B, ok_C, ok_R, ok_L, ok_K, ok_GI, ok_GL, ok_PI, ok_PL, ok_AI, ok_AL, ok_SI, ok_SL, ok_CI, cmp_lt, cmp_le, cmp_gt, cmp_ge, cmp_eq, nar0, nar1, Sum.elim_inl, Sum.elim_inr, ok_PzT, ok_PzC, ok_PzP, ok_PrC, ok_PrP, ok_PrF, ok_PrN, ok_Ln, ok_CL, ok_Nw, ok_S, ok_Ks, ok_Nz]
  refine ok_mono (hasFunction_ok h) ?_
  rintro r t (⟨r1, et, c⟩ | ⟨r0, q⟩)
  · rw [et]
    refine ⟨fun z => by rw [r1] at z; exact absurd z (by decide), fun _ => ?_⟩
    rw [ok_vA a5 (by decide)]
    refine ok_mono (makeCo_ok W.hr W.ro W.sf _ (h.f6 c)) ?_
    rintro ⟨x, m⟩ u q
    obtain ⟨mk, d⟩ := q.w W F
    dsimp only at mk d ⊢
    obtain ⟨pf, zu⟩ := mk.pf h z0
    refine ⟨fun x0 => ?_, fun _ => pf.1.fail _⟩
    have l7 : cLv false u x 7 := by
      rcases d with z | z
      · exact absurd x0 (by rcases z with z | z <;> rw [z] <;> decide)
      · exact z.2
    have vx : cV (cLv false u) 7 x.toInt64 := cV.obj (.inr (.inr rfl)) x0 l7
    refine ok_mono (rFirst_ok (r := 132) pf.w.args vx) ?_
    rintro - u1 ⟨kx, row, rf, rl⟩
    have s3 := pf.1.arg kx row
    have zu1 : rwS u1 135 = 0 := (kx.1 _ _ (by decide)).trans zu
    have an := pf.2
    obtain ⟨f1, f2, f3⟩ := rf (by omega)
    refine ok_mono (wrapMk (c := x) s3.1 s3.2.1 (fun s0 g h0 => ?_)) ?_
    · have m0 := s3.1.mg s3.2.1 g h0
      have w := args_m m0.1.rt m0.2.2 (i := 0) (by decide)
      have e0 : (0 : Int32).toInt = 0 := rfl
      have nz : ¬ rwS u1 132 ≤ 0 := fun z => by
        rw [i32_le] at z
        have := pf.w.args.n
        omega
      unfold rk rv at w
      rw [if_neg nz, if_neg nz, f2, f3] at w
      have := w.at7
      rw [i64_32] at this
      exact this
    · rintro ⟨y, m2⟩ u2 (⟨y0, k2⟩ | ⟨y0, py, k2, l9⟩)
      · dsimp only at y0 k2 ⊢
        refine ⟨fun _ => made_ok (k2.st3 s3 (cRow.nil ((k2.2.2.1 _ _ (.inl (by decide))).trans zu1))) (.inl y0), fun z => absurd y0 z⟩
      · dsimp only at y0 py k2 l9 ⊢
        refine ⟨fun z => ?_, fun _ => ⟨py, ?_⟩⟩
        · rw [i32_lt] at z
          rw [i32_le] at y0
          omega
        · exact made_ok (k2.st3 s3 (cRow.nil ((k2.2.2.1 _ _ (.inl (by decide))).trans zu1))) (.inr (cV.fun_ y0 (.inr l9)))
  · exact ⟨fun _ => .inr q, fun z => absurd r0 z⟩
theorem giveWay_ok {s : S1} {n : Nat × Nat} (h : Pf s n) : ok M_Bu_giveWay s (fun _ t => Pq t n) := by
  have W := h.w
  simp only [M_Bu_giveWay, ok_B, ok_C, ok_R, ok_L, ok_K, ok_GI, ok_GL, ok_PI, ok_PL, ok_AI, ok_AL, ok_SI, ok_SL, ok_CI, cmp_lt, cmp_le, cmp_gt, cmp_ge, cmp_eq, nar0, nar1, Sum.elim_inl, Sum.elim_inr, ok_PzT, ok_PzC, ok_PzP, ok_PrC, ok_PrP, ok_PrF, ok_PrN, ok_Ln, ok_CL, ok_Nw, ok_S, ok_Ks, ok_Nz]
  refine ⟨W.cur.1, fun c => ?_, fun _ => h.1.fail 9⟩
  refine ok_mono h.1.take ?_
  rintro - t ⟨q, k⟩
  have hr : 0 ≤ oRs t (mCur t) := by
    rw [show mCur t = mCur s from k.1 _ _ (by decide), show oRs t (mCur s) = oRs s (mCur s) from k.1 _ _ (by decide)]
    exact c
  refine ok_mono (handOver_ok (l := 0) q.1 q.2.1 q.2.2.1 q.2.2.2.2 hr (.inl rfl)) ?_
  rintro - u z
  exact z
theorem cleanUp_ok {s : S1} {n : Nat × Nat} (h : Pf s n) (z0 : rwS s 135 = 0) : ok M_Bu_cleanUp s (fun _ t => Pq t n) := by
  simp only [M_Bu_cleanUp, ok_B, ok_C, ok_R, ok_L, ok_K, ok_GI, ok_GL, ok_PI, ok_PL, ok_AI, ok_AL, ok_SI, ok_SL, ok_CI, cmp_lt, cmp_le, cmp_gt, cmp_ge, cmp_eq, nar0, nar1, Sum.elim_inl, Sum.elim_inr, ok_PzT, ok_PzC, ok_PzP, ok_PrC, ok_PrP, ok_PrF, ok_PrN, ok_Ln, ok_CL, ok_Nw, ok_S, ok_Ks, ok_Nz]
  refine ok_mono (rClear_ok 132 s) ?_
  rintro - t ⟨kx, zt⟩
  have s3 := h.1.arg kx (cRow.nil zt)
  have z1 : rwS t 135 = 0 := (kx.1 _ _ (by decide)).trans z0
  refine ok_mono (clean_ok s3.1.hi s3.1.rt) ?_
  rintro - u ⟨c1, c2, c3⟩
  have mk := s3.1.mg s3.2.1 (.inr ⟨s3.1.ld, c3⟩) ⟨c1, fun _ => c2⟩
  refine ⟨by decide, ?_⟩
  exact (mk.st3 s3 (cRow.nil ((mk.2.2.1 _ _ (.inl (by decide))).trans z1))).addP (cV.lit (by decide))
theorem psQ.row {s t : S1} {c k fn r : Int32} (h : psQ s c k fn r t) (q : Nat) (hq : q = 132 ∨ q = 135 ∨ q = 138 ∨ q = 141) : rwS t q = rwS s q := by
  show gI t (128 * q + 2) 0 = _
  rw [h.2.1, if_neg (fun z => by omega), if_neg (fun z => by omega), if_neg (fun z => by omega), if_neg (fun z => by omega), if_neg (fun z => by omega), if_neg (fun z => by omega), if_neg (fun z => by omega), if_neg (fun z => by omega)]
theorem resume_ok {s : S1} {n : Nat × Nat} (h : Pf s n) : ok M_Bu_resume s (fun _ t => Po t n) := by
  have a5 := h.a5
  have W := h.w
  have F := h.1.2.1
  have st := h.1.2.2.1
  simp only [M_Bu_resume, ok_B, ok_C, ok_R, ok_L, ok_K, ok_GI, ok_GL, ok_PI, ok_PL, ok_AI, ok_AL, ok_SI, ok_SL, ok_CI, cmp_lt, cmp_le, cmp_gt, cmp_ge, cmp_eq, nar0, nar1, Sum.elim_inl, Sum.elim_inr, ok_PzT, ok_PzC, ok_PzP, ok_PrC, ok_PrP, ok_PrF, ok_PrN, ok_Ln, ok_CL, ok_Nw, ok_S, ok_Ks, ok_Nz]
  refine ok_mono (hasCoroutine_ok h) ?_
  rintro r t (⟨r1, et, c⟩ | ⟨r0, q⟩)
  · rw [et]
    refine ⟨fun z => by rw [r1] at z; exact absurd z (by decide), fun _ => ?_⟩
    obtain ⟨l7, av⟩ := h.c7 c
    rw [ok_vA a5 (by decide), ok_cOf W l7]
    generalize cLk s (rv s 132 0).toInt32 = d at av ⊢
    refine ⟨av.1, fun s0 => ⟨W.cur.1, ?_⟩, fun _ => ?_⟩
    · refine pushK_ok W F st (by decide) (by decide) (.inl (by decide)) ⟨fun _ => Pq.o (g := fun _ => n) (h.1.fail 4), fun z => absurd rfl z⟩ (fun t Wt Ft pd ps cur lv d1 top st' => ⟨fun z => absurd z (by decide), fun _ => ?_⟩)
      refine ok_mono (rDrop_ok (r := 132) (m := 1) Wt.args (by decide)) ?_
      rintro - u ⟨kx, row, -⟩
      have l := cRx.lw (.inl rfl) kx
      obtain ⟨q1, q2, q3, q4⟩ := cRx.kept (.inl rfl) kx Wt (fun _ => row)
      have Wu := l.w Wt Ft.weak q1 q2 q3 q4
      have Fu := l.fr Wt Ft (fun _ => rfl)
      have i1 : ∀ f j, f = 19071 ∨ f = 18950 ∨ f = 18951 → gI u f j = gI s f j := fun f j q => (kx.1 f j (by omega)).trans (pd.1 f j (by unfold miI; omega))
      refine ok_mono (goOn_ok (c := d) Wu Fu ?_ ?_ ?_ ⟨⟨av.1.1, (i1 19071 _ (by decide)).trans av.1.2⟩, by rw [show oSl u d = oSl s d from i1 _ _ (by decide)]; exact av.2⟩ ((i1 _ _ (by decide)).trans s0)) ?_
      · rw [l.cur, kx.1 _ _ (by decide)]
        exact st'
      · rw [l.cur, l.dep]
        exact d1
      · rw [l.etF, show fWh u (tF t) = fWh t (tF t) from kx.1 _ _ (by decide), top]
        decide
      · rintro - v (q | q)
        · exact .inl q
        · exact .inr (.inl q)
    · refine ok_mono (h.1.add (cV.lit (by decide))) ?_
      rintro - u ⟨q, -⟩
      exact Pq.o (g := fun _ => n) (q.addP (cV.lit (by decide)))
  · exact ⟨fun _ => .inr (.inr q), fun z => absurd r0 z⟩
theorem callProtected_ok {s : S1} {n : Nat × Nat} (h : Pf s n) : ok M_Bu_callProtected s (fun _ t => Po t n) := by
  have a5 := h.a5
  have W := h.w
  have F := h.1.2.1
  have st := h.1.2.2.1
  simp only [M_Bu_callProtected, ok_B, ok_C, ok_R, ok_L, ok_K, ok_GI, ok_GL, ok_PI, ok_PL, ok_AI, ok_AL, ok_SI, ok_SL, ok_CI, cmp_lt, cmp_le, cmp_gt, cmp_ge, cmp_eq, nar0, nar1, Sum.elim_inl, Sum.elim_inr, ok_PzT, ok_PzC, ok_PzP, ok_PrC, ok_PrP, ok_PrF, ok_PrN, ok_Ln, ok_CL, ok_Nw, ok_S, ok_Ks, ok_Nz]
  refine ⟨W.cur.1, ?_⟩
  refine pushK_ok W F st (by decide) (by decide) (.inl (by decide)) ⟨fun _ => Pq.o (g := fun _ => n) (h.1.fail 4), fun z => absurd rfl z⟩ (fun t Wt Ft pd ps cur lv d1 top st' => ⟨fun z => absurd z (by decide), fun _ => ?_⟩)
  have at5 : (rwS t 132).toInt ≤ 512 := by
    rw [ps.row 132 (by decide)]
    exact a5
  have kv := Wt.args.kv (i := 0) (by decide)
  rw [ok_kA at5 (by decide)]
  generalize hk : rk t 132 0 = k at kv ⊢
  have I1 : ∀ f j, f ≠ 16397 → gI (sI t 16397 0 k) f j = gI t f j := fun f j q => by rw [gI_sI, if_neg (fun z => q z.1)]
  have c1 : gI (sI t 16397 0 k) 16397 0 = k := by rw [gI_sI, if_pos ⟨rfl, rfl⟩]
  have r1 : (sI t 16397 0 k).2 = t.2 := rfl
  generalize sI t 16397 0 k = t1 at I1 c1 r1 ⊢
  have e1 : rwS t1 132 = rwS t 132 := I1 _ _ (by decide)
  have ev : rv t1 132 0 = rv t 132 0 := by
    unfold rv
    rw [e1, show rwV t1 132 0 = rwV t 132 0 from by show t1.2.2.2 _ _ _ = t.2.2.2 _ _ _; rw [r1]]
  rw [ok_vA (by rw [e1]; exact at5) (by decide), ev]
  generalize rv t 132 0 = v at kv ⊢
  have I2 : ∀ f j, f ≠ 16397 → gI (sL t1 16398 0 v) f j = gI t f j := fun f j q => (gI_sL ..).trans (I1 f j q)
  have c2 : gI (sL t1 16398 0 v) 16397 0 = k := (gI_sL ..).trans c1
  have L2 : ∀ f j, f ≠ 16398 → gL (sL t1 16398 0 v) f j = gL t f j := fun f j q => by
    rw [gL_sL, if_neg (fun z => q z.1)]
    show t1.2.1 _ _ = t.2.1 _ _
    rw [r1]
  have c3 : gL (sL t1 16398 0 v) 16398 0 = v := by rw [gL_sL, if_pos ⟨rfl, rfl⟩]
  have r2 : (sL t1 16398 0 v).2.2 = t.2.2 := by
    show t1.2.2 = t.2.2
    rw [r1]
  generalize sL t1 16398 0 v = t2 at I2 c2 L2 c3 r2 ⊢
  obtain ⟨W2, F2, lv2⟩ := misc_w (t := t2) Wt Ft (fun f j q => I2 f j (fun z => q (by rw [z]; unfold miI; decide))) (fun f j q => L2 f j q.1) r2
  refine ok_mono (rDrop_ok (r := 132) (m := 1) W2.args (by decide)) ?_
  rintro - u ⟨kx, row, -⟩
  have l := cRx.lw (.inl rfl) kx
  obtain ⟨q1, q2, q3, q4⟩ := cRx.kept (.inl rfl) kx W2 (fun _ => row)
  have Wu := l.w W2 F2.weak q1 q2 q3 q4
  have Fu := l.fr W2 F2 (fun _ => rfl)
  have i3 : ∀ f j, f ≠ 16396 → gI (sI u 16396 0 1) f j = gI u f j := fun f j q => by rw [gI_sI, if_neg (fun z => q z.1)]
  obtain ⟨W3, F3, lv3⟩ := misc_w (t := sI u 16396 0 1) Wu Fu (fun f j q => i3 f j (fun z => q (by rw [z]; unfold miI; decide))) (fun _ _ _ => rfl) rfl
  refine .inl ⟨W3, F3, ?_, by rw [gI_sI, if_pos ⟨rfl, rfl⟩], ?_⟩
  · rw [show mCur (sI u 16396 0 1) = mCur u from i3 _ _ (by decide), i3 _ _ (by decide), l.cur, kx.1 _ _ (by decide), show mCur t2 = mCur t from I2 _ _ (by decide), I2 _ _ (by decide)]
    exact st'
  · rw [lv3, l.lv', lv2, i3 16397 0 (by decide), kx.1 16397 0 (by decide), c2, show gL (sI u 16396 0 1) 16398 0 = gL u 16398 0 from rfl, kx.2.1, c3]
    exact kv
