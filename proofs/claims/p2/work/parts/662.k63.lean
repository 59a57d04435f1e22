/-! The class: goOnWith, callWrapper. -/
theorem psQ.pushed {s t : S1} {n : Nat × Nat} {k fn : Int32} (W : cW s n) (h : psQ s (mCur s) k fn 0 t) (k0 : k ≠ 0) (kr : 0 ≤ k.toInt ∧ k.toInt ≤ 4) (hf : fn < 0 ∨ cLv false s fn 9) : pushed s t k := by
  obtain ⟨⟨c1, c2⟩, P1, P2, P3⟩ := h
  have ac := W.cur
  obtain ⟨co, dD, dU⟩ := W.hi.dep ac
  have e200 : (200 : Int32).toInt = 200 := rfl
  have e0 : (0 : Int32).toInt = 0 := rfl
  have dr : 0 ≤ oD s (mCur s) ∧ oD s (mCur s) < 200 := by
    rw [i32_le, i32_lt]
    omega
  have fr := fm_int ac.1.1 dr
  have pf : pF s (mCur s * 200 + oD s (mCur s)) := ⟨⟨by rw [i32_le]; show (0 : Int) ≤ _; omega, by rw [i32_lt]; show _ < (6400 : Int); omega⟩, ((W.sf.1 _ ac.1.1.1 ac.1.1.2).1 ac.1.2).2.2.2.2 _ dr.1 dr.2⟩
  have A : ∀ a j q, gA t a j q = gA s a j q := fun a j q => by
    show t.2.2.1 a j q = s.2.2.1 a j q
    rw [P3]
  have B : ∀ a j q, gB t a j q = gB s a j q := fun a j q => by
    show t.2.2.2 a j q = s.2.2.2 a j q
    rw [P3]
  have tU : oU t (mCur s) = oU s (mCur s) := by
    show gI t 18949 _ = _
    rw [P1, if_neg (fun z => absurd z.1 (by decide)), if_pos ⟨rfl, rfl⟩, Int32.add_zero]
  have I0 : ∀ f j, f ≠ 18948 ∧ f ≠ 18949 ∧ f / 128 ≠ 152 → gI t f j = gI s f j := fun f j q => by
    rw [P1, if_neg (fun z => by omega), if_neg (fun z => by omega), if_neg (fun z => by omega), if_neg (fun z => by omega), if_neg (fun z => by omega), if_neg (fun z => by omega), if_neg (fun z => by omega), if_neg (fun z => by omega)]
  refine ⟨fun f j q => I0 f j ⟨q.1, q.2.1, q.2.2.1⟩, fun f j q z => ?_, fun f j q z => ?_, fun f j q z => ?_, fun a j q _ _ => A a j q, fun a j q _ _ => B a j q, fun i _ => ⟨A _ _ _, B _ _ _⟩, fun i i0 i1 => by rw [tU] at i1; omega, ⟨c1, ?_, by rw [tU]; exact Int.le_refl _, by rw [tU]; omega⟩, ⟨?_, kr, ?_, ?_, ?_⟩, fun _ => ⟨tU, ?_⟩, fun z => absurd z k0, ?_⟩
  · rw [P1, if_neg (fun y => z y.2), if_neg (fun y => z y.2), if_neg (fun y => by omega), if_neg (fun y => by omega), if_neg (fun y => by omega), if_neg (fun y => by omega), if_neg (fun y => by omega), if_neg (fun y => by omega)]
  · have ne : ∀ g : Nat, g ≠ 19583 → ¬ (f = g ∧ j = mCur s * 200 + oD s (mCur s)) := fun g hg y => by
      rcases z with z | z
      · exact z y.2
      · exact hg (y.1.symm.trans z)
    rw [P1, if_neg (fun y => by omega), if_neg (fun y => by omega), if_neg (ne _ (by decide)), if_neg (ne _ (by decide)), if_neg (ne _ (by decide)), if_neg (ne _ (by decide)), if_neg (ne _ (by decide)), if_neg (ne _ (by decide))]
  · rw [P2, if_neg (fun y => z y.1 y.2)]
  · show gI t 18948 _ = _
    rw [P1, if_pos ⟨rfl, rfl⟩]
  · show gI t 19456 _ = _
    rw [P1]
    simp
  · rw [P1]
    simp
  · show gI t 19462 _ = _
    rw [P1]
    simp
  · have e : gI t 19458 (mCur s * 200 + oD s (mCur s)) = gI s 19458 (mCur s * 200 + oD s (mCur s)) := by
      rw [P1]
      simp
    rw [e]
    exact W.sf.2.2.2.2.2 _ pf
  · have e : mFn t (mCur s * 200 + oD s (mCur s)) = fn := by
      show gI t 19457 _ = _
      rw [P1]
      simp
    rw [e]
    exact hf
  · exact W.args.up (fun _ _ q => q) (I0 _ _ (by decide)) (fun j => A _ _ _) (fun j => B _ _ _)
theorem goOn_ok {s : S1} {n : Nat × Nat} {c : Int32} (W : cW s n) (F : qFr true s) (h1 : gI s 18951 (mCur s) = 1) (d1 : 1 ≤ (oD s (mCur s)).toInt) (top : fWh s (tF s) ≠ 0) (ac : cAv s c) (s0 : gI s 18951 c = 0) : ok (M_Ma_goOnWith c) s (fun _ t => St1 t n ∨ St3 t n) := by
  have am := W.cur
  have ix : gI s 18947 (gI s 16395 0) = mCur s := ((W.sf.1 _ am.1.1.1 am.1.1.2).1 am.1.2).2.2.2.1
  have cne : c ≠ mCur s := fun z => by
    rw [z, h1] at s0
    exact absurd s0 (by decide)
  have cne' : mCur s ≠ c := fun z => cne z.symm
  have fnv := (W.hi.dep ac).1.1
  have pcs : ∀ T : S1, (∀ j, gI T 19071 j = gI s 19071 j) → pC T (gI s 16395 0) := fun T h => ⟨am.1.1, (h _).trans am.1.2⟩
  simp only [M_Ma_goOnWith, M_Ma_begin, ok_B, ok_C, ok_R, ok_L, ok_K, ok_GI, ok_GL, ok_PI, ok_PL, ok_AI, ok_AL, ok_SI, ok_SL, ok_CI, cmp_lt, cmp_le, cmp_gt, cmp_ge, cmp_eq, nar0, nar1, Sum.elim_inl, Sum.elim_inr, ok_PzT, ok_PzC, ok_PzP, ok_PrC, ok_PrP, ok_PrF, ok_PrN, ok_Ln, ok_CL, ok_Nw, ok_S, ok_Ks, ok_Nz]
  simp only [gI_sI, gI_sL, gI_sA, gI_sB, gI_sAf, gI_sBf, gL_sI, gL_sL, gL_sA, gL_sB, gL_sAf, gL_sBf, gA_sI, gA_sL, gA_sA, gA_sB, gA_sAf, gA_sBf, gB_sI, gB_sL, gB_sA, gB_sB, gB_sAf, gB_sBf, Nat.reduceEqDiff, Nat.reduceMul, Nat.reduceAdd, false_and, true_and, and_true, and_false, if_true, if_false]
  rw [ix]
  refine ⟨am.1, pcs _ (fun j => by simp only [gI_sI, gI_sL, gI_sA, gI_sB, gI_sAf, gI_sBf, gL_sI, gL_sL, gL_sA, gL_sB, gL_sAf, gL_sBf, gA_sI, gA_sL, gA_sA, gA_sB, gA_sAf, gA_sBf, gB_sI, gB_sL, gB_sA, gB_sB, gB_sAf, gB_sBf, Nat.reduceEqDiff, Nat.reduceMul, Nat.reduceAdd, false_and, true_and, and_true, and_false, if_true, if_false]), fun b0 => ?_, fun b0 => ?_⟩
  · have key : ∀ T : S1, (∀ f j, gI T f j = if f = 16396 ∧ j = 0 then 1 else if f = 18952 ∧ j = c then 1 else if f = 18951 ∧ j = c then 1 else if f = 16397 ∧ j = 0 then 6 else if f = 16395 ∧ j = 0 then c else if f = 18955 ∧ j = c then mCur s else if f = 18951 ∧ j = mCur s then 2 else gI s f j) → (∀ f j, gL T f j = if f = 18953 ∧ j = c then -1 else if f = 16398 ∧ j = 0 then gL s 18953 c else gL s f j) → T.2.2 = s.2.2 → St1 T n := fun T TI TL T2 => by
      have A : ∀ a j q, gA T a j q = gA s a j q := fun a j q => by
        show T.2.2.1 a j q = s.2.2.1 a j q
        rw [T2]
      have B : ∀ a j q, gB T a j q = gB s a j q := fun a j q => by
        show T.2.2.2 a j q = s.2.2.2 a j q
        rw [T2]
      have I : ∀ f j, f ≠ 18951 ∧ f ≠ 18952 ∧ f ≠ 18955 ∧ f ≠ 16395 ∧ ¬ miI f → gI T f j = gI s f j := fun f j q => by
        obtain ⟨q1, q2, q3, q4, q5⟩ := q
        unfold miI at q5
        rw [TI, if_neg (fun z => by omega), if_neg (fun z => by omega), if_neg (fun z => by omega), if_neg (fun z => by omega), if_neg (fun z => by omega), if_neg (fun z => by omega), if_neg (fun z => by omega)]
      have m1 : gI T 16395 0 = c := by rw [TI]; simp
      have m2 : gI T 18951 (mCur s) = 2 := by rw [TI]; simp [cne']
      have m3 : gI T 18951 c = 1 := by rw [TI]; simp
      have m4 : gI T 18952 c = 1 := by rw [TI]; simp
      have m5 : gI T 18955 c = mCur s := by rw [TI]; simp
      obtain ⟨WT, FT, lvT⟩ := switch_w (t := T) W F h1 d1 top ac s0 (fun f j q => I f j ⟨q.1, q.2.1, q.2.2.1, q.2.2.2.1, q.2.2.2.2.2.2⟩) (fun f j q z y => by
        rw [TI, if_neg (fun w => by omega), if_neg (fun w => z w.2), if_neg (fun w => z w.2), if_neg (fun w => by omega), if_neg (fun w => by omega), if_neg (fun w => z w.2), if_neg (fun w => y w.1 w.2)]) m1 m2 m3 (by rw [m4]; decide) m5 (fun f j q z => by
        rw [TL, if_neg (fun w => z w.1 w.2), if_neg (fun w => q.1 w.1)]) (.inr (.inr ⟨rfl, .inl (by rw [TL, if_pos ⟨rfl, rfl⟩]; decide)⟩)) (fun a j q _ => A a j q) (fun a j q _ => B a j q) (W.args.up (fun _ _ q => q) (I _ _ (by unfold miI; decide)) (fun j => A _ _ _) (fun j => B _ _ _))
      refine ⟨WT, FT, ?_, ?_, ?_⟩
      · rw [show mCur T = c from m1]
        exact m3
      · rw [TI, if_pos ⟨rfl, rfl⟩]
      · rw [lvT, show gI T 16397 0 = 6 from by rw [TI]; simp, show gL T 16398 0 = gL s 18953 c from by rw [TL]; simp]
        exact fnv
    refine .inl (key _ (fun f j => ?_) (fun f j => ?_) rfl)
    · simp only [gI_sI, gI_sL]
    · simp only [gL_sI, gL_sL]
  · generalize hs1 : sI (sI (sI (sI s 18951 (gI s 16395 0) 2) 18955 c (mCur s)) 16395 0 c) 18951 c 1 = s1
    have TI1 : ∀ f j, gI s1 f j = if f = 18951 ∧ j = c then 1 else if f = 16395 ∧ j = 0 then c else if f = 18955 ∧ j = c then mCur s else if f = 18951 ∧ j = mCur s then 2 else gI s f j := fun f j => by
      rw [← hs1]
      simp only [gI_sI]
    have R1 : s1.2 = s.2 := by rw [← hs1]; rfl
    clear hs1
    have L1 : ∀ f j, gL s1 f j = gL s f j := fun f j => by
      show s1.2.1 f j = s.2.1 f j
      rw [R1]
    have A1 : ∀ a j q, gA s1 a j q = gA s a j q := fun a j q => by
      show s1.2.2.1 a j q = s.2.2.1 a j q
      rw [R1]
    have B1 : ∀ a j q, gB s1 a j q = gB s a j q := fun a j q => by
      show s1.2.2.2 a j q = s.2.2.2 a j q
      rw [R1]
    have I1 : ∀ f j, f ≠ 18951 ∧ f ≠ 18955 ∧ f ≠ 16395 → gI s1 f j = gI s f j := fun f j q => by
      rw [TI1, if_neg (fun z => q.1 z.1), if_neg (fun z => q.2.2 z.1), if_neg (fun z => q.2.1 z.1), if_neg (fun z => q.1 z.1)]
    have row1 : cRow (cLv false s) s1 132 := W.args.up (fun _ _ q => q) (I1 _ _ (by decide)) (fun j => A1 _ _ _) (fun j => B1 _ _ _)
    refine ok_mono (rTake_ok (L := cLv false s) (r := 135) (q := 132) (by decide) row1) ?_
    rintro - s2 ⟨⟨k1, k2, k3, k4⟩, rt, -, z2⟩
    have key : ∀ T : S1, (∀ f j, gI T f j = if f = 16396 ∧ j = 0 then 3 else gI s2 f j) → T.2 = s2.2 → St3 T n := fun T TI T2 => by
      have L : ∀ f j, gL T f j = gL s f j := fun f j => by
        rw [show gL T f j = gL s2 f j from by show T.2.1 f j = s2.2.1 f j; rw [T2], k2, L1]
      have A : ∀ a j q, gA T a j q = gA s2 a j q := fun a j q => by
        show T.2.2.1 a j q = s2.2.2.1 a j q
        rw [T2]
      have B : ∀ a j q, gB T a j q = gB s2 a j q := fun a j q => by
        show T.2.2.2 a j q = s2.2.2.2 a j q
        rw [T2]
      have J : ∀ f j, f ≠ 16396 ∧ f ≠ 17282 ∧ f ≠ 16898 → gI T f j = gI s1 f j := fun f j q => by
        rw [TI, if_neg (fun z => q.1 z.1)]
        exact k1 f j ⟨q.2.1, q.2.2⟩
      have m1 : gI T 16395 0 = c := by rw [J _ _ (by decide), TI1]; simp
      have m2 : gI T 18951 (mCur s) = 2 := by rw [J _ _ (by decide), TI1]; simp [cne']
      have m3 : gI T 18951 c = 1 := by rw [J _ _ (by decide), TI1]; simp
      have m4 : gI T 18952 c = gI s 18952 c := by rw [J _ _ (by decide), TI1]; simp
      have m5 : gI T 18955 c = mCur s := by rw [J _ _ (by decide), TI1]; simp
      have zT : rwS T 132 = 0 := by
        show gI T (128 * 132 + 2) 0 = 0
        rw [TI, if_neg (fun z => absurd z.1 (by decide))]
        exact z2
      obtain ⟨WT, FT, lvT⟩ := switch_w (t := T) W F h1 d1 top ac s0 (fun f j q => by
        rw [J f j ⟨fun z => q.2.2.2.2.2.2 (by rw [z]; unfold miI; decide), q.2.2.2.2.2.1, q.2.2.2.2.1⟩]
        exact I1 f j ⟨q.1, q.2.2.1, q.2.2.2.1⟩) (fun f j q z y => by
        rw [J f j (by omega), TI1, if_neg (fun w => z w.2), if_neg (fun w => by omega), if_neg (fun w => z w.2), if_neg (fun w => y w.1 w.2)]) m1 m2 m3 (by rw [m4]; exact b0) m5 (fun f j _ _ => L f j) (by rw [L]; exact fnv) (fun a j q z => by rw [A, k3 _ _ _ z]; exact A1 _ _ _) (fun a j q z => by rw [B, k4 _ _ _ z]; exact B1 _ _ _) (cRow.nil zT)
      refine ⟨WT, FT, ?_, ?_, ?_⟩
      · rw [show mCur T = c from m1]
        exact m3
      · rw [TI, if_pos ⟨rfl, rfl⟩]
      · rw [lvT]
        exact rt.up (fun _ _ q => q) (by rw [TI, if_neg (fun z => absurd z.1 (by decide))]) (fun j => A _ _ _) (fun j => B _ _ _)
    exact .inr (key _ (fun f j => by rw [gI_sI]) rfl)
