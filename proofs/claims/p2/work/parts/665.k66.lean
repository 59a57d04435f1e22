/-! The class: results are handed over. -/
theorem popK_ok {s : S1} {n : Nat × Nat} (W : cW s n) (F : qFr true s) (d1 : 1 ≤ (oD s (mCur s)).toInt) (top : fWh s (tF s) ≠ 0) : ok (M_Co_pop (mCur s)) s (fun _ t => cW t n ∧ qFr true t ∧ (∀ f j, f ≠ 18948 ∧ f ≠ 18949 → gI t f j = gI s f j) ∧ t.2 = s.2) := by
  obtain ⟨pf, r, rl⟩ := pT_of W d1
  obtain ⟨j, j0, j1, j2, j3, e⟩ := tF_of W d1
  have ac := W.cur
  have q := ((F _ ac).2 j j0 j1).2.2.1
  rw [← e] at q
  have qb := q top
  have en : fEnd s (mCur s) j = (oU s (mCur s)).toInt := by
    unfold fEnd
    rw [if_neg (by omega)]
  rw [en] at qb
  simp only [M_Co_pop, ok_B, ok_C, ok_R, ok_L, ok_K, ok_GI, ok_GL, ok_PI, ok_PL, ok_AI, ok_AL, ok_SI, ok_SL, ok_CI, cmp_lt, cmp_le, cmp_gt, cmp_ge, cmp_eq, nar0, nar1, Sum.elim_inl, Sum.elim_inr, ok_PzT, ok_PzC, ok_PzP, ok_PrC, ok_PrP, ok_PrF, ok_PrN, ok_Ln, ok_CL, ok_Nw, ok_S, ok_Ks, ok_Nz]
  simp only [gI_sI, gI_sL, gI_sA, gI_sB, gI_sAf, gI_sBf, gL_sI, gL_sL, gL_sA, gL_sB, gL_sAf, gL_sBf, gA_sI, gA_sL, gA_sA, gA_sB, gA_sAf, gA_sBf, gB_sI, gB_sL, gB_sA, gB_sB, gB_sAf, gB_sBf, Nat.reduceEqDiff, Nat.reduceMul, Nat.reduceAdd, false_and, true_and, and_true, and_false, if_true, if_false]
  refine ⟨r, ?_⟩
  have key : ∀ T : S1, (∀ f j, gI T f j = if f = 18949 ∧ j = mCur s then gI s 19459 (mCur s * 200 + (oD s (mCur s) - 1)) else if f = 18948 ∧ j = mCur s then oD s (mCur s) - 1 else gI s f j) → T.2 = s.2 → (cW T n ∧ qFr true T ∧ (∀ f j, f ≠ 18948 ∧ f ≠ 18949 → gI T f j = gI s f j) ∧ T.2 = s.2) := fun T TI T2 => by
    obtain ⟨w1, w2⟩ := cut_w (k := oD s (mCur s) - 1) W F r.1 rl (fun y m => by
      have := (F _ ac).1.2.2.2.2.2 y m
      show _ < fBs s (tF s)
      omega) TI T2
    exact ⟨w1, w2, fun f j q => by rw [TI, if_neg (fun z => q.2 z.1), if_neg (fun z => q.1 z.1)], T2⟩
  exact key _ (fun f j => by rw [gI_sI, gI_sI]) rfl
def brQ (s : S1) (n : Nat × Nat) (_ : Int32) (t : S1) : Prop := cW t n ∧ qFr true t ∧ gI t 18951 (mCur t) = 1 ∧ cLv false t = cLv false s ∧ (∀ f j, f ≠ 18951 ∧ f ≠ 18955 ∧ f ≠ 16395 ∧ f ≠ 18948 ∧ f ≠ 18949 → gI t f j = gI s f j) ∧ t.2 = s.2
theorem backRes_ok {s : S1} {n : Nat × Nat} {l : Int32} (W : cW s n) (F : qFr true s) (h1 : gI s 18951 (mCur s) = 1) (hr : 0 ≤ oRs s (mCur s)) (hl : l = 0 ∨ l = 3) : ok (M_Ma_backToResumer l) s (brQ s n) := by
  obtain ⟨av, rne, s2, d1, top⟩ := res_of W F hr
  have am := W.cur
  have hR : gI s 18955 (gI s 16395 0) = oRs s (mCur s) := rfl
  simp only [M_Ma_backToResumer, M_Co_top, ok_B, ok_C, ok_R, ok_L, ok_K, ok_GI, ok_GL, ok_PI, ok_PL, ok_AI, ok_AL, ok_SI, ok_SL, ok_CI, cmp_lt, cmp_le, cmp_gt, cmp_ge, cmp_eq, nar0, nar1, Sum.elim_inl, Sum.elim_inr, ok_PzT, ok_PzC, ok_PzP, ok_PrC, ok_PrP, ok_PrF, ok_PrN, ok_Ln, ok_CL, ok_Nw, ok_S, ok_Ks, ok_Nz]
  simp only [gI_sI, gI_sL, gI_sA, gI_sB, gI_sAf, gI_sBf, gL_sI, gL_sL, gL_sA, gL_sB, gL_sAf, gL_sBf, gA_sI, gA_sL, gA_sA, gA_sB, gA_sAf, gA_sBf, gB_sI, gB_sL, gB_sA, gB_sB, gB_sAf, gB_sBf, Nat.reduceEqDiff, Nat.reduceMul, Nat.reduceAdd, false_and, true_and, and_true, and_false, if_true, if_false]
  rw [hR]
  generalize hs1 : sI (sI (sI (sI s 16395 0 (oRs s (mCur s))) 18951 (gI s 16395 0) l) 18955 (gI s 16395 0) (-1)) 18951 (oRs s (mCur s)) 1 = s1
  have TI : ∀ f j, gI s1 f j = if f = 18951 ∧ j = oRs s (mCur s) then 1 else if f = 18955 ∧ j = mCur s then -1 else if f = 18951 ∧ j = mCur s then l else if f = 16395 ∧ j = 0 then oRs s (mCur s) else gI s f j := fun f j => by
    rw [← hs1]
    simp only [gI_sI]
  have T2 : s1.2 = s.2 := by rw [← hs1]; rfl
  obtain ⟨W1, F1, lv1⟩ := backSw_w W F h1 hr hl TI T2
  have i1 : ∀ f j, f ≠ 18951 ∧ f ≠ 18955 ∧ f ≠ 16395 → gI s1 f j = gI s f j := fun f j q => by
    rw [TI, if_neg (fun z => q.1 z.1), if_neg (fun z => q.2.1 z.1), if_neg (fun z => q.1 z.1), if_neg (fun z => q.2.2 z.1)]
  have c1 : mCur s1 = oRs s (mCur s) := by
    show gI s1 16395 0 = _
    rw [TI]
    simp
  have c3 : gI s1 18951 (mCur s1) = 1 := by
    rw [c1, TI]
    simp
  have eD : oD s1 (mCur s1) = oD s (oRs s (mCur s)) := by
    rw [c1]
    exact i1 _ _ (by decide)
  have eT : tF s1 = oRs s (mCur s) * 200 + (oD s (oRs s (mCur s)) - 1) := by
    unfold tF
    rw [eD, c1]
  have d1' : 1 ≤ (oD s1 (mCur s1)).toInt := by
    rw [eD]
    exact d1
  have top' : fWh s1 (tF s1) ≠ 0 := by
    rw [eT, show fWh s1 (oRs s (mCur s) * 200 + (oD s (oRs s (mCur s)) - 1)) = fWh s (oRs s (mCur s) * 200 + (oD s (oRs s (mCur s)) - 1)) from i1 _ _ (by decide)]
    exact top
  obtain ⟨pf, r, rl⟩ := pT_of W1 d1'
  rw [eT] at pf
  rw [eD] at r
  have pcs : ∀ T : S1, (∀ j, gI T 19071 j = gI s 19071 j) → pC T (oRs s (mCur s)) := fun T h => ⟨av.1.1, (h _).trans av.1.2⟩
  refine ⟨am.1, av.1, pcs _ (fun j => by simp only [gI_sI, gI_sL, gI_sA, gI_sB, gI_sAf, gI_sBf, gL_sI, gL_sL, gL_sA, gL_sB, gL_sAf, gL_sBf, gA_sI, gA_sL, gA_sA, gA_sB, gA_sAf, gA_sBf, gB_sI, gB_sL, gB_sA, gB_sB, gB_sAf, gB_sBf, Nat.reduceEqDiff, Nat.reduceMul, Nat.reduceAdd, false_and, true_and, and_true, and_false, if_true, if_false]), pcs _ (fun j => i1 _ _ (by decide)), r, ?_, pcs _ (fun j => i1 _ _ (by decide)), ?_⟩
  · exact pf
  · have pk := popK_ok W1 F1 d1' top'
    rw [c1] at pk
    refine ok_mono pk ?_
    rintro - t ⟨w1, w2, w3, w4⟩
    refine ⟨w1, w2, ?_, ?_, fun f j q => (w3 f j ⟨q.2.2.2.1, q.2.2.2.2⟩).trans (i1 f j ⟨q.1, q.2.1, q.2.2.1⟩), w4.trans T2⟩
    · rw [show mCur t = mCur s1 from w3 _ _ (by decide), w3 _ _ (by decide)]
      exact c3
    · rw [← lv1]
      funext y u
      rw [cLv_f, cLv_f, show cN t = cN s1 from w3 _ _ (by decide), show cTy t y = cTy s1 y from w3 _ _ (by decide)]
/-- the turn to give -/
theorem turn3 {s : S1} {n : Nat × Nat} (W : cW s n) (F : qFr true s) (h1 : gI s 18951 (mCur s) = 1) (row : cRow (cLv false s) s 135) : St3 (sI s 16396 0 3) n := by
  obtain ⟨m1, m2, m3⟩ := misc_w (t := sI s 16396 0 3) W F (fun f j q => by rw [gI_sI, if_neg (fun z => q (by rw [z.1]; unfold miI; decide))]) (fun _ _ _ => rfl) rfl
  refine ⟨m1, m2, ?_, by rw [gI_sI, if_pos ⟨rfl, rfl⟩], ?_⟩
  · have ec : mCur (sI s 16396 0 3) = mCur s := by
      show gI (sI s 16396 0 3) 16395 0 = _
      rw [gI_sI, if_neg (fun z => absurd z.1 (by decide))]
    rw [ec, gI_sI, if_neg (fun z => absurd z.1 (by decide))]
    exact h1
  · rw [m3]
    exact row.up (fun _ _ q => q) (by rw [gI_sI, if_neg (fun z => absurd z.1 (by decide))]) (fun _ => rfl) (fun _ => rfl)
theorem giveTrue_ok {s : S1} {n : Nat × Nat} (W : cW s n) (F : qFr true s) (h1 : gI s 18951 (mCur s) = 1) (row : cRow (cLv false s) s 135) : ok M_Ma_giveWithTrue s (fun _ t => St3 t n ∨ St5 t n) := by
  simp only [M_Ma_giveWithTrue, ok_B, ok_C, ok_R, ok_L, ok_K, ok_GI, ok_GL, ok_PI, ok_PL, ok_AI, ok_AL, ok_SI, ok_SL, ok_CI, cmp_lt, cmp_le, cmp_gt, cmp_ge, cmp_eq, nar0, nar1, Sum.elim_inl, Sum.elim_inr, ok_PzT, ok_PzC, ok_PzP, ok_PrC, ok_PrP, ok_PrF, ok_PrN, ok_Ln, ok_CL, ok_Nw, ok_S, ok_Ks, ok_Nz]
  refine ok_mono (rFirst_ok (r := 135) row (cV.lit (k := 2) (v := 0) (by decide))) ?_
  rintro - t ⟨k, rt, -, -⟩
  have l := cRx.lw (.inr (.inl rfl)) k
  obtain ⟨q1, q2, q3, q4⟩ := cRx.kept (.inr (.inl rfl)) k W (fun z => absurd rfl z)
  have Wt := l.w W F.weak q1 q2 q3 q4
  have Ft := l.fr W F (fun _ => rfl)
  have st : gI t 18951 (mCur t) = 1 := by
    rw [l.cur, k.1 _ _ (by decide)]
    exact h1
  refine ⟨fun _ => .inl (turn3 Wt Ft st (by rw [l.lv']; exact rt)), fun _ => ?_⟩
  exact fail_st5' 7 Wt Ft st (fun t h => .inr h)
theorem handOver_ok {s : S1} {n : Nat × Nat} {l : Int32} (W : cW s n) (F : qFr true s) (h1 : gI s 18951 (mCur s) = 1) (row : cRow (cLv false s) s 135) (hr : 0 ≤ oRs s (mCur s)) (hl : l = 0 ∨ l = 3) : ok (M_Ma_handOver l) s (fun _ t => St3 t n ∨ St5 t n) := by
  simp only [M_Ma_handOver, ok_B, ok_C, ok_R, ok_L, ok_K, ok_GI, ok_GL, ok_PI, ok_PL, ok_AI, ok_AL, ok_SI, ok_SL, ok_CI, cmp_lt, cmp_le, cmp_gt, cmp_ge, cmp_eq, nar0, nar1, Sum.elim_inl, Sum.elim_inr, ok_PzT, ok_PzC, ok_PzP, ok_PrC, ok_PrP, ok_PrF, ok_PrN, ok_Ln, ok_CL, ok_Nw, ok_S, ok_Ks, ok_Nz]
  refine ok_mono (backRes_ok W F h1 hr hl) ?_
  rintro q t ⟨Wt, Ft, st, lv, I, T2⟩
  have rt : cRow (cLv false t) t 135 := by
    rw [lv]
    exact row.up (fun _ _ q => q) (I _ _ (by decide)) (fun j => by show t.2.2.1 _ _ _ = s.2.2.1 _ _ _; rw [T2]) (fun j => by show t.2.2.2 _ _ _ = s.2.2.2 _ _ _; rw [T2])
  exact ⟨fun _ => giveTrue_ok Wt Ft st rt, fun _ => .inl (turn3 Wt Ft st rt)⟩
