/-! The class: an error that ends all. -/
theorem endSw_w {s t : S1} {n : Nat × Nat} {l : Int32} (W : cW s n) (F : qFr true s) (h1 : gI s 18951 (mCur s) ≠ 0) (hr : 0 ≤ oRs s (mCur s)) (hl0 : l = 0 ∨ l = 3)
    (TI : ∀ f j, gI t f j = if f = 18955 ∧ j = mCur s then -1 else if f = 18951 ∧ j = mCur s then l else if f = 16395 ∧ j = 0 then oRs s (mCur s) else gI s f j) (T2 : t.2 = s.2) : cW t n ∧ qFr true t ∧ cLv false t = cLv false s ∧ gI t 18951 (mCur t) = 2 := by
  obtain ⟨av, rne, s2, d1, top⟩ := res_of W F hr
  generalize hR : oRs s (mCur s) = r at *
  have i1 : ∀ f j, f ≠ 18951 ∧ f ≠ 18955 ∧ f ≠ 16395 → gI t f j = gI s f j := fun f j q => by
    rw [TI, if_neg (fun z => q.2.1 z.1), if_neg (fun z => q.1 z.1), if_neg (fun z => q.2.2 z.1)]
  have c1 : mCur t = r := by
    show gI t 16395 0 = r
    rw [TI]
    simp
  have c2 : gI t 18951 (mCur s) = l := by
    rw [TI]
    simp
  have c3 : gI t 18951 r = 2 := by
    rw [TI]
    simp [rne, s2]
  have st : ∀ d, d ≠ r → d ≠ mCur s → gI t 18951 d = gI s 18951 d := fun d a b => by
    rw [TI]
    simp [a, b]
  have rs : ∀ d, d ≠ mCur s → oRs t d = oRs s d := fun d b => by
    show gI t 18955 d = _
    rw [TI]
    simp [b]
  have L : ∀ f j, gL t f j = gL s f j := fun f j => by
    show t.2.1 f j = s.2.1 f j
    rw [T2]
  have A : ∀ a j q, gA t a j q = gA s a j q := fun a j q => by
    show t.2.2.1 a j q = s.2.2.1 a j q
    rw [T2]
  have B : ∀ a j q, gB t a j q = gB s a j q := fun a j q => by
    show t.2.2.2 a j q = s.2.2.2 a j q
    rw [T2]
  have am := W.cur
  have lv : ∀ y u, cLv false t y u ↔ cLv false s y u := fun y u => by
    rw [cLv_f, cLv_f, show cN t = cN s from i1 _ _ (by decide), show cTy t y = cTy s y from i1 _ _ (by decide)]
  have lv' : cLv false t = cLv false s := by
    funext y u
    exact propext (lv y u)
  have elk : ∀ y, cLk t y = cLk s y := fun y => i1 _ _ (by decide)
  have eop : ∀ d y, cOp t d y ↔ cOp s d y := fun d y => by
    unfold cOp
    rw [lv, elk]
  have Hi : cHI t := W.hi.sm ⟨fun f j q _ _ => i1 f j (by unfold hpI at q; omega), fun f j _ _ _ => L f j, fun a j k _ _ => A a j k, fun a j k _ _ => B a j k⟩
  have pk : cPk s t := ⟨fun f j q => i1 f j (by omega), fun a j k _ => A a j k⟩
  have esl : ∀ d, oSl t d = oSl s d := fun d => i1 _ _ (by decide)
  have epc : ∀ d, pC t d ↔ pC s d := fun d => by
    unfold pC
    rw [i1 19071 d (by decide)]
  have rn : cRn t := by
    obtain ⟨m0, ρ, hl⟩ := W.rt.2.1
    have h2 := hl.drop m0
    rw [hR] at h2
    refine ⟨by rw [c1]; exact av.1.1.1, ρ, h2.congr (fun d => ?_) (fun _ _ => rfl) (fun d m => rs d m.2) c1⟩
    unfold cMb
    rw [epc, esl, c1]
    by_cases dm : d = mCur s
    · subst dm
      rw [c2]
      constructor
      · rintro ⟨-, -, y⟩
        rcases y with y | y | y
        · rcases hl0 with z | z <;> rw [z] at y <;> exact absurd y (by decide)
        · rcases hl0 with z | z <;> rw [z] at y <;> exact absurd y (by decide)
        · exact absurd y.symm rne
      · rintro ⟨-, y⟩
        exact absurd rfl y
    · by_cases dr : d = r
      · rw [dr]
        exact ⟨fun _ => ⟨⟨av.1, av.2, .inr (.inl s2)⟩, rne⟩, fun _ => ⟨av.1, av.2, .inr (.inr rfl)⟩⟩
      · rw [st d dr dm]
        constructor
        · rintro ⟨y1, y2, y3⟩
          refine ⟨⟨y1, y2, ?_⟩, dm⟩
          rcases y3 with y | y | y
          · exact .inl y
          · exact .inr (.inl y)
          · exact absurd y dr
        · rintro ⟨⟨y1, y2, y3⟩, -⟩
          refine ⟨y1, y2, ?_⟩
          rcases y3 with y | y | y
          · exact .inl y
          · exact .inr (.inl y)
          · exact absurd y dm
  have Wt : cW t n := by
    refine ⟨Hi, W.rt.up2 (fun y u _ l => (lv y u).2 l) rn (fun f q => i1 f 0 (by omega)) (fun a j k _ => A a j k) (fun a j k _ => B a j k) (fun y _ => i1 _ _ (by decide)), (i1 _ _ (by decide)).trans W.ld, ?_, cRo.fi (x := 0) W.ro (fun f j q => i1 f j (by omega)) (fun j _ => A _ _ _), pk.pg W.pg, fun x l => ?_⟩
    · obtain ⟨e1, e2, e3, e4, e5, e6⟩ := W.sf
      have pfE : ∀ d, pF t d ↔ pF s d := fun d => by
        unfold pF
        rw [i1 19583 d (by decide)]
      have ppE : ∀ d, pP t d ↔ pP s d := fun d => by
        unfold pP
        rw [i1 18559 d (by decide)]
      refine ⟨fun d a b => ?_, .inr (by rw [show gI t 16395 0 = r from c1, epc]; exact av.1), ?_, ?_, ?_, fun f p => ?_⟩
      · have w := e1 d a b
        unfold cFlg cNfl at w ⊢
        simp only [i1 19071 _ (by decide), i1 19199 _ (by decide), i1 19327 _ (by decide), i1 19455 _ (by decide), i1 18947 _ (by decide), i1 19583 _ (by decide)]
        exact w
      · rw [i1 16516 _ (by decide), epc]
        exact e3
      · rw [i1 16517 _ (by decide), pfE]
        exact e4
      · rw [i1 16518 _ (by decide), ppE]
        exact e5
      · rw [i1 19458 _ (by decide), ppE]
        exact e6 f ((pfE f).1 p)
    · rw [elk]
      unfold nPr
      rw [i1 12937 _ (by decide)]
      exact W.kl x ((lv _ _).1 l)
  refine ⟨Wt, fun d a => ?_, lv', by rw [c1]; exact c3⟩
  have as : cAv s d := ⟨(epc d).1 a.1, by rw [← esl]; exact a.2⟩
  obtain ⟨q, fr⟩ := F d as
  have eD : oD t d = oD s d := i1 _ _ (by decide)
  have eU : oU t d = oU s d := i1 _ _ (by decide)
  refine ⟨?_, fun j j0 j1 => ?_⟩
  · unfold qTc at q ⊢
    rw [eD, eU, c1, i1 18952 _ (by decide), show fWh t (d * 200 + (oD s d - 1)) = fWh s (d * 200 + (oD s d - 1)) from i1 _ _ (by decide)]
    have tl : (oD s d = 0 → oU s d = 0) ∧ ∀ y, cOp t d y → (cPl t y).toInt < (oU s d).toInt := ⟨q.2.2.2.2.1, fun y m => by
      rw [show cPl t y = cPl s y from i1 _ _ (by decide)]
      exact q.2.2.2.2.2 y ((eop _ _).1 m)⟩
    by_cases dm : d = mCur s
    · subst dm
      rw [c2]
      have nb : gI s 18952 (mCur s) ≠ 0 := fun z => absurd (q.2.2.2.1 z).1 h1
      rcases hl0 with rfl | rfl
      · exact ⟨by decide, fun z => absurd z (by decide), fun z => absurd z (by decide), fun z => absurd z nb, tl⟩
      · exact ⟨by decide, fun z => absurd z (by decide), fun z => absurd z (by decide), fun z => absurd z nb, tl⟩
    · by_cases dr : d = r
      · rw [dr, c3]
        rw [dr] at tl q
        refine ⟨by decide, fun _ => rfl, fun _ y => absurd rfl y, fun z => ?_, tl⟩
        have := (q.2.2.2.1 z).1
        rw [s2] at this
        exact absurd this (by decide)
      · rw [st d dr dm]
        exact ⟨q.1, fun z => absurd (q.2.1 z) dm, fun z _ => q.2.2.1 z dm, q.2.2.2.1, tl⟩
  · rw [eD] at j1
    have w := fr j j0 j1
    have en : fEnd t d j = fEnd s d j := by
      unfold fEnd fBs
      rw [eD, eU, i1 19459 _ (by decide)]
    have wt : qWt t (d * 200 + j) ↔ qWt s (d * 200 + j) := pk.wt (i1 _ _ (by decide)) (i1 _ _ (by decide)) (i1 _ _ (by decide))
    unfold qF at w ⊢
    rw [show fWh t (d * 200 + j) = fWh s (d * 200 + j) from i1 _ _ (by decide), show fPr t (d * 200 + j) = fPr s (d * 200 + j) from i1 _ _ (by decide), show mFn t (d * 200 + j) = mFn s (d * 200 + j) from i1 _ _ (by decide), en, wt, lv, elk]
    unfold fBs fEx pNr at w ⊢
    rw [i1 19459 _ (by decide), i1 19460 _ (by decide), i1 18434 _ (by decide)]
    exact ⟨w.1, w.2.1, w.2.2.1, fun z => ⟨(w.2.2.2 z).1, (w.2.2.2 z).2.1, (w.2.2.2 z).2.2.1, fun _ => (w.2.2.2 z).2.2.2 (.inr (.inr rfl))⟩⟩

theorem endAll_ok {s : S1} {n : Nat × Nat} (W : cW s n) (F : qFr false s) (h1 : gI s 18951 (mCur s) ≠ 0) (er : cV (cLv false s) (gI s 16399 0) (gL s 16400 0)) : ok M_Ma_endAll s (fun _ t => StE t n) := by
  have e0 : (0 : Int32).toInt = 0 := rfl
  have e1 : (1 : Int32).toInt = 1 := rfl
  have e32 : (32 : Int32).toInt = 32 := rfl
  simp only [M_Ma_endAll, M_Ma_endAll_j63, ok_B, ok_C, ok_R, ok_L, ok_K, ok_GI, ok_GL, ok_PI, ok_PL, ok_AI, ok_AL, ok_SI, ok_SL, ok_CI, cmp_lt, cmp_le, cmp_gt, cmp_ge, cmp_eq, nar0, nar1, Sum.elim_inl, Sum.elim_inr, ok_PzT, ok_PzC, ok_PzP, ok_PrC, ok_PrP, ok_PrF, ok_PrN, ok_Ln, ok_CL, ok_Nw, ok_S, ok_Ks, ok_Nz]
  refine ok_mono (P := fun (_ : Unit) t => cW t n ∧ qFr false t ∧ gI t 18951 (mCur t) ≠ 0 ∧ cV (cLv false t) (gI t 16399 0) (gL t 16400 0)) (ok_W (fun y t => (0 ≤ y.toInt ∧ y.toInt ≤ 32) ∧ cW t n ∧ qFr false t ∧ gI t 18951 (mCur t) ≠ 0 ∧ cV (cLv false t) (gI t 16399 0) (gL t 16400 0)) (fun y _ => (32 - y.toInt).toNat) ?_ 0 s ⟨⟨by decide, by decide⟩, W, F, h1, er⟩) ?_
  · rintro y t ⟨⟨y0, y1⟩, Wt, Ft, st, et⟩
    have am := Wt.cur
    simp only [M_Ma_endAll_L2, ok_B, ok_C, ok_R, ok_L, ok_K, ok_GI, ok_GL, ok_PI, ok_PL, ok_AI, ok_AL, ok_SI, ok_SL, ok_CI, cmp_lt, cmp_le, cmp_gt, cmp_ge, cmp_eq, nar0, nar1, Sum.elim_inl, Sum.elim_inr, ok_PzT, ok_PzC, ok_PzP, ok_PrC, ok_PrP, ok_PrF, ok_PrN, ok_Ln, ok_CL, ok_Nw, ok_S, ok_Ks, ok_Nz]
    refine ⟨fun _ => ⟨Wt, Ft, st, et⟩, fun c => ⟨am.1, fun _ => ⟨Wt, Ft, st, et⟩, fun c2 => ⟨am.1, ?_⟩⟩⟩
    rw [i32_le] at c
    refine ok_mono (empty_ok Wt Ft) ?_
    rintro - u em
    have lvu := em.lv
    obtain ⟨Wu, Fu, I, L, A, B⟩ := em
    have cur : gI u 16395 0 = mCur t := I _ _ (by unfold lvI; decide)
    have cur' : mCur u = mCur t := cur
    have rs : oRs u (mCur u) = oRs t (mCur t) := by
      rw [cur']
      exact I _ _ (by unfold lvI; decide)
    have hr : 0 ≤ oRs u (mCur u) := by
      rw [rs, i32_le]
      rw [i32_lt] at c2
      change ¬ (oRs t (mCur t)).toInt < _ at c2
      omega
    obtain ⟨av, -⟩ := res_of Wu Fu hr
    have su : gI u 18951 (mCur u) ≠ 0 := by
      rw [cur', I _ _ (by unfold lvI; decide)]
      exact st
    have key : ∀ T : S1, (∀ f j, gI T f j = if f = 18955 ∧ j = mCur u then -1 else if f = 18951 ∧ j = mCur u then 3 else if f = 16395 ∧ j = 0 then oRs u (mCur u) else gI u f j) → T.2 = u.2 → cW T n ∧ qFr false T ∧ gI T 18951 (mCur T) ≠ 0 ∧ cV (cLv false T) (gI T 16399 0) (gL T 16400 0) := fun T TI T2 => by
      obtain ⟨w1, w2, w3, w4⟩ := endSw_w (l := 3) Wu Fu su hr (.inr rfl) TI T2
      refine ⟨w1, w2.weak, by rw [w4]; decide, ?_⟩
      rw [w3, lvu, TI, if_neg (fun z => absurd z.1 (by decide)), if_neg (fun z => absurd z.1 (by decide)), if_neg (fun z => absurd z.1 (by decide)), I _ _ (by unfold lvI; decide), show gL T 16400 0 = gL u 16400 0 from by show T.2.1 _ _ = u.2.1 _ _; rw [T2], L _ _ (by decide)]
      exact et
    have ey : (y + 1).toInt = y.toInt + 1 := by rw [ktI_add] <;> omega
    refine ⟨Wu.cur.1, av.1, ⟨⟨by omega, by omega⟩, key _ (fun f j => ?_) rfl⟩, by omega⟩
    simp only [gI_sI]
  · rintro - t ⟨Wt, Ft, st, et⟩
    refine ⟨Wt.cur.1, ?_⟩
    refine ok_mono (empty_ok Wt Ft) ?_
    rintro - u em
    have lvu := em.lv
    obtain ⟨Wu, Fu, I, L, A, B⟩ := em
    refine endErr_ok Wu Fu ?_ ?_
    · rw [show mCur u = mCur t from I _ _ (by unfold lvI; decide), I _ _ (by unfold lvI; decide)]
      exact st
    · rw [lvu, I _ _ (by unfold lvI; decide), L _ _ (by decide)]
      exact et
