/-! The class: another coroutine runs. -/
theorem switch_w {s t : S1} {n : Nat × Nat} {c : Int32} (W : cW s n) (F : qFr true s) (h1 : gI s 18951 (mCur s) = 1) (d1 : 1 ≤ (oD s (mCur s)).toInt) (top : fWh s (tF s) ≠ 0) (ac : cAv s c) (s0 : gI s 18951 c = 0)
    (I : ∀ f j, f ≠ 18951 ∧ f ≠ 18952 ∧ f ≠ 18955 ∧ f ≠ 16395 ∧ f ≠ 16898 ∧ f ≠ 17282 ∧ ¬ miI f → gI t f j = gI s f j) (I2 : ∀ f j, f = 18951 ∨ f = 18952 ∨ f = 18955 → j ≠ c → (f = 18951 → j ≠ mCur s) → gI t f j = gI s f j)
    (c1 : mCur t = c) (c2 : gI t 18951 (mCur s) = 2) (c3 : gI t 18951 c = 1) (c4 : gI t 18952 c ≠ 0) (c5 : gI t 18955 c = mCur s) (L : ∀ f j, f ≠ 16398 ∧ f ≠ 16400 → (f = 18953 → j ≠ c) → gL t f j = gL s f j) (L2 : cV (cLv false s) 6 (gL t 18953 c))
    (A : ∀ a j q, a ≠ 136 → gA t a j q = gA s a j q) (B : ∀ a j q, a ≠ 137 → gB t a j q = gB s a j q) (ra : cRow (cLv false s) t 132) : cW t n ∧ qFr true t ∧ cLv false t = cLv false s := by
  have i1 : ∀ f j, f ≠ 18951 ∧ f ≠ 18952 ∧ f ≠ 18955 ∧ f ≠ 16395 ∧ f ≠ 16898 ∧ f ≠ 17282 ∧ ¬ (f = 16390 ∨ f = 16392 ∨ f = 16393 ∨ f = 16396 ∨ f = 16397 ∨ f = 16399 ∨ f = 16401) → gI t f j = gI s f j := fun f j q => I f j (by unfold miI; exact q)
  have cne : c ≠ mCur s := fun z => by
    rw [z, h1] at s0
    exact absurd s0 (by decide)
  have am := W.cur
  have lv : ∀ y u, cLv false t y u ↔ cLv false s y u := fun y u => by
    rw [cLv_f, cLv_f, show cN t = cN s from i1 _ _ (by decide), show cTy t y = cTy s y from i1 _ _ (by decide)]
  have lv' : cLv false t = cLv false s := by
    funext y u
    exact propext (lv y u)
  have elk : ∀ y, cLk t y = cLk s y := fun y => i1 _ _ (by decide)
  have eop : ∀ d y, cOp t d y ↔ cOp s d y := fun d y => by
    unfold cOp
    rw [lv, elk]
  obtain ⟨co, dD, dU⟩ := W.hi.dep ac
  have Hi : cHI t := by
    refine W.hi.cow (c := c) ⟨fun f j q _ _ => i1 f j (by unfold hpI at q; omega), fun f j q r _ => L f j (by unfold hpL at q; omega) r, fun a j q z _ => A a j q (by unfold hpA at z; omega), fun a j q z _ => B a j q (by unfold hpB at z; omega)⟩ (fun _ _ => ?_) (fun y p l m => ?_)
    · obtain ⟨w1, ⟨w2, w3⟩, ⟨w4, w5⟩, w6⟩ := co
      refine ⟨L2, ⟨by rw [show oU t c = oU s c from i1 _ _ (by decide)]; exact w2, fun i i0 i2 => ?_⟩, ⟨by rw [show oD t c = oD s c from i1 _ _ (by decide)]; exact w4, fun j j0 j1 => ?_⟩, fun y l _ => (lv _ _).1 l⟩
      · rw [show oU t c = oU s c from i1 _ _ (by decide)] at i2
        rw [show oRk t c i = oRk s c i from A _ _ _ (by decide), show oRv t c i = oRv s c i from B _ _ _ (by decide)]
        exact w3 i i0 i2
      · rw [show oD t c = oD s c from i1 _ _ (by decide)] at j1
        rw [show mFn t (c * 200 + j) = mFn s (c * 200 + j) from i1 _ _ (by decide), show mJk t (c * 200 + j) = mJk s (c * 200 + j) from i1 _ _ (by decide), show mJv t (c * 200 + j) = mJv s (c * 200 + j) from L _ _ (by decide) (fun z => absurd z (by decide))]
        exact w5 j j0 j1
    · have v := (W.hi.var_v m.1).1
      unfold vKd vVl at v
      rw [m.2, if_pos p.1.1, if_pos p.1.1] at v
      rw [show oRk t c (cPl s y) = oRk s c (cPl s y) from A _ _ _ (by decide), show oRv t c (cPl s y) = oRv s c (cPl s y) from B _ _ _ (by decide)]
      exact v
  have pk : cPk s t := ⟨fun f j q => i1 f j (by omega), fun a j k q => A a j k (by omega)⟩
  have esl : ∀ d, oSl t d = oSl s d := fun d => i1 _ _ (by decide)
  have epc : ∀ d, pC t d ↔ pC s d := fun d => by
    unfold pC
    rw [i1 19071 d (by decide)]
  have rn : cRn t := by
    obtain ⟨m0, ρ, hl⟩ := W.rt.2.1
    have nc : ∀ d, cMb s d → d ≠ c := fun d m z => by
      rw [z] at m
      rcases m.2.2 with y | y | y
      · rw [s0] at y
        exact absurd y (by decide)
      · rw [s0] at y
        exact absurd y (by decide)
      · exact cne y
    have h2 : Ls (cMb s) (fun x => if x = c then ρ (mCur s) + 1 else ρ x) (oRs t) (mCur s) := hl.congr (fun _ => Iff.rfl) (fun d m => if_neg (nc d m)) (fun d m => I2 _ _ (by decide) (nc d m) (fun z => absurd z (by decide))) rfl
    have h3 := h2.cons (z := c) ac.1.1.1 c5 (fun d m => by
      rw [if_neg (nc d m), if_pos rfl]
      have := (hl.2.1 d m).2
      omega)
    refine ⟨by rw [c1]; exact ac.1.1.1, _, h3.congr (fun d => ?_) (fun _ _ => rfl) (fun _ _ => rfl) c1⟩
    unfold cMb
    rw [epc, esl, c1]
    by_cases dc : d = c
    · rw [dc]
      exact ⟨fun _ => .inr rfl, fun _ => ⟨ac.1, ac.2, .inr (.inr rfl)⟩⟩
    · by_cases dm : d = mCur s
      · rw [dm]
        exact ⟨fun _ => .inl ⟨am.1, am.2, .inr (.inr rfl)⟩, fun _ => ⟨am.1, am.2, .inr (.inl c2)⟩⟩
      · rw [I2 18951 d (by decide) dc (fun _ => dm)]
        constructor
        · rintro ⟨y1, y2, y3⟩
          refine .inl ⟨y1, y2, ?_⟩
          rcases y3 with y | y | y
          · exact .inl y
          · exact .inr (.inl y)
          · exact absurd y dc
        · rintro (⟨y1, y2, y3⟩ | y)
          · refine ⟨y1, y2, ?_⟩
            rcases y3 with y | y | y
            · exact .inl y
            · exact .inr (.inl y)
            · exact absurd y dm
          · exact absurd y dc
  have Wt : cW t n := by
    refine ⟨Hi, ⟨?_, rn, ?_, ?_, ?_, fun i a b => ?_, fun i a b => ?_⟩, (i1 _ _ (by decide)).trans W.ld, ?_, cRo.fi (x := 0) W.ro (fun f j q => i1 f j (by omega)) (fun j _ => A _ _ _ (by decide)), pk.pg W.pg, fun x l => ?_⟩
    · rw [i1 16394 _ (by decide), lv]
      exact W.rt.1
    · rw [lv']
      exact W.last.up (fun _ _ q => q) (i1 _ _ (by decide)) (fun j => A _ _ _ (by decide)) (fun j => B _ _ _ (by decide))
    · rw [lv']
      exact W.opn.up (fun _ _ q => q) (i1 _ _ (by decide)) (fun j => A _ _ _ (by decide)) (fun j => B _ _ _ (by decide))
    · rw [lv']
      exact ra
    · rw [A 115 _ _ (by decide), lv, show cSy t (gA s 115 0 i) = cSy s (gA s 115 0 i) from i1 _ _ (by decide)]
      exact W.rt.2.2.2.2.2.1 i a b
    · rw [i1 12938 _ (by decide)] at b
      rw [A 105 _ _ (by decide), B 106 _ _ (by decide), lv, show cSy t (gB s 106 0 i).toInt32 = cSy s (gB s 106 0 i).toInt32 from i1 _ _ (by decide)]
      exact W.rt.2.2.2.2.2.2 i a b
    · obtain ⟨e1, e2, e3, e4, e5, e6⟩ := W.sf
      have pfE : ∀ d, pF t d ↔ pF s d := fun d => by
        unfold pF
        rw [i1 19583 d (by decide)]
      have ppE : ∀ d, pP t d ↔ pP s d := fun d => by
        unfold pP
        rw [i1 18559 d (by decide)]
      refine ⟨fun d a b => ?_, .inr (by rw [show gI t 16395 0 = c from c1, epc]; exact ac.1), ?_, ?_, ?_, fun f p => ?_⟩
      · have w := e1 d a b
        unfold cFlg cNfl at w ⊢
        simp only [i1 19071 _ (by decide), i1 19199 _ (by decide), i1 19327 _ (by decide), i1 19455 _ (by decide), i1 18947 _ (by decide), i1 19583 _ (by decide)]
        exact w
      · rw [i1 16516 _ (by decide), epc]
        exact e3
      · rw [i1 16517 _ (by decide), pfE]
        exact e4
      · rw [i1 16518 _ (by decide), ppE]
        exact e5
      · rw [i1 19458 _ (by decide), ppE]
        exact e6 f ((pfE f).1 p)
    · rw [elk]
      unfold nPr
      rw [i1 12937 _ (by decide)]
      exact W.kl x ((lv _ _).1 l)
  refine ⟨Wt, fun d a => ?_, lv'⟩
  have as : cAv s d := ⟨(epc d).1 a.1, by rw [← esl]; exact a.2⟩
  obtain ⟨q, fr⟩ := F d as
  have eD : oD t d = oD s d := i1 _ _ (by decide)
  have eU : oU t d = oU s d := i1 _ _ (by decide)
  refine ⟨?_, fun j j0 j1 => ?_⟩
  · unfold qTc at q ⊢
    rw [eD, eU, c1, show fWh t (d * 200 + (oD s d - 1)) = fWh s (d * 200 + (oD s d - 1)) from i1 _ _ (by decide)]
    have tl : (oD s d = 0 → oU s d = 0) ∧ ∀ y, cOp t d y → (cPl t y).toInt < (oU s d).toInt := ⟨q.2.2.2.2.1, fun y m => by
      rw [show cPl t y = cPl s y from i1 _ _ (by decide)]
      exact q.2.2.2.2.2 y ((eop _ _).1 m)⟩
    by_cases dc : d = c
    · rw [dc, c3]
      rw [dc] at tl
      exact ⟨by decide, fun _ => rfl, fun z => absurd z (by decide), fun z => absurd z c4, tl⟩
    · by_cases dm : d = mCur s
      · rw [dm, c2]
        rw [dm] at tl
        refine ⟨by decide, fun z => absurd z (by decide), fun _ _ => ⟨d1, top⟩, fun z => ?_, tl⟩
        rw [I2 18952 _ (by decide) (fun z => cne z.symm) (fun z => absurd z (by decide))] at z
        rw [dm] at q
        have := (q.2.2.2.1 z).1
        rw [h1] at this
        exact absurd this (by decide)
      · rw [I2 18951 d (by decide) dc (fun _ => dm), I2 18952 d (by decide) dc (fun z => absurd z (by decide))]
        refine ⟨q.1, fun z => absurd (q.2.1 z) dm, fun z _ => q.2.2.1 z dm, q.2.2.2.1, tl⟩
  · rw [eD] at j1
    have w := fr j j0 j1
    have en : fEnd t d j = fEnd s d j := by
      unfold fEnd fBs
      rw [eD, eU, i1 19459 _ (by decide)]
    have wt : qWt t (d * 200 + j) ↔ qWt s (d * 200 + j) := pk.wt (i1 _ _ (by decide)) (i1 _ _ (by decide)) (i1 _ _ (by decide))
    unfold qF at w ⊢
    rw [show fWh t (d * 200 + j) = fWh s (d * 200 + j) from i1 _ _ (by decide), show fPr t (d * 200 + j) = fPr s (d * 200 + j) from i1 _ _ (by decide), show mFn t (d * 200 + j) = mFn s (d * 200 + j) from i1 _ _ (by decide), en, wt, lv, elk]
    unfold fBs fEx pNr at w ⊢
    rw [i1 19459 _ (by decide), i1 19460 _ (by decide), i1 18434 _ (by decide)]
    exact ⟨w.1, w.2.1, w.2.2.1, fun z => ⟨(w.2.2.2 z).1, (w.2.2.2 z).2.1, (w.2.2.2 z).2.2.1, fun _ => (w.2.2.2 z).2.2.2 (.inr (.inr rfl))⟩⟩
