/-! The class: a frame more. -/
/-- a frame of the running coroutine has been pushed, its registers filled -/
def pushed (s t : S1) (k : Int32) : Prop :=
  (∀ f j, f ≠ 18948 ∧ f ≠ 18949 ∧ f / 128 ≠ 152 ∧ f ≠ 16898 ∧ ¬ miI f → gI t f j = gI s f j) ∧
  (∀ f j, f = 18948 ∨ f = 18949 → j ≠ mCur s → gI t f j = gI s f j) ∧
  (∀ f j, f / 128 = 152 → j ≠ mCur s * 200 + oD s (mCur s) ∨ f = 19583 → gI t f j = gI s f j) ∧
  (∀ f j, f ≠ 16398 ∧ f ≠ 16400 → (f = 19463 → j ≠ mCur s * 200 + oD s (mCur s)) → gL t f j = gL s f j) ∧
  (∀ a j q, a ≠ 133 → (a = 149 → j ≠ mCur s) → gA t a j q = gA s a j q) ∧ (∀ a j q, a ≠ 134 → (a = 150 → j ≠ mCur s) → gB t a j q = gB s a j q) ∧
  (∀ i : Int32, i.toInt < (oU s (mCur s)).toInt → oRk t (mCur s) i = oRk s (mCur s) i ∧ oRv t (mCur s) i = oRv s (mCur s) i) ∧
  (∀ i : Int32, (oU s (mCur s)).toInt ≤ i.toInt → i.toInt < (oU t (mCur s)).toInt → cV (cLv false s) (oRk t (mCur s) i) (oRv t (mCur s) i)) ∧
  ((oD s (mCur s)).toInt < 200 ∧ oD t (mCur s) = oD s (mCur s) + 1 ∧ (oU s (mCur s)).toInt ≤ (oU t (mCur s)).toInt ∧ (oU t (mCur s)).toInt ≤ 4000) ∧
  (fWh t (mCur s * 200 + oD s (mCur s)) = k ∧ (0 ≤ k.toInt ∧ k.toInt ≤ 4) ∧ gI t 19459 (mCur s * 200 + oD s (mCur s)) = oU s (mCur s) ∧ mJk t (mCur s * 200 + oD s (mCur s)) = 0 ∧ (gI t 19458 (mCur s * 200 + oD s (mCur s)) = -1 ∨ pP s (gI t 19458 (mCur s * 200 + oD s (mCur s))))) ∧
  (k ≠ 0 → oU t (mCur s) = oU s (mCur s) ∧ (mFn t (mCur s * 200 + oD s (mCur s)) < 0 ∨ cLv false s (mFn t (mCur s * 200 + oD s (mCur s))) 9)) ∧
  (k = 0 → cLv false s (mFn t (mCur s * 200 + oD s (mCur s))) 6 ∧ cLk s (mFn t (mCur s * 200 + oD s (mCur s))) = fPr t (mCur s * 200 + oD s (mCur s)) ∧ (0 ≤ fEx t (mCur s * 200 + oD s (mCur s)) ∧ fEx t (mCur s * 200 + oD s (mCur s)) ≤ 512) ∧ (oU s (mCur s)).toInt + pNr s (fPr t (mCur s * 200 + oD s (mCur s))) + fEx t (mCur s * 200 + oD s (mCur s)) = (oU t (mCur s)).toInt) ∧
  cRow (cLv false s) t 132
theorem pushed.w {s t : S1} {n : Nat × Nat} {k : Int32} (h : pushed s t k) (W : cW s n) (F : qFr true s) (h1 : gI s 18951 (mCur s) = 1) : cW t n ∧ qFr false t ∧ (k ≠ 0 → qFr true t) ∧ mCur t = mCur s ∧ cLv false t = cLv false s ∧ tF t = mCur s * 200 + oD s (mCur s) := by
  obtain ⟨I, Ic, If, L, A, B, rg, rn, ⟨d2, tD, u1, u2⟩, ⟨f1, f2, f3, f4, f5⟩, fk, f0, ra⟩ := h
  have ac := W.cur
  obtain ⟨co, dD, dU⟩ := W.hi.dep ac
  have e0 : (0 : Int32).toInt = 0 := rfl
  have e1 : (1 : Int32).toInt = 1 := rfl
  have e200 : (200 : Int32).toInt = 200 := rfl
  have i1 : ∀ f j, f ≠ 18948 ∧ f ≠ 18949 ∧ f / 128 ≠ 152 ∧ f ≠ 16898 ∧ ¬ (f = 16390 ∨ f = 16392 ∨ f = 16393 ∨ f = 16396 ∨ f = 16397 ∨ f = 16399 ∨ f = 16401) → gI t f j = gI s f j := fun f j q => I f j (by unfold miI; exact q)
  have cur : mCur t = mCur s := i1 _ _ (by decide)
  have dr : 0 ≤ oD s (mCur s) ∧ oD s (mCur s) < 200 := by
    rw [i32_le, i32_lt]
    omega
  have tDi : (oD t (mCur s)).toInt = (oD s (mCur s)).toInt + 1 := by
    rw [tD, ktI_add] <;> omega
  have lv : ∀ y u, cLv false t y u ↔ cLv false s y u := fun y u => by
    rw [cLv_f, cLv_f, show cN t = cN s from i1 _ _ (by decide), show cTy t y = cTy s y from i1 _ _ (by decide)]
  have lv' : cLv false t = cLv false s := by
    funext y u
    exact propext (lv y u)
  have elk : ∀ y, cLk t y = cLk s y := fun y => i1 _ _ (by decide)
  have eop : ∀ c y, cOp t c y ↔ cOp s c y := fun c y => by
    unfold cOp
    rw [lv, elk]
  have nF : ∀ d j, cAv s d → 0 ≤ j → j < 200 → (d ≠ mCur s ∨ j ≠ oD s (mCur s)) → d * 200 + j ≠ mCur s * 200 + oD s (mCur s) := fun d j a j0 j1 q z => by
    by_cases e : d = mCur s
    · rw [e] at z
      rcases q with q | q
      · exact q e
      · exact q (fm_inj1 ac.1.1 ⟨j0, j1⟩ dr z)
    · exact fm_ne a.1.1 ac.1.1 ⟨j0, j1⟩ dr e z
  have etF : tF t = mCur s * 200 + oD s (mCur s) := by
    unfold tF
    rw [cur, tD, Int32.add_sub_cancel]
  have Hi : cHI t := by
    refine W.hi.cow (c := mCur s) ⟨fun f j q r1 r2 => ?_, fun f j q _ r2 => ?_, fun a j q z r => A a j q (by unfold hpA at z; omega) r, fun a j q z r => B a j q (by unfold hpB at z; omega) r⟩ (fun _ _ => ?_) (fun y _ _ m => ?_)
    · by_cases z : f = 18948 ∨ f = 18949
      · exact Ic f j z (r1 z)
      · by_cases z2 : f = 19457 ∨ f = 19462
        · exact If f j (by omega) (.inl (r2 z2 ac.1.1.1 ac.1.1.2 _ dr.1 dr.2))
        · unfold hpI at q
          exact i1 f j (by omega)
    · unfold hpL at q
      exact L f j (by omega) (fun z => r2 z ac.1.1.1 ac.1.1.2 _ dr.1 dr.2)
    · obtain ⟨w1, ⟨w2, w3⟩, ⟨w4, w5⟩, w6⟩ := co
      refine ⟨?_, ⟨?_, fun i i0 i2 => ?_⟩, ⟨?_, fun j j0 j1 => ?_⟩, fun y l _ => (lv _ _).1 l⟩
      · rw [show oFn t (mCur s) = oFn s (mCur s) from L _ _ (by decide) (fun z => absurd z (by decide))]
        exact w1
      · rw [i32_le, i32_le]
        show 0 ≤ _ ∧ _ ≤ (4000 : Int)
        omega
      · by_cases z : i.toInt < (oU s (mCur s)).toInt
        · rw [(rg i z).1, (rg i z).2]
          exact w3 i i0 (by rw [i32_lt]; exact z)
        · rw [i32_lt] at i2
          exact rn i (by omega) i2
      · rw [i32_le, i32_le, tDi]
        show 0 ≤ _ ∧ _ ≤ (200 : Int)
        omega
      · rw [i32_lt, tDi] at j1
        have j0' := j0
        rw [i32_le] at j0'
        by_cases z : j = oD s (mCur s)
        · rw [z]
          refine ⟨?_, ?_⟩
          · by_cases k0 : k = 0
            · exact .inr (.inl (f0 k0).1)
            · rcases (fk k0).2 with y | y
              · exact .inl y
              · exact .inr (.inr y)
          · rw [f4]
            exact cV.lit (by decide)
        · have : j.toInt ≠ (oD s (mCur s)).toInt := fun y => z (toInt_inj y)
          have ne := nF (mCur s) j ac j0 (by rw [i32_lt]; omega) (.inr z)
          rw [show mFn t (mCur s * 200 + j) = mFn s (mCur s * 200 + j) from If _ _ (by decide) (.inl ne), show mJk t (mCur s * 200 + j) = mJk s (mCur s * 200 + j) from If _ _ (by decide) (.inl ne), show mJv t (mCur s * 200 + j) = mJv s (mCur s * 200 + j) from L _ _ (by decide) (fun _ => ne)]
          exact w5 j j0 (by rw [i32_lt]; omega)
    · have z := (F _ ac).1.2.2.2.2.2 y m
      have p := (W.hi.2.2.2.2.1.1 _ ac.1 ac.2).2.2.2 y m
      rw [(rg _ z).1, (rg _ z).2]
      exact co.2.1.2 _ p.1 (by rw [i32_lt]; exact z)
  have pk : cPk s t := ⟨fun f j q => i1 f j (by omega), fun a j k q => A a j k (by omega) (fun z => by omega)⟩
  have rn' : cRn t := by
    obtain ⟨m0, ρ, hl⟩ := W.rt.2.1
    refine ⟨by rw [cur]; exact m0, ρ, hl.congr (fun c => ?_) (fun _ _ => rfl) (fun c _ => i1 _ _ (by decide)) cur⟩
    unfold cMb pC
    rw [i1 19071 _ (by decide), show oSl t c = oSl s c from i1 _ _ (by decide), i1 18951 _ (by decide), cur]
  have Wt : cW t n := by
    refine ⟨Hi, ⟨?_, rn', ?_, ?_, ?_, fun i a b => ?_, fun i a b => ?_⟩, (i1 _ _ (by decide)).trans W.ld, ?_, cRo.fi (x := 0) W.ro (fun f j q => i1 f j (by omega)) (fun j _ => A _ _ _ (by decide) (fun z => absurd z (by decide))), pk.pg W.pg, fun x l => ?_⟩
    · rw [i1 16394 _ (by decide), lv]
      exact W.rt.1
    · rw [lv']
      exact W.last.up (fun _ _ q => q) (i1 _ _ (by decide)) (fun j => A _ _ _ (by decide) (fun z => absurd z (by decide))) (fun j => B _ _ _ (by decide) (fun z => absurd z (by decide)))
    · rw [lv']
      exact W.opn.up (fun _ _ q => q) (i1 _ _ (by decide)) (fun j => A _ _ _ (by decide) (fun z => absurd z (by decide))) (fun j => B _ _ _ (by decide) (fun z => absurd z (by decide)))
    · rw [lv']
      exact ra
    · rw [A 115 _ _ (by decide) (fun z => absurd z (by decide)), lv, show cSy t (gA s 115 0 i) = cSy s (gA s 115 0 i) from i1 _ _ (by decide)]
      exact W.rt.2.2.2.2.2.1 i a b
    · rw [i1 12938 _ (by decide)] at b
      rw [A 105 _ _ (by decide) (fun z => absurd z (by decide)), B 106 _ _ (by decide) (fun z => absurd z (by decide)), lv, show cSy t (gB s 106 0 i).toInt32 = cSy s (gB s 106 0 i).toInt32 from i1 _ _ (by decide)]
      exact W.rt.2.2.2.2.2.2 i a b
    · obtain ⟨c1, c2, c3, c4, c5, c6⟩ := W.sf
      have pfE : ∀ c, pF t c ↔ pF s c := fun c => by
        unfold pF
        rw [If 19583 c (by decide) (.inr rfl)]
      have ppE : ∀ c, pP t c ↔ pP s c := fun c => by
        unfold pP
        rw [i1 18559 c (by decide)]
      have pcE : ∀ c, pC t c ↔ pC s c := fun c => by
        unfold pC
        rw [i1 19071 c (by decide)]
      refine ⟨fun c a b => ?_, ?_, ?_, ?_, ?_, fun f p => ?_⟩
      · have w := c1 c a b
        unfold cFlg cNfl at w ⊢
        simp only [i1 19071 _ (by decide), i1 19199 _ (by decide), i1 19327 _ (by decide), i1 19455 _ (by decide), i1 18947 _ (by decide), If 19583 _ (by decide) (.inr rfl)]
        exact w
      · rw [i1 16395 _ (by decide), pcE]
        exact c2
      · rw [i1 16516 _ (by decide), pcE]
        exact c3
      · rw [i1 16517 _ (by decide), pfE]
        exact c4
      · rw [i1 16518 _ (by decide), ppE]
        exact c5
      · rw [ppE]
        by_cases z : f = mCur s * 200 + oD s (mCur s)
        · rw [z]
          exact f5
        · rw [If 19458 f (by decide) (.inl z)]
          exact c6 f ((pfE f).1 p)
    · rw [elk]
      unfold nPr
      rw [i1 12937 _ (by decide)]
      exact W.kl x ((lv _ _).1 l)
  have Ft : qFr false t := by
    intro d a
    have as : cAv s d := ⟨⟨a.1.1, (i1 19071 d (by decide)).symm.trans a.1.2⟩, by rw [← show oSl t d = oSl s d from i1 _ _ (by decide)]; exact a.2⟩
    obtain ⟨q, fr⟩ := F d as
    have dd := W.dd d as
    by_cases dc : d = mCur s
    · subst dc
      have pos : 1 ≤ (oD t (mCur s)).toInt := by omega
      refine ⟨?_, fun j j0 j1 => ?_⟩
      · unfold qTc at q ⊢
        rw [i1 18951 _ (by decide), i1 18952 _ (by decide), cur]
        refine ⟨q.1, q.2.1, fun z => ?_, fun z => ?_, fun z => ?_, fun y m => ?_⟩
        · rw [h1] at z
          exact absurd z (by decide)
        · have := (q.2.2.2.1 z).1
          rw [h1] at this
          exact absurd this (by decide)
        · rw [z] at pos
          exact absurd pos (by decide)
        · rw [show cPl t y = cPl s y from i1 _ _ (by decide)]
          have := q.2.2.2.2.2 y ((eop _ _).1 m)
          omega
      · have j0' := j0
        have j1' := j1
        rw [i32_le] at j0'
        rw [i32_lt, tDi] at j1'
        by_cases z : j = oD s (mCur s)
        · subst z
          have en : fEnd t (mCur s) (oD s (mCur s)) = (oU t (mCur s)).toInt := by
            unfold fEnd
            rw [if_neg (by omega)]
          unfold qF
          rw [f1, en]
          refine ⟨f2, ⟨?_, fun y => ?_⟩, fun k0 => ?_, fun k0 => ?_⟩
          · unfold fBs
            rw [f3]
            omega
          · unfold fBs
            rw [f3, q.2.2.2.2.1 y]
            rfl
          · unfold fBs
            rw [f3, (fk k0).1]
          · obtain ⟨g1, g2, g3, g4⟩ := f0 k0
            refine ⟨⟨(lv _ _).2 g1, (elk _).trans g2⟩, g3, ?_, fun y => ?_⟩
            · unfold fBs pNr
              rw [f3, i1 18434 _ (by decide)]
              exact g4
            · rcases y with y | y | y
              · omega
              · exact absurd cur.symm y
              · exact absurd y (by decide)
        · have ne' : j.toInt ≠ (oD s (mCur s)).toInt := fun y => z (toInt_inj y)
          have w := fr j j0 (by rw [i32_lt]; omega)
          have ne := nF (mCur s) j ac j0 (by rw [i32_lt]; omega) (.inr z)
          have g : ∀ f, f / 128 = 152 → gI t f (mCur s * 200 + j) = gI s f (mCur s * 200 + j) := fun f hf => If f _ hf (.inl ne)
          have ej : (j + 1).toInt = j.toInt + 1 := by rw [ktI_add] <;> omega
          have en : fEnd t (mCur s) j = fEnd s (mCur s) j := by
            unfold fEnd
            rw [if_pos (by omega)]
            by_cases y : j.toInt + 1 < (oD s (mCur s)).toInt
            · rw [if_pos y]
              have ne2 : j + 1 ≠ oD s (mCur s) := fun q => by
                rw [← q] at y
                omega
              have n2 := nF (mCur s) (j + 1) ac (by rw [i32_le]; omega) (by rw [i32_lt]; omega) (.inr ne2)
              unfold fBs
              rw [If 19459 _ (by decide) (.inl n2)]
            · rw [if_neg y]
              have : j + 1 = oD s (mCur s) := toInt_inj (by omega)
              rw [this]
              unfold fBs
              rw [f3]
          have wt : qWt t (mCur s * 200 + j) ↔ qWt s (mCur s * 200 + j) := pk.wt (g _ (by decide)) (g _ (by decide)) (g _ (by decide))
          unfold qF at w ⊢
          rw [show fWh t (mCur s * 200 + j) = fWh s (mCur s * 200 + j) from g _ (by decide), show fPr t (mCur s * 200 + j) = fPr s (mCur s * 200 + j) from g _ (by decide), show mFn t (mCur s * 200 + j) = mFn s (mCur s * 200 + j) from g _ (by decide), en, wt, lv, elk]
          unfold fBs fEx pNr at w ⊢
          rw [g 19459 (by decide), g 19460 (by decide), i1 18434 _ (by decide)]
          exact ⟨w.1, w.2.1, w.2.2.1, fun z => ⟨(w.2.2.2 z).1, (w.2.2.2 z).2.1, (w.2.2.2 z).2.2.1, fun _ => (w.2.2.2 z).2.2.2 (.inr (.inr rfl))⟩⟩
    · have eD : oD t d = oD s d := Ic _ _ (.inl rfl) dc
      have eU : oU t d = oU s d := Ic _ _ (.inr rfl) dc
      refine ⟨?_, fun j j0 j1 => ?_⟩
      · unfold qTc at q ⊢
        rw [i1 18951 _ (by decide), i1 18952 _ (by decide), eD, eU, cur]
        refine ⟨q.1, q.2.1, fun z y0 => ⟨(q.2.2.1 z y0).1, ?_⟩, q.2.2.2.1, q.2.2.2.2.1, fun y m => ?_⟩
        · have w := q.2.2.1 z y0
          have em : (oD s d - 1).toInt = (oD s d).toInt - 1 := by rw [ktI_sub] <;> omega
          rw [show fWh t (d * 200 + (oD s d - 1)) = fWh s (d * 200 + (oD s d - 1)) from If _ _ (by decide) (.inl (nF d _ as (by rw [i32_le]; omega) (by rw [i32_lt]; omega) (.inl dc)))]
          exact w.2
        · rw [show cPl t y = cPl s y from i1 _ _ (by decide)]
          exact q.2.2.2.2.2 y ((eop _ _).1 m)
      · rw [eD] at j1
        have j0' := j0
        have j1' := j1
        rw [i32_le] at j0'
        rw [i32_lt] at j1'
        have w := fr j j0 j1
        have ne := nF d j as j0 (by rw [i32_lt]; omega) (.inl dc)
        have g : ∀ f, f / 128 = 152 → gI t f (d * 200 + j) = gI s f (d * 200 + j) := fun f hf => If f _ hf (.inl ne)
        have ej : (j + 1).toInt = j.toInt + 1 := by rw [ktI_add] <;> omega
        have en : fEnd t d j = fEnd s d j := by
          unfold fEnd
          rw [eD, eU]
          by_cases y : j.toInt + 1 < (oD s d).toInt
          · rw [if_pos y, if_pos y]
            unfold fBs
            rw [If 19459 _ (by decide) (.inl (nF d (j + 1) as (by rw [i32_le]; omega) (by rw [i32_lt]; omega) (.inl dc)))]
          · rw [if_neg y, if_neg y]
        have wt : qWt t (d * 200 + j) ↔ qWt s (d * 200 + j) := pk.wt (g _ (by decide)) (g _ (by decide)) (g _ (by decide))
        unfold qF at w ⊢
        rw [show fWh t (d * 200 + j) = fWh s (d * 200 + j) from g _ (by decide), show fPr t (d * 200 + j) = fPr s (d * 200 + j) from g _ (by decide), show mFn t (d * 200 + j) = mFn s (d * 200 + j) from g _ (by decide), en, wt, lv, elk]
        unfold fBs fEx pNr at w ⊢
        rw [g 19459 (by decide), g 19460 (by decide), i1 18434 _ (by decide)]
        exact ⟨w.1, w.2.1, w.2.2.1, fun z => ⟨(w.2.2.2 z).1, (w.2.2.2 z).2.1, (w.2.2.2 z).2.2.1, fun _ => (w.2.2.2 z).2.2.2 (.inr (.inr rfl))⟩⟩
  refine ⟨Wt, Ft, fun k0 => Ft.tight Wt (fun _ z => ?_), cur, lv', etF⟩
  rw [etF, f1] at z
  exact absurd z k0
