/-! The class: a coroutine's own writes keep the heap. -/
def hpI (f : Nat) : Prop := f = 14209 ∨ f = 14211 ∨ f = 15367 ∨ f = 18435 ∨ f = 18559 ∨ (145 ≤ f / 128 ∧ f / 128 ≤ 147 ∧ f ≠ 18575 ∧ f ≠ 18562) ∨ f = 19071 ∨ f = 18948 ∨ f = 18949 ∨ f = 18950 ∨ f = 18954 ∨ f = 19457 ∨ f = 19462
def hpL (f : Nat) : Prop := f = 18568 ∨ f = 18953 ∨ f = 19463
def hpA (a : Nat) : Prop := a = 113 ∨ a = 114 ∨ a = 117 ∨ a = 121 ∨ a = 123 ∨ a = 125 ∨ a = 126 ∨ a = 127 ∨ a = 147 ∨ a = 149
def hpB (a : Nat) : Prop := a = 122 ∨ a = 124 ∨ a = 150
def nfr (c j : Int32) : Prop := 0 ≤ c → c < 32 → ∀ i, 0 ≤ i → i < 200 → j ≠ c * 200 + i
/-- only what belongs to coroutine c has changed in the heap -/
def cCw (c : Int32) (s t : S1) : Prop :=
  (∀ f j, hpI f → (f = 18948 ∨ f = 18949 → j ≠ c) → (f = 19457 ∨ f = 19462 → nfr c j) → gI t f j = gI s f j) ∧
  (∀ f j, hpL f → (f = 18953 → j ≠ c) → (f = 19463 → nfr c j) → gL t f j = gL s f j) ∧
  (∀ a j k, hpA a → (a = 149 → j ≠ c) → gA t a j k = gA s a j k) ∧ ∀ a j k, hpB a → (a = 150 → j ≠ c) → gB t a j k = gB s a j k
theorem cCw.i {c : Int32} {s t : S1} (h : cCw c s t) (f : Nat) (hf : hpI f ∧ f ≠ 18948 ∧ f ≠ 18949 ∧ f ≠ 19457 ∧ f ≠ 19462) (j : Int32) : gI t f j = gI s f j :=
  h.1 f j hf.1 (fun z => z.elim (fun z => absurd z hf.2.1) (fun z => absurd z hf.2.2.1)) (fun z => z.elim (fun z => absurd z hf.2.2.2.1) (fun z => absurd z hf.2.2.2.2))
theorem cCw.a {c : Int32} {s t : S1} (h : cCw c s t) (a : Nat) (ha : hpA a ∧ a ≠ 149) (j k : Int32) : gA t a j k = gA s a j k := h.2.2.1 a j k ha.1 (fun z => absurd z ha.2)
theorem cCw.b {c : Int32} {s t : S1} (h : cCw c s t) (a : Nat) (ha : hpB a ∧ a ≠ 150) (j k : Int32) : gB t a j k = gB s a j k := h.2.2.2 a j k ha.1 (fun z => absurd z ha.2)
theorem cCw.refl (c : Int32) (s : S1) : cCw c s s := ⟨fun _ _ _ _ _ => rfl, fun _ _ _ _ _ => rfl, fun _ _ _ _ _ => rfl, fun _ _ _ _ _ => rfl⟩
theorem cCw.trans {c : Int32} {s t u : S1} (a : cCw c s t) (b : cCw c t u) : cCw c s u := ⟨fun f j p q r => (b.1 f j p q r).trans (a.1 f j p q r), fun f j p q r => (b.2.1 f j p q r).trans (a.2.1 f j p q r), fun f j k p q => (b.2.2.1 f j k p q).trans (a.2.2.1 f j k p q), fun f j k p q => (b.2.2.2 f j k p q).trans (a.2.2.2 f j k p q)⟩
theorem cCw.lv {c : Int32} {s t : S1} (h : cCw c s t) {y u : Int32} : cLv false t y u ↔ cLv false s y u := by
  rw [cLv_f, cLv_f, show cN t = cN s from h.i _ (by unfold hpI; decide) _, show cTy t y = cTy s y from h.i _ (by unfold hpI; decide) _]
theorem cCw.lv' {c : Int32} {s t : S1} (h : cCw c s t) : cLv false t = cLv false s := by
  funext y u
  exact propext h.lv
theorem nfr_ne {c d j : Int32} (hd : 0 ≤ d ∧ d < 32) (ne : d ≠ c) (j0 : 0 ≤ j) (j1 : j < 200) : nfr c (d * 200 + j) := fun a b i i0 i1 => fm_ne hd ⟨a, b⟩ ⟨j0, j1⟩ ⟨i0, i1⟩ ne
theorem cHI.cow {c : Int32} {s t : S1} (H : cHI s) (h : cCw c s t) (co : pC s c → 0 ≤ oSl s c → cCo (cLv false s) t c) (ov : ∀ y, pC s c → 0 ≤ oSl s c → cOp s c y → cV (cLv false s) (oRk t c (cPl s y)) (oRv t c (cPl s y))) : cHI t := by
  obtain ⟨h1, h2, h3, h4, h5, h6⟩ := H
  have I : ∀ f j, hpI f ∧ f ≠ 18948 ∧ f ≠ 18949 ∧ f ≠ 19457 ∧ f ≠ 19462 → gI t f j = gI s f j := fun f j q => h.i f q j
  have en : cN t = cN s := I _ _ (by unfold hpI; decide)
  have ety : ∀ y, cTy t y = cTy s y := fun y => I _ _ (by unfold hpI; decide)
  have elk : ∀ y, cLk t y = cLk s y := fun y => I _ _ (by unfold hpI; decide)
  have epl : ∀ y, cPl t y = cPl s y := fun y => I _ _ (by unfold hpI; decide)
  have epc : ∀ d, pC t d ↔ pC s d := fun d => by
    unfold pC
    rw [I 19071 d (by unfold hpI; decide)]
  have esl : ∀ d, oSl t d = oSl s d := fun d => I _ _ (by unfold hpI; decide)
  have eop : ∀ d y, cOp t d y ↔ cOp s d y := fun d y => by
    unfold cOp
    rw [h.lv, elk]
  have tl : ∀ j, cTl t j = cTl s j := fun j => h.a _ (by unfold hpA; decide) _ _
  have eco : ∀ d, pC s d → d ≠ c → cCo (cLv false s) s d → cCo (cLv false s) t d := fun d p ne w => by
    obtain ⟨w1, ⟨w2, w3⟩, ⟨w4, w5⟩, w6⟩ := w
    have eU : oU t d = oU s d := h.1 _ _ (by unfold hpI; decide) (fun _ => ne) (fun z => absurd z (by decide))
    have eD : oD t d = oD s d := h.1 _ _ (by unfold hpI; decide) (fun _ => ne) (fun z => absurd z (by decide))
    refine ⟨?_, ⟨by rw [eU]; exact w2, fun i a b => ?_⟩, ⟨by rw [eD]; exact w4, fun j a b => ?_⟩, fun y l k => ?_⟩
    · rw [show oFn t d = oFn s d from h.2.1 _ _ (by unfold hpL; decide) (fun _ => ne) (fun z => absurd z (by decide))]
      exact w1
    · rw [eU] at b
      rw [show oRk t d i = oRk s d i from h.2.2.1 _ _ _ (by unfold hpA; decide) (fun _ => ne), show oRv t d i = oRv s d i from h.2.2.2 _ _ _ (by unfold hpB; decide) (fun _ => ne)]
      exact w3 i a b
    · rw [eD] at b
      have l2 : j < 200 := by
        have := w4.2
        rw [i32_le] at this
        rw [i32_lt] at b ⊢
        omega
      have n := nfr_ne p.1 ne a l2
      rw [show mFn t (d * 200 + j) = mFn s (d * 200 + j) from h.1 _ _ (by unfold hpI; decide) (fun z => absurd z (by decide)) (fun _ => n), show mJk t (d * 200 + j) = mJk s (d * 200 + j) from h.1 _ _ (by unfold hpI; decide) (fun z => absurd z (by decide)) (fun _ => n), show mJv t (d * 200 + j) = mJv s (d * 200 + j) from h.2.1 _ _ (by unfold hpL; decide) (fun z => absurd z (by decide)) (fun _ => n)]
      exact w5 j a b
    · exact h.lv.1 l
  have ecn : ∀ d, cCn s d → cCn t d := fun d w => by
    refine ⟨w.1.congr (eop d) (fun y _ => ?_) (fun y _ => ?_) ?_, fun y m => ?_⟩
    · rw [epl]
    · exact I _ _ (by unfold hpI; decide)
    · exact I _ _ (by unfold hpI; decide)
    · rw [epl]
      exact w.2 y ((eop d y).1 m)
  refine ⟨⟨by rw [en]; exact h1.1, fun x a b => ?_⟩, fun x a b => ?_, ?_, ⟨?_, fun i a b => ?_, fun i j a b c => ?_⟩, ⟨fun d p l => ?_, fun y a b => ?_, ?_⟩, ?_⟩
  · rw [en] at b
    have w := h1.2 x a b
    exact ⟨w.1, (I 18687 _ (by unfold hpI; decide)).trans w.2⟩
  · rw [en] at b
    obtain ⟨g1, g2, g3, g4, g5, g6⟩ := h2 x a b
    refine ⟨by rw [ety]; exact g1, ?_, ?_, ?_, ?_, ?_⟩
    · rw [h.lv']
      by_cases z : cTy s x = 0
      · exact cPv.of0 ((ety x).trans z)
      · rcases six g1 z with q | q | q | q | q | q
        · refine cPv.of4 ((ety x).trans q) ?_
          rw [show cBf t x = cBf s x from I _ _ (by unfold hpI; decide)]
          exact g2.1 q
        · refine cPv.of5 ((ety x).trans q) ?_
          have w := g2.2.1 q
          rw [show cMt t x = cMt s x from I _ _ (by unfold hpI; decide), show cE t x = cE s x from I _ _ (by unfold hpI; decide), show cS0 t x = cS0 s x from I _ _ (by unfold hpI; decide)]
          refine ⟨w.1, fun i i0 i1 => ?_⟩
          rw [show cKk t (cS0 s x + i) = cKk s (cS0 s x + i) from h.a _ (by unfold hpA; decide) _ _, show cVk t (cS0 s x + i) = cVk s (cS0 s x + i) from h.a _ (by unfold hpA; decide) _ _, show cKv t (cS0 s x + i) = cKv s (cS0 s x + i) from h.b _ (by unfold hpB; decide) _ _, show cVv t (cS0 s x + i) = cVv s (cS0 s x + i) from h.b _ (by unfold hpB; decide) _ _]
          exact w.2 i i0 i1
        · refine cPv.of6 ((ety x).trans q) ?_
          have w := g2.2.2.1 q
          unfold pP at w ⊢
          rw [elk, I 18559 _ (by unfold hpI; decide), show cUf t x = cUf s x from I _ _ (by unfold hpI; decide), show cUc t (cLk s x) = cUc s (cLk s x) from I _ _ (by unfold hpI; decide), show cUl t x = cUl s x from I _ _ (by unfold hpI; decide)]
          refine ⟨w.1, w.2.1, w.2.2.1, fun i i0 i1 => ?_⟩
          rw [show cUp t x i = cUp s x i from h.a _ (by unfold hpA; decide) _ _]
          exact w.2.2.2 i i0 i1
        · refine cPv.of7 ((ety x).trans q) ?_
          have w := g2.2.2.2.1 q
          rw [elk, esl]
          refine ⟨(epc _).2 w.1, w.2.1, ?_⟩
          by_cases e : cLk s x = c
          · rw [e]
            rw [e] at w
            refine co w.1 ?_
            rw [w.2.1]
            exact a
          · exact eco _ w.1 e w.2.2
        · refine cPv.of8 ((ety x).trans q) ?_
          have w := g2.2.2.2.2.1 q
          rw [elk, epl]
          rcases w with w | w
          · left
            refine ⟨w.1, ?_⟩
            rw [show cCk t x = cCk s x from I _ _ (by unfold hpI; decide), show cCv t x = cCv s x from h.2.1 _ _ (by unfold hpL; decide) (fun z => absurd z (by decide)) (fun z => absurd z (by decide))]
            exact w.2
          · right
            refine ⟨(epc _).2 w.1, w.2.1, ?_⟩
            have l8 : cLv false s x 8 := ⟨⟨a, b⟩, q, fun z => absurd z (by decide)⟩
            by_cases e : cLk s x = c
            · have z := h5.2.1 x l8 w.1.1.1
              rw [e] at z ⊢
              exact ov x z.1 z.2 ⟨l8, e⟩
            · rw [show oRk t (cLk s x) (cPl s x) = oRk s (cLk s x) (cPl s x) from h.2.2.1 _ _ _ (by unfold hpA; decide) (fun _ => e), show oRv t (cLk s x) (cPl s x) = oRv s (cLk s x) (cPl s x) from h.2.2.2 _ _ _ (by unfold hpB; decide) (fun _ => e)]
              exact w.2.2
        · refine cPv.of9 ((ety x).trans q) ?_
          rw [elk]
          exact g2.2.2.2.2.2 q
    · unfold cTs at g3 ⊢
      rw [ety, show cS0 t x = cS0 s x from I _ _ (by unfold hpI; decide), show cR t x = cR s x from I _ _ (by unfold hpI; decide), show cE t x = cE s x from I _ _ (by unfold hpI; decide), show cTop t = cTop s from I _ _ (by unfold hpI; decide)]
      refine fun k => ⟨(g3 k).1, fun i i0 i1 => ?_, fun i i0 i1 => ?_⟩
      · rw [show cHd t (cS0 s x + i) = cHd s (cS0 s x + i) from h.a _ (by unfold hpA; decide) _ _]
        exact (g3 k).2.1 i i0 i1
      · rw [show cCh t (cS0 s x + i) = cCh s (cS0 s x + i) from h.a _ (by unfold hpA; decide) _ _]
        exact (g3 k).2.2 i i0 i1
    · rw [show cSy t x = cSy s x from I _ _ (by unfold hpI; decide)]
      exact g4
    · rw [show cSy t x = cSy s x from I _ _ (by unfold hpI; decide), ety]
      exact g5
    · rw [show cNu t x = cNu s x from I _ _ (by unfold hpI; decide), ety, tl]
      exact g6
  · exact h3.congr (fun y => h.lv) (fun y _ => epl y) (fun y _ => I _ _ (by unfold hpI; decide)) (fun y _ => I _ _ (by unfold hpI; decide)) (fun b => h.a _ (by unfold hpA; decide) _ _)
  · rw [show cFc t = cFc s from I _ _ (by unfold hpI; decide), en, tl]
    exact h4.1
  · rw [show cFc t = cFc s from I _ _ (by unfold hpI; decide)] at b
    rw [show cFr t i = cFr s i from h.a _ (by unfold hpA; decide) _ _, en, ety]
    exact h4.2.1 i a b
  · rw [show cFc t = cFc s from I _ _ (by unfold hpI; decide)] at c
    rw [show cFr t i = cFr s i from h.a _ (by unfold hpA; decide) _ _, show cFr t j = cFr s j from h.a _ (by unfold hpA; decide) _ _]
    exact h4.2.2 i j a b c
  · rw [esl] at l ⊢
    have w := h5.1 d ((epc d).1 p) l
    exact ⟨h.lv.2 w.1, (elk _).trans w.2.1, ecn d w.2.2⟩
  · rw [elk] at b ⊢
    have w := h5.2.1 y (h.lv.1 a) b
    exact ⟨(epc _).2 w.1, by rw [esl]; exact w.2⟩
  · rw [tl, h5.2.2]
    unfold cCm
    simp only [esl, I 19071 _ (by unfold hpI; decide)]
  · exact h6.congr (I _ _ (by unfold hpI; decide)) (fun p => h.a _ (by unfold hpA; decide) _ _) (fun y => I _ _ (by unfold hpI; decide)) (fun y => I _ _ (by unfold hpI; decide)) (fun y => h.lv) (tl 6)
/-- nothing of the heap has changed -/
theorem cHI.sm {s t : S1} (H : cHI s) (h : cCw (-1) s t) : cHI t := H.cow h (fun p => absurd p.1.1 (by decide)) (fun _ p => absurd p.1.1 (by decide))
