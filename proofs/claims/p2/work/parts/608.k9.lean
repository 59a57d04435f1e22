/-! The class: behind the sweep; the whole collection. -/
/-- what a collection may change -/
def cGc (s s' : S1) : Prop := (∀ f j, f ≠ 18560 ∧ f ≠ 14211 ∧ f ≠ 18565 ∧ f ≠ 18564 ∧ f ≠ 18567 ∧ f ≠ 18950 ∧ f ≠ 18954 ∧ f ≠ 18562 ∧ f ≠ 14219 → gI s' f j = gI s f j) ∧ (∀ f j, f ≠ 18568 → gL s' f j = gL s f j) ∧ (∀ a j k, a ≠ 113 ∧ a ≠ 114 ∧ a ≠ 117 ∧ a ≠ 127 ∧ a ≠ 119 → gA s' a j k = gA s a j k) ∧ (∀ a j k, gB s' a j k = gB s a j k) ∧ (∀ j, j ≠ 3 ∧ j ≠ 6 ∧ j ≠ 11 ∧ j ≠ 5 → cTl s' j = cTl s j) ∧ (∀ x, cTy s' x = cTy s x ∨ cTy s' x = 0) ∧ (∀ x, cTy s x ≠ 8 → cLk s' x = cLk s x) ∧ (∀ c, oSl s' c = oSl s c ∨ oSl s' c = -1) ∧ (∀ c, pC s c → 0 ≤ oSl s' c → oNo s' c = oNo s c ∧ ∀ y, cOp s c y → cOp s' c y ∧ cNx s' y = cNx s y) ∧ ∀ y, (cLk s' y = cLk s y ∧ cCk s' y = cCk s y ∧ cCv s' y = cCv s y) ∨ (cLk s' y = -1 ∧ 0 ≤ cLk s y ∧ cCk s' y = oRk s (cLk s y) (cPl s y) ∧ cCv s' y = oRv s (cLk s y) (cPl s y))
/-- marking and counting leave all else -/
def cBz (s s' : S1) : Prop := (∀ f i, f ≠ 18562 ∧ f ≠ 14219 → gI s' f i = gI s f i) ∧ (∀ f i, gL s' f i = gL s f i) ∧ (∀ a i j, a ≠ 119 ∧ a ≠ 114 → gA s' a i j = gA s a i j) ∧ (∀ b i j, gB s' b i j = gB s b i j) ∧ ∀ j, j ≠ 5 → cTl s' j = cTl s j
theorem cBz.I {s s' : S1} (h : cBz s s') (f : Nat) (hf : f ≠ 18562 ∧ f ≠ 14219) (i : Int32) : gI s' f i = gI s f i := h.1 f i hf
theorem cBz.L {s s' : S1} (h : cBz s s') (f : Nat) (i : Int32) : gL s' f i = gL s f i := h.2.1 f i
theorem cBz.A {s s' : S1} (h : cBz s s') (a : Nat) (ha : a ≠ 119 ∧ a ≠ 114) (i j : Int32) : gA s' a i j = gA s a i j := h.2.2.1 a i j ha
theorem cBz.B {s s' : S1} (h : cBz s s') (b : Nat) (i j : Int32) : gB s' b i j = gB s b i j := h.2.2.2.1 b i j
theorem cBz.trans {s t u : S1} (a : cBz s t) (b : cBz t u) : cBz s u := ⟨fun f i h => (b.1 f i h).trans (a.1 f i h), fun f i => (b.2.1 f i).trans (a.2.1 f i), fun f i j h => (b.2.2.1 f i j h).trans (a.2.2.1 f i j h), fun f i j => (b.2.2.2.1 f i j).trans (a.2.2.2.1 f i j), fun j h => (b.2.2.2.2 j h).trans (a.2.2.2.2 j h)⟩
theorem cMk.bz {s s' : S1} (h : cMk s s') : cBz s s' := ⟨h.1, h.2.1, fun a i j q => h.2.2.1 a i j q.1, h.2.2.2.1, fun j _ => h.2.2.1 _ _ _ (by decide)⟩
theorem cLv.bz {s s' : S1} (hk : cBz s s') {x t : Int32} : cLv false s' x t ↔ cLv false s x t := by
  rw [cLv_f, cLv_f]
  simp only [hk.I 14209 (by decide), hk.I 18560 (by decide), hk.I 18564 (by decide), hk.I 18565 (by decide), hk.I 18566 (by decide), hk.I 18567 (by decide), hk.I 18571 (by decide), hk.I 18572 (by decide), hk.I 18573 (by decide), hk.I 18574 (by decide), hk.I 18815 (by decide), hk.I 18814 (by decide), hk.I 18943 (by decide), hk.I 18942 (by decide), hk.I 18435 (by decide), hk.I 18559 (by decide), hk.I 19071 (by decide), hk.I 18687 (by decide), hk.I 18948 (by decide), hk.I 18949 (by decide), hk.I 18950 (by decide), hk.I 18954 (by decide), hk.I 18955 (by decide), hk.I 19457 (by decide), hk.I 19462 (by decide), hk.I 15367 (by decide), hk.I 18561 (by decide), hk.I 18563 (by decide), hk.L 18568, hk.L 18953, hk.L 19463, hk.A 121 (by decide), hk.A 123 (by decide), hk.A 147 (by decide), hk.A 149 (by decide), hk.A 125 (by decide), hk.A 126 (by decide), hk.A 127 (by decide), hk.B 122, hk.B 124, hk.B 150]
theorem cLv.bz' {s s' : S1} (hk : cBz s s') : cLv false s' = cLv false s := by
  funext x t
  exact propext (cLv.bz hk)
theorem cPv.bz {L : Int32 → Int32 → Prop} {s s' : S1} (hk : cBz s s') {x : Int32} : cPv L s' x ↔ cPv L s x := by
  simp only [cPv, cCo, pP, pC, cLv.bz hk, hk.I 14209 (by decide), hk.I 18560 (by decide), hk.I 18564 (by decide), hk.I 18565 (by decide), hk.I 18566 (by decide), hk.I 18567 (by decide), hk.I 18571 (by decide), hk.I 18572 (by decide), hk.I 18573 (by decide), hk.I 18574 (by decide), hk.I 18815 (by decide), hk.I 18814 (by decide), hk.I 18943 (by decide), hk.I 18942 (by decide), hk.I 18435 (by decide), hk.I 18559 (by decide), hk.I 19071 (by decide), hk.I 18687 (by decide), hk.I 18948 (by decide), hk.I 18949 (by decide), hk.I 18950 (by decide), hk.I 18954 (by decide), hk.I 18955 (by decide), hk.I 19457 (by decide), hk.I 19462 (by decide), hk.I 15367 (by decide), hk.I 18561 (by decide), hk.I 18563 (by decide), hk.L 18568, hk.L 18953, hk.L 19463, hk.A 121 (by decide), hk.A 123 (by decide), hk.A 147 (by decide), hk.A 149 (by decide), hk.A 125 (by decide), hk.A 126 (by decide), hk.A 127 (by decide), hk.B 122, hk.B 124, hk.B 150]
theorem cNr.bz {s s' : S1} (hk : cBz s s') : cNr s' ↔ cNr s := by
  simp only [cNr, pT, hk.I 14209 (by decide), hk.I 18560 (by decide), hk.I 18564 (by decide), hk.I 18565 (by decide), hk.I 18566 (by decide), hk.I 18567 (by decide), hk.I 18571 (by decide), hk.I 18572 (by decide), hk.I 18573 (by decide), hk.I 18574 (by decide), hk.I 18815 (by decide), hk.I 18814 (by decide), hk.I 18943 (by decide), hk.I 18942 (by decide), hk.I 18435 (by decide), hk.I 18559 (by decide), hk.I 19071 (by decide), hk.I 18687 (by decide), hk.I 18948 (by decide), hk.I 18949 (by decide), hk.I 18950 (by decide), hk.I 18954 (by decide), hk.I 18955 (by decide), hk.I 19457 (by decide), hk.I 19462 (by decide), hk.I 15367 (by decide), hk.I 18561 (by decide), hk.I 18563 (by decide), hk.L 18568, hk.L 18953, hk.L 19463, hk.A 121 (by decide), hk.A 123 (by decide), hk.A 147 (by decide), hk.A 149 (by decide), hk.A 125 (by decide), hk.A 126 (by decide), hk.A 127 (by decide), hk.B 122, hk.B 124, hk.B 150]
theorem cCn.bz {s s' : S1} (hk : cBz s s') {c : Int32} : cCn s' c ↔ cCn s c := by
  have e1 : cOp s' c = cOp s c := by
    funext y
    simp only [cOp, cLv.bz hk, hk.I 14209 (by decide), hk.I 18560 (by decide), hk.I 18564 (by decide), hk.I 18565 (by decide), hk.I 18566 (by decide), hk.I 18567 (by decide), hk.I 18571 (by decide), hk.I 18572 (by decide), hk.I 18573 (by decide), hk.I 18574 (by decide), hk.I 18815 (by decide), hk.I 18814 (by decide), hk.I 18943 (by decide), hk.I 18942 (by decide), hk.I 18435 (by decide), hk.I 18559 (by decide), hk.I 19071 (by decide), hk.I 18687 (by decide), hk.I 18948 (by decide), hk.I 18949 (by decide), hk.I 18950 (by decide), hk.I 18954 (by decide), hk.I 18955 (by decide), hk.I 19457 (by decide), hk.I 19462 (by decide), hk.I 15367 (by decide), hk.I 18561 (by decide), hk.I 18563 (by decide), hk.L 18568, hk.L 18953, hk.L 19463, hk.A 121 (by decide), hk.A 123 (by decide), hk.A 147 (by decide), hk.A 149 (by decide), hk.A 125 (by decide), hk.A 126 (by decide), hk.A 127 (by decide), hk.B 122, hk.B 124, hk.B 150]
  have e2 : (fun y => (cPl s' y).toInt) = fun y => (cPl s y).toInt := by
    funext y
    simp only [hk.I 14209 (by decide), hk.I 18560 (by decide), hk.I 18564 (by decide), hk.I 18565 (by decide), hk.I 18566 (by decide), hk.I 18567 (by decide), hk.I 18571 (by decide), hk.I 18572 (by decide), hk.I 18573 (by decide), hk.I 18574 (by decide), hk.I 18815 (by decide), hk.I 18814 (by decide), hk.I 18943 (by decide), hk.I 18942 (by decide), hk.I 18435 (by decide), hk.I 18559 (by decide), hk.I 19071 (by decide), hk.I 18687 (by decide), hk.I 18948 (by decide), hk.I 18949 (by decide), hk.I 18950 (by decide), hk.I 18954 (by decide), hk.I 18955 (by decide), hk.I 19457 (by decide), hk.I 19462 (by decide), hk.I 15367 (by decide), hk.I 18561 (by decide), hk.I 18563 (by decide), hk.L 18568, hk.L 18953, hk.L 19463, hk.A 121 (by decide), hk.A 123 (by decide), hk.A 147 (by decide), hk.A 149 (by decide), hk.A 125 (by decide), hk.A 126 (by decide), hk.A 127 (by decide), hk.B 122, hk.B 124, hk.B 150]
  have e3 : cNx s' = cNx s := by
    funext y
    simp only [hk.I 14209 (by decide), hk.I 18560 (by decide), hk.I 18564 (by decide), hk.I 18565 (by decide), hk.I 18566 (by decide), hk.I 18567 (by decide), hk.I 18571 (by decide), hk.I 18572 (by decide), hk.I 18573 (by decide), hk.I 18574 (by decide), hk.I 18815 (by decide), hk.I 18814 (by decide), hk.I 18943 (by decide), hk.I 18942 (by decide), hk.I 18435 (by decide), hk.I 18559 (by decide), hk.I 19071 (by decide), hk.I 18687 (by decide), hk.I 18948 (by decide), hk.I 18949 (by decide), hk.I 18950 (by decide), hk.I 18954 (by decide), hk.I 18955 (by decide), hk.I 19457 (by decide), hk.I 19462 (by decide), hk.I 15367 (by decide), hk.I 18561 (by decide), hk.I 18563 (by decide), hk.L 18568, hk.L 18953, hk.L 19463, hk.A 121 (by decide), hk.A 123 (by decide), hk.A 147 (by decide), hk.A 149 (by decide), hk.A 125 (by decide), hk.A 126 (by decide), hk.A 127 (by decide), hk.B 122, hk.B 124, hk.B 150]
  unfold cCn
  rw [e1, e2, e3]
  simp only [hk.I 14209 (by decide), hk.I 18560 (by decide), hk.I 18564 (by decide), hk.I 18565 (by decide), hk.I 18566 (by decide), hk.I 18567 (by decide), hk.I 18571 (by decide), hk.I 18572 (by decide), hk.I 18573 (by decide), hk.I 18574 (by decide), hk.I 18815 (by decide), hk.I 18814 (by decide), hk.I 18943 (by decide), hk.I 18942 (by decide), hk.I 18435 (by decide), hk.I 18559 (by decide), hk.I 19071 (by decide), hk.I 18687 (by decide), hk.I 18948 (by decide), hk.I 18949 (by decide), hk.I 18950 (by decide), hk.I 18954 (by decide), hk.I 18955 (by decide), hk.I 19457 (by decide), hk.I 19462 (by decide), hk.I 15367 (by decide), hk.I 18561 (by decide), hk.I 18563 (by decide), hk.L 18568, hk.L 18953, hk.L 19463, hk.A 121 (by decide), hk.A 123 (by decide), hk.A 147 (by decide), hk.A 149 (by decide), hk.A 125 (by decide), hk.A 126 (by decide), hk.A 127 (by decide), hk.B 122, hk.B 124, hk.B 150]
theorem cHI.bz {s s' : S1} (hk : cBz s s') (h : cHI s) : cHI s' := by
  obtain ⟨h1, h2, h3, h4, h5, h6⟩ := h
  have en : cN s' = cN s := hk.I _ (by decide) _
  have ety : ∀ y, cTy s' y = cTy s y := fun y => hk.I _ (by decide) _
  refine ⟨(cNr.bz hk).2 h1, fun x a b => ?_, ?_, ?_, ⟨fun c p l => ?_, fun y a b => ?_, ?_⟩, ?_⟩
  · rw [en] at b
    obtain ⟨g1, g2, g3, g4, g5, g6⟩ := h2 x a b
    refine ⟨by rw [ety]; exact g1, ?_, ?_, ?_, ?_, ?_⟩
    · rw [cPv.bz hk, cLv.bz' hk]
      exact g2
    · unfold cTs at g3 ⊢
      simp only [hk.I 14209 (by decide), hk.I 18560 (by decide), hk.I 18564 (by decide), hk.I 18565 (by decide), hk.I 18566 (by decide), hk.I 18567 (by decide), hk.I 18571 (by decide), hk.I 18572 (by decide), hk.I 18573 (by decide), hk.I 18574 (by decide), hk.I 18815 (by decide), hk.I 18814 (by decide), hk.I 18943 (by decide), hk.I 18942 (by decide), hk.I 18435 (by decide), hk.I 18559 (by decide), hk.I 19071 (by decide), hk.I 18687 (by decide), hk.I 18948 (by decide), hk.I 18949 (by decide), hk.I 18950 (by decide), hk.I 18954 (by decide), hk.I 18955 (by decide), hk.I 19457 (by decide), hk.I 19462 (by decide), hk.I 15367 (by decide), hk.I 18561 (by decide), hk.I 18563 (by decide), hk.L 18568, hk.L 18953, hk.L 19463, hk.A 121 (by decide), hk.A 123 (by decide), hk.A 147 (by decide), hk.A 149 (by decide), hk.A 125 (by decide), hk.A 126 (by decide), hk.A 127 (by decide), hk.B 122, hk.B 124, hk.B 150]
      exact g3
    · simp only [hk.I 14209 (by decide), hk.I 18560 (by decide), hk.I 18564 (by decide), hk.I 18565 (by decide), hk.I 18566 (by decide), hk.I 18567 (by decide), hk.I 18571 (by decide), hk.I 18572 (by decide), hk.I 18573 (by decide), hk.I 18574 (by decide), hk.I 18815 (by decide), hk.I 18814 (by decide), hk.I 18943 (by decide), hk.I 18942 (by decide), hk.I 18435 (by decide), hk.I 18559 (by decide), hk.I 19071 (by decide), hk.I 18687 (by decide), hk.I 18948 (by decide), hk.I 18949 (by decide), hk.I 18950 (by decide), hk.I 18954 (by decide), hk.I 18955 (by decide), hk.I 19457 (by decide), hk.I 19462 (by decide), hk.I 15367 (by decide), hk.I 18561 (by decide), hk.I 18563 (by decide), hk.L 18568, hk.L 18953, hk.L 19463, hk.A 121 (by decide), hk.A 123 (by decide), hk.A 147 (by decide), hk.A 149 (by decide), hk.A 125 (by decide), hk.A 126 (by decide), hk.A 127 (by decide), hk.B 122, hk.B 124, hk.B 150]
      exact g4
    · simp only [hk.I 14209 (by decide), hk.I 18560 (by decide), hk.I 18564 (by decide), hk.I 18565 (by decide), hk.I 18566 (by decide), hk.I 18567 (by decide), hk.I 18571 (by decide), hk.I 18572 (by decide), hk.I 18573 (by decide), hk.I 18574 (by decide), hk.I 18815 (by decide), hk.I 18814 (by decide), hk.I 18943 (by decide), hk.I 18942 (by decide), hk.I 18435 (by decide), hk.I 18559 (by decide), hk.I 19071 (by decide), hk.I 18687 (by decide), hk.I 18948 (by decide), hk.I 18949 (by decide), hk.I 18950 (by decide), hk.I 18954 (by decide), hk.I 18955 (by decide), hk.I 19457 (by decide), hk.I 19462 (by decide), hk.I 15367 (by decide), hk.I 18561 (by decide), hk.I 18563 (by decide), hk.L 18568, hk.L 18953, hk.L 19463, hk.A 121 (by decide), hk.A 123 (by decide), hk.A 147 (by decide), hk.A 149 (by decide), hk.A 125 (by decide), hk.A 126 (by decide), hk.A 127 (by decide), hk.B 122, hk.B 124, hk.B 150]
      exact g5
    · rw [hk.2.2.2.2 4 (by decide)]
      simp only [hk.I 14209 (by decide), hk.I 18560 (by decide), hk.I 18564 (by decide), hk.I 18565 (by decide), hk.I 18566 (by decide), hk.I 18567 (by decide), hk.I 18571 (by decide), hk.I 18572 (by decide), hk.I 18573 (by decide), hk.I 18574 (by decide), hk.I 18815 (by decide), hk.I 18814 (by decide), hk.I 18943 (by decide), hk.I 18942 (by decide), hk.I 18435 (by decide), hk.I 18559 (by decide), hk.I 19071 (by decide), hk.I 18687 (by decide), hk.I 18948 (by decide), hk.I 18949 (by decide), hk.I 18950 (by decide), hk.I 18954 (by decide), hk.I 18955 (by decide), hk.I 19457 (by decide), hk.I 19462 (by decide), hk.I 15367 (by decide), hk.I 18561 (by decide), hk.I 18563 (by decide), hk.L 18568, hk.L 18953, hk.L 19463, hk.A 121 (by decide), hk.A 123 (by decide), hk.A 147 (by decide), hk.A 149 (by decide), hk.A 125 (by decide), hk.A 126 (by decide), hk.A 127 (by decide), hk.B 122, hk.B 124, hk.B 150]
      exact g6
  · exact h3.congr (fun y => cLv.bz hk) (fun y _ => hk.I _ (by decide) _) (fun y _ => hk.I _ (by decide) _) (fun y _ => hk.I _ (by decide) _) (fun b => hk.A _ (by decide) _ _)
  · unfold cFl at h4 ⊢
    rw [hk.2.2.2.2 3 (by decide), en]
    have e1 : cFc s' = cFc s := hk.I _ (by decide) _
    have e2 : ∀ i, cFr s' i = cFr s i := fun i => hk.A _ (by decide) _ _
    simp only [e1, e2, ety]
    exact h4
  · have e1 : oSl s' c = oSl s c := hk.I _ (by decide) _
    rw [e1] at l ⊢
    have w := h5.1 c (by unfold pC at p ⊢; rw [hk.I _ (by decide)] at p; exact p) l
    exact ⟨(cLv.bz hk).2 w.1, (hk.I _ (by decide) _).trans w.2.1, (cCn.bz hk).2 w.2.2⟩
  · have e1 : cLk s' y = cLk s y := hk.I _ (by decide) _
    rw [e1] at b ⊢
    have w := h5.2.1 y ((cLv.bz hk).1 a) b
    unfold pC at w ⊢
    simp only [hk.I 14209 (by decide), hk.I 18560 (by decide), hk.I 18564 (by decide), hk.I 18565 (by decide), hk.I 18566 (by decide), hk.I 18567 (by decide), hk.I 18571 (by decide), hk.I 18572 (by decide), hk.I 18573 (by decide), hk.I 18574 (by decide), hk.I 18815 (by decide), hk.I 18814 (by decide), hk.I 18943 (by decide), hk.I 18942 (by decide), hk.I 18435 (by decide), hk.I 18559 (by decide), hk.I 19071 (by decide), hk.I 18687 (by decide), hk.I 18948 (by decide), hk.I 18949 (by decide), hk.I 18950 (by decide), hk.I 18954 (by decide), hk.I 18955 (by decide), hk.I 19457 (by decide), hk.I 19462 (by decide), hk.I 15367 (by decide), hk.I 18561 (by decide), hk.I 18563 (by decide), hk.L 18568, hk.L 18953, hk.L 19463, hk.A 121 (by decide), hk.A 123 (by decide), hk.A 147 (by decide), hk.A 149 (by decide), hk.A 125 (by decide), hk.A 126 (by decide), hk.A 127 (by decide), hk.B 122, hk.B 124, hk.B 150]
    exact w
  · rw [hk.2.2.2.2 11 (by decide), h5.2.2]
    unfold cCm
    simp only [hk.I 14209 (by decide), hk.I 18560 (by decide), hk.I 18564 (by decide), hk.I 18565 (by decide), hk.I 18566 (by decide), hk.I 18567 (by decide), hk.I 18571 (by decide), hk.I 18572 (by decide), hk.I 18573 (by decide), hk.I 18574 (by decide), hk.I 18815 (by decide), hk.I 18814 (by decide), hk.I 18943 (by decide), hk.I 18942 (by decide), hk.I 18435 (by decide), hk.I 18559 (by decide), hk.I 19071 (by decide), hk.I 18687 (by decide), hk.I 18948 (by decide), hk.I 18949 (by decide), hk.I 18950 (by decide), hk.I 18954 (by decide), hk.I 18955 (by decide), hk.I 19457 (by decide), hk.I 19462 (by decide), hk.I 15367 (by decide), hk.I 18561 (by decide), hk.I 18563 (by decide), hk.L 18568, hk.L 18953, hk.L 19463, hk.A 121 (by decide), hk.A 123 (by decide), hk.A 147 (by decide), hk.A 149 (by decide), hk.A 125 (by decide), hk.A 126 (by decide), hk.A 127 (by decide), hk.B 122, hk.B 124, hk.B 150]
  · exact h6.congr (hk.I _ (by decide) _) (fun p => hk.A _ (by decide) _ _) (fun y => hk.I _ (by decide) _) (fun y => hk.I _ (by decide) _) (fun y => cLv.bz hk) (hk.2.2.2.2 6 (by decide))
/-- what was marked is there behind the sweep -/
theorem cSw.lv {s2 s : S1} (h : cSw s2 (cN s2) s) {x t : Int32} (hl : cLv true s2 x t) : cLv false s x t := by
  have en : cN s = cN s2 := h.I _ _ (by decide)
  rw [cLv_f, en, h.ty, if_neg (fun w => hl.2.2 rfl w.2)]
  exact ⟨hl.1, hl.2.1⟩
theorem six {t : Int32} (h : t = 0 ∨ 4 ≤ t ∧ t ≤ 9) (z : t ≠ 0) : t = 4 ∨ t = 5 ∨ t = 6 ∨ t = 7 ∨ t = 8 ∨ t = 9 := by
  have h' := h.resolve_left z
  rw [i32_le, i32_le] at h'
  have e4 : (4 : Int32).toInt = 4 := rfl
  have e9 : (9 : Int32).toInt = 9 := rfl
  have k : t.toInt = 4 ∨ t.toInt = 5 ∨ t.toInt = 6 ∨ t.toInt = 7 ∨ t.toInt = 8 ∨ t.toInt = 9 := by omega
  rcases k with k | k | k | k | k | k
  · exact .inl (toInt_inj k)
  · exact .inr (.inl (toInt_inj k))
  · exact .inr (.inr (.inl (toInt_inj k)))
  · exact .inr (.inr (.inr (.inl (toInt_inj k))))
  · exact .inr (.inr (.inr (.inr (.inl (toInt_inj k)))))
  · exact .inr (.inr (.inr (.inr (.inr (toInt_inj k)))))
theorem cSw.hi {s2 s : S1} (H : cHI s2) (Hm : ∀ y, 0 ≤ y → y < cN s2 → cRe s2 y ≠ 0 → cPv (cLv true s2) s2 y) (Hy : ∀ y, 0 ≤ y → y < cN s2 → cSy s2 y ≠ 0 → cRe s2 y ≠ 0) (h : cSw s2 (cN s2) s) : cHI s := by
  have en : cN s = cN s2 := h.I _ _ (by decide)
  have hn : cNr s := by
    unfold cNr pT
    rw [en]
    simp only [h.I 18687 _ (by decide)]
    exact H.1
  have tz : ∀ x, 0 ≤ x → x < cN s2 → cTy s x ≠ 0 → cRe s2 x ≠ 0 ∧ cTy s x = cTy s2 x := fun x a b c => by
    rw [h.ty] at c ⊢
    by_cases q : (0 ≤ x ∧ x < cN s2) ∧ cRe s2 x = 0
    · rw [if_pos q] at c
      exact absurd rfl c
    · rw [if_neg q]
      exact ⟨fun w => q ⟨⟨a, b⟩, w⟩, rfl⟩
  have pcs : ∀ c, pC s c ↔ pC s2 c := fun c => by
    unfold pC
    rw [h.I _ _ (by decide)]
  refine ⟨hn, fun x a b => ?_, h.bs, h.fl, ⟨fun c p l => ?_, fun y ly l => ?_, h.cm⟩, h.po⟩
  · rw [en] at b
    obtain ⟨g1, g2, g3, g4, g5, g6⟩ := H.2.1 x a b
    by_cases z : cTy s x = 0
    · have sy : cSy s x = cSy s2 x := h.I _ _ (by decide)
      refine ⟨.inl z, cPv.of0 z, fun w => absurd (z.symm.trans w) (by decide), by rw [sy]; exact g4, fun w => ?_, fun w => absurd z w⟩
      rw [sy] at w
      rw [h.ty, if_neg (fun v => Hy x a b w v.2)]
      exact g5 w
    · obtain ⟨mk, et⟩ := tz x a b z
      have pv := (Hm x a b mk).mono (fun y t => h.lv (x := y) (t := t))
      refine ⟨by rw [et]; exact g1, ?_, ?_, ?_, ?_, ?_⟩
      · have lk : cTy s2 x ≠ 8 → cLk s x = cLk s2 x := fun n8 => by
          rcases h.vr x with w | w
          · exact w.1
          · exact absurd w.2.1 n8
        rcases six g1 (by rw [← et]; exact z) with k | k | k | k | k | k
        · refine cPv.of4 (et.trans k) ?_
          rw [show cBf s x = cBf s2 x from h.I _ _ (by decide)]
          exact pv.1 k
        · refine cPv.of5 (et.trans k) ?_
          have w := pv.2.1 k
          simp only [h.I 18571 _ (by decide), h.I 18573 _ (by decide), h.I 18574 _ (by decide), h.A 121 _ _ (by decide), h.A 123 _ _ (by decide), h.B]
          exact w
        · refine cPv.of6 (et.trans k) ?_
          have w := pv.2.2.1 k
          rw [lk (by rw [k]; decide)]
          unfold pP at w ⊢
          simp only [h.I 18559 _ (by decide), h.I 18943 _ (by decide), h.I 18942 _ (by decide), h.I 18435 _ (by decide), h.A 147 _ _ (by decide)]
          exact w
        · refine cPv.of7 (et.trans k) ?_
          obtain ⟨w1, w2, w3, w4, w5, w6⟩ := pv.2.2.2.1 k
          rw [lk (by rw [k]; decide)]
          refine ⟨(pcs _).2 w1, ?_, ?_, ?_, ?_, fun y q _ => q⟩
          · rcases h.sl (cLk s2 x) with v | v
            · rw [v]
              exact w2
            · rw [w2] at v
              exact absurd v.2.1 mk
          · rw [show oFn s (cLk s2 x) = oFn s2 (cLk s2 x) from h.L _ _ (by decide)]
            exact w3
          · simp only [h.I 18949 _ (by decide), h.A 149 _ _ (by decide), h.B]
            exact w4
          · simp only [h.I 18948 _ (by decide), h.I 19457 _ (by decide), h.I 19462 _ (by decide), h.L 19463 _ (by decide)]
            exact w5
        · refine cPv.of8 (et.trans k) ?_
          rcases h.vr x with ⟨v1, v2, v3⟩ | ⟨v1, v2, v3, v4, v5⟩
          · rw [v1, v2, v3, show cPl s x = cPl s2 x from h.I _ _ (by decide), show oRk s (cLk s2 x) (cPl s2 x) = oRk s2 (cLk s2 x) (cPl s2 x) from h.A _ _ _ (by decide), show oRv s (cLk s2 x) (cPl s2 x) = oRv s2 (cLk s2 x) (cPl s2 x) from h.B _ _ _, pcs]
            exact pv.2.2.2.2.1 k
          · refine .inl ⟨by rw [v4]; decide, (v5.1 mk).mono (fun y t => h.lv (x := y) (t := t))⟩
        · refine cPv.of9 (et.trans k) ?_
          rw [lk (by rw [k]; decide)]
          exact pv.2.2.2.2.2 k
      · unfold cTs at g3 ⊢
        rw [et]
        simp only [h.I 18571 _ (by decide), h.I 18572 _ (by decide), h.I 18573 _ (by decide), h.I 15367 _ (by decide), h.A 125 _ _ (by decide), h.A 126 _ _ (by decide)]
        exact g3
      · rw [show cSy s x = cSy s2 x from h.I _ _ (by decide)]
        exact g4
      · rw [show cSy s x = cSy s2 x from h.I _ _ (by decide), et]
        exact g5
      · rw [h.tl 4 (by decide), show cNu s x = cNu s2 x from h.I _ _ (by decide), et]
        exact g6
  · have p2 := (pcs c).1 p
    obtain ⟨w1, w2⟩ := h.co c p2 l
    have es : oSl s c = oSl s2 c := by
      rcases h.sl c with v | v
      · exact v
      · rw [v.1] at l
        exact absurd l (by decide)
    rw [es] at w1 l ⊢
    obtain ⟨v1, v2, v3⟩ := H.2.2.2.2.1.1 c p2 l
    have ex : cLk s (oSl s2 c) = cLk s2 (oSl s2 c) := by
      rcases h.vr (oSl s2 c) with w | w
      · exact w.1
      · exact absurd (v1.2.1.symm.trans w.2.1) (by decide)
    have mx := (tz _ v1.1.1 v1.1.2 (by rw [w1]; decide)).1
    have px := (Hm _ v1.1.1 v1.1.2 mx).2.2.2.1 v1.2.1
    have unl : ∀ y, cLk s y = c → cLk s2 y = c := fun y q => by
      rcases h.vr y with ⟨w, -, -⟩ | ⟨-, -, -, w, -⟩
      · rw [← w]
        exact q
      · have := p2.1.1
        rw [← q, w] at this
        exact absurd this (by decide)
    refine ⟨cLv_f.2 ⟨by rw [en]; exact v1.1, w1⟩, by rw [ex]; exact v2, w2.congr (fun y => ?_) (fun y _ => ?_) (fun y q => ?_) rfl, fun y q => ?_⟩
    · unfold cOp
      rw [cLv_f, en]
      constructor
      · rintro ⟨⟨q1, q2⟩, q3⟩
        have := (tz y q1.1 q1.2 (by rw [q2]; decide)).2
        exact ⟨⟨q1, this.symm.trans q2⟩, q3⟩
      · rintro ⟨⟨q1, q2⟩, q3⟩
        have := h.lv (px.2.2.2.2.2 y (cLv_f.2 ⟨q1, q2⟩) (by rw [v2]; exact unl y q3))
        exact ⟨⟨q1, this.2.1⟩, q3⟩
    · rw [show cPl s y = cPl s2 y from h.I _ _ (by decide)]
    · exact h.nx y (by rw [q.1.2]; decide)
    · rw [show cPl s y = cPl s2 y from h.I _ _ (by decide)]
      have q1 := q.1.1
      rw [en] at q1
      have t2 := (tz y q1.1 q1.2 (by rw [q.1.2.1]; decide)).2
      exact v3.2 y ⟨cLv_f.2 ⟨q1, t2.symm.trans q.1.2.1⟩, unl y q.2⟩
  · have q1 := ly.1
    rw [en] at q1
    have t2 := (tz y q1.1 q1.2 (by rw [ly.2.1]; decide)).2
    have t8 := t2.symm.trans ly.2.1
    have el : cLk s y = cLk s2 y := by
      rcases h.vr y with ⟨w, -, -⟩ | ⟨-, -, -, w, -⟩
      · exact w
      · rw [w] at l
        exact absurd l (by decide)
    have v := H.2.2.2.2.1.2.1 y (cLv_f.2 ⟨q1, t8⟩) (by rw [← el]; exact l)
    rw [el]
    refine ⟨(pcs _).2 v.1, ?_⟩
    by_cases q : oSl s (cLk s2 y) < 0
    · exact absurd el (h.cl _ v.1 q y q1 t8)
    · clear h H Hm Hy tz pcs
      grind
