/-! The class: a load: a string that stays; what a load leaves as it is. -/
def cYw (s s' : S1) : Prop := (∀ f i, f ≠ 18563 → gI s' f i = gI s f i) ∧ (∀ f i, gL s' f i = gL s f i) ∧ (∀ a i j, gA s' a i j = gA s a i j) ∧ ∀ b i j, gB s' b i j = gB s b i j
theorem cYw.I {s s' : S1} (h : cYw s s') (f : Nat) (hf : f ≠ 18563) (i : Int32) : gI s' f i = gI s f i := h.1 f i hf
theorem cYw.L {s s' : S1} (h : cYw s s') (f : Nat) (i : Int32) : gL s' f i = gL s f i := h.2.1 f i
theorem cYw.A {s s' : S1} (h : cYw s s') (a : Nat) (_ : True) (i j : Int32) : gA s' a i j = gA s a i j := h.2.2.1 a i j
theorem cYw.B {s s' : S1} (h : cYw s s') (b : Nat) (i j : Int32) : gB s' b i j = gB s b i j := h.2.2.2 b i j
theorem cLv.yw {s s' : S1} (hk : cYw s s') {x t : Int32} : cLv false s' x t ↔ cLv false s x t := by
  rw [cLv_f, cLv_f]
  simp only [hk.I 14209 (by decide), hk.I 18560 (by decide), hk.I 18564 (by decide), hk.I 18565 (by decide), hk.I 18566 (by decide), hk.I 18567 (by decide), hk.I 18571 (by decide), hk.I 18572 (by decide), hk.I 18573 (by decide), hk.I 18574 (by decide), hk.I 18815 (by decide), hk.I 18814 (by decide), hk.I 18943 (by decide), hk.I 18942 (by decide), hk.I 18435 (by decide), hk.I 18559 (by decide), hk.I 19071 (by decide), hk.I 18687 (by decide), hk.I 18948 (by decide), hk.I 18949 (by decide), hk.I 18950 (by decide), hk.I 18954 (by decide), hk.I 18955 (by decide), hk.I 19457 (by decide), hk.I 19462 (by decide), hk.I 15367 (by decide), hk.I 18561 (by decide), hk.L 18568, hk.L 18953, hk.L 19463, hk.A 121 (by decide), hk.A 123 (by decide), hk.A 147 (by decide), hk.A 149 (by decide), hk.A 125 (by decide), hk.A 126 (by decide), hk.A 127 (by decide), hk.B 122, hk.B 124, hk.B 150]
theorem cLv.yw' {s s' : S1} (hk : cYw s s') : cLv false s' = cLv false s := by
  funext x t
  exact propext (cLv.yw hk)
theorem cPv.yw {L : Int32 → Int32 → Prop} {s s' : S1} (hk : cYw s s') {x : Int32} : cPv L s' x ↔ cPv L s x := by
  simp only [cPv, cCo, pP, pC, cLv.yw hk, hk.I 14209 (by decide), hk.I 18560 (by decide), hk.I 18564 (by decide), hk.I 18565 (by decide), hk.I 18566 (by decide), hk.I 18567 (by decide), hk.I 18571 (by decide), hk.I 18572 (by decide), hk.I 18573 (by decide), hk.I 18574 (by decide), hk.I 18815 (by decide), hk.I 18814 (by decide), hk.I 18943 (by decide), hk.I 18942 (by decide), hk.I 18435 (by decide), hk.I 18559 (by decide), hk.I 19071 (by decide), hk.I 18687 (by decide), hk.I 18948 (by decide), hk.I 18949 (by decide), hk.I 18950 (by decide), hk.I 18954 (by decide), hk.I 18955 (by decide), hk.I 19457 (by decide), hk.I 19462 (by decide), hk.I 15367 (by decide), hk.I 18561 (by decide), hk.L 18568, hk.L 18953, hk.L 19463, hk.A 121 (by decide), hk.A 123 (by decide), hk.A 147 (by decide), hk.A 149 (by decide), hk.A 125 (by decide), hk.A 126 (by decide), hk.A 127 (by decide), hk.B 122, hk.B 124, hk.B 150]
theorem cNr.yw {s s' : S1} (hk : cYw s s') : cNr s' ↔ cNr s := by
  simp only [cNr, pT, hk.I 14209 (by decide), hk.I 18560 (by decide), hk.I 18564 (by decide), hk.I 18565 (by decide), hk.I 18566 (by decide), hk.I 18567 (by decide), hk.I 18571 (by decide), hk.I 18572 (by decide), hk.I 18573 (by decide), hk.I 18574 (by decide), hk.I 18815 (by decide), hk.I 18814 (by decide), hk.I 18943 (by decide), hk.I 18942 (by decide), hk.I 18435 (by decide), hk.I 18559 (by decide), hk.I 19071 (by decide), hk.I 18687 (by decide), hk.I 18948 (by decide), hk.I 18949 (by decide), hk.I 18950 (by decide), hk.I 18954 (by decide), hk.I 18955 (by decide), hk.I 19457 (by decide), hk.I 19462 (by decide), hk.I 15367 (by decide), hk.I 18561 (by decide), hk.L 18568, hk.L 18953, hk.L 19463, hk.A 121 (by decide), hk.A 123 (by decide), hk.A 147 (by decide), hk.A 149 (by decide), hk.A 125 (by decide), hk.A 126 (by decide), hk.A 127 (by decide), hk.B 122, hk.B 124, hk.B 150]
theorem cCn.yw {s s' : S1} (hk : cYw s s') {c : Int32} : cCn s' c ↔ cCn s c := by
  have e1 : cOp s' c = cOp s c := by
    funext y
    simp only [cOp, cLv.yw hk, hk.I 14209 (by decide), hk.I 18560 (by decide), hk.I 18564 (by decide), hk.I 18565 (by decide), hk.I 18566 (by decide), hk.I 18567 (by decide), hk.I 18571 (by decide), hk.I 18572 (by decide), hk.I 18573 (by decide), hk.I 18574 (by decide), hk.I 18815 (by decide), hk.I 18814 (by decide), hk.I 18943 (by decide), hk.I 18942 (by decide), hk.I 18435 (by decide), hk.I 18559 (by decide), hk.I 19071 (by decide), hk.I 18687 (by decide), hk.I 18948 (by decide), hk.I 18949 (by decide), hk.I 18950 (by decide), hk.I 18954 (by decide), hk.I 18955 (by decide), hk.I 19457 (by decide), hk.I 19462 (by decide), hk.I 15367 (by decide), hk.I 18561 (by decide), hk.L 18568, hk.L 18953, hk.L 19463, hk.A 121 (by decide), hk.A 123 (by decide), hk.A 147 (by decide), hk.A 149 (by decide), hk.A 125 (by decide), hk.A 126 (by decide), hk.A 127 (by decide), hk.B 122, hk.B 124, hk.B 150]
  have e2 : (fun y => (cPl s' y).toInt) = fun y => (cPl s y).toInt := by
    funext y
    simp only [hk.I 14209 (by decide), hk.I 18560 (by decide), hk.I 18564 (by decide), hk.I 18565 (by decide), hk.I 18566 (by decide), hk.I 18567 (by decide), hk.I 18571 (by decide), hk.I 18572 (by decide), hk.I 18573 (by decide), hk.I 18574 (by decide), hk.I 18815 (by decide), hk.I 18814 (by decide), hk.I 18943 (by decide), hk.I 18942 (by decide), hk.I 18435 (by decide), hk.I 18559 (by decide), hk.I 19071 (by decide), hk.I 18687 (by decide), hk.I 18948 (by decide), hk.I 18949 (by decide), hk.I 18950 (by decide), hk.I 18954 (by decide), hk.I 18955 (by decide), hk.I 19457 (by decide), hk.I 19462 (by decide), hk.I 15367 (by decide), hk.I 18561 (by decide), hk.L 18568, hk.L 18953, hk.L 19463, hk.A 121 (by decide), hk.A 123 (by decide), hk.A 147 (by decide), hk.A 149 (by decide), hk.A 125 (by decide), hk.A 126 (by decide), hk.A 127 (by decide), hk.B 122, hk.B 124, hk.B 150]
  have e3 : cNx s' = cNx s := by
    funext y
    simp only [hk.I 14209 (by decide), hk.I 18560 (by decide), hk.I 18564 (by decide), hk.I 18565 (by decide), hk.I 18566 (by decide), hk.I 18567 (by decide), hk.I 18571 (by decide), hk.I 18572 (by decide), hk.I 18573 (by decide), hk.I 18574 (by decide), hk.I 18815 (by decide), hk.I 18814 (by decide), hk.I 18943 (by decide), hk.I 18942 (by decide), hk.I 18435 (by decide), hk.I 18559 (by decide), hk.I 19071 (by decide), hk.I 18687 (by decide), hk.I 18948 (by decide), hk.I 18949 (by decide), hk.I 18950 (by decide), hk.I 18954 (by decide), hk.I 18955 (by decide), hk.I 19457 (by decide), hk.I 19462 (by decide), hk.I 15367 (by decide), hk.I 18561 (by decide), hk.L 18568, hk.L 18953, hk.L 19463, hk.A 121 (by decide), hk.A 123 (by decide), hk.A 147 (by decide), hk.A 149 (by decide), hk.A 125 (by decide), hk.A 126 (by decide), hk.A 127 (by decide), hk.B 122, hk.B 124, hk.B 150]
  unfold cCn
  rw [e1, e2, e3]
  simp only [hk.I 14209 (by decide), hk.I 18560 (by decide), hk.I 18564 (by decide), hk.I 18565 (by decide), hk.I 18566 (by decide), hk.I 18567 (by decide), hk.I 18571 (by decide), hk.I 18572 (by decide), hk.I 18573 (by decide), hk.I 18574 (by decide), hk.I 18815 (by decide), hk.I 18814 (by decide), hk.I 18943 (by decide), hk.I 18942 (by decide), hk.I 18435 (by decide), hk.I 18559 (by decide), hk.I 19071 (by decide), hk.I 18687 (by decide), hk.I 18948 (by decide), hk.I 18949 (by decide), hk.I 18950 (by decide), hk.I 18954 (by decide), hk.I 18955 (by decide), hk.I 19457 (by decide), hk.I 19462 (by decide), hk.I 15367 (by decide), hk.I 18561 (by decide), hk.L 18568, hk.L 18953, hk.L 19463, hk.A 121 (by decide), hk.A 123 (by decide), hk.A 147 (by decide), hk.A 149 (by decide), hk.A 125 (by decide), hk.A 126 (by decide), hk.A 127 (by decide), hk.B 122, hk.B 124, hk.B 150]
theorem cHI.yw {s s' : S1} (hk : cYw s s') (h : cHI s) (hy : ∀ x, cSy s' x = cSy s x ∨ (cSy s' x = 1 ∧ cTy s x = 4)) : cHI s' := by
  obtain ⟨h1, h2, h3, h4, h5, h6⟩ := h
  have en : cN s' = cN s := hk.I _ (by decide) _
  have ety : ∀ y, cTy s' y = cTy s y := fun y => hk.I _ (by decide) _
  refine ⟨(cNr.yw hk).2 h1, fun x a b => ?_, ?_, ?_, ⟨fun c p l => ?_, fun y a b => ?_, ?_⟩, ?_⟩
  · rw [en] at b
    obtain ⟨g1, g2, g3, g4, g5, g6⟩ := h2 x a b
    refine ⟨by rw [ety]; exact g1, ?_, ?_, ?_, ?_, ?_⟩
    · rw [cPv.yw hk, cLv.yw' hk]
      exact g2
    · unfold cTs at g3 ⊢
      simp only [hk.I 14209 (by decide), hk.I 18560 (by decide), hk.I 18564 (by decide), hk.I 18565 (by decide), hk.I 18566 (by decide), hk.I 18567 (by decide), hk.I 18571 (by decide), hk.I 18572 (by decide), hk.I 18573 (by decide), hk.I 18574 (by decide), hk.I 18815 (by decide), hk.I 18814 (by decide), hk.I 18943 (by decide), hk.I 18942 (by decide), hk.I 18435 (by decide), hk.I 18559 (by decide), hk.I 19071 (by decide), hk.I 18687 (by decide), hk.I 18948 (by decide), hk.I 18949 (by decide), hk.I 18950 (by decide), hk.I 18954 (by decide), hk.I 18955 (by decide), hk.I 19457 (by decide), hk.I 19462 (by decide), hk.I 15367 (by decide), hk.I 18561 (by decide), hk.L 18568, hk.L 18953, hk.L 19463, hk.A 121 (by decide), hk.A 123 (by decide), hk.A 147 (by decide), hk.A 149 (by decide), hk.A 125 (by decide), hk.A 126 (by decide), hk.A 127 (by decide), hk.B 122, hk.B 124, hk.B 150]
      exact g3
    · rcases hy x with q | q
      · rw [q]
        exact g4
      · exact .inr q.1
    · rw [ety]
      rcases hy x with q | q
      · rw [q]
        exact g5
      · exact fun _ => q.2
    · rw [show cTl s' 4 = cTl s 4 from hk.A _ trivial _ _]
      simp only [hk.I 14209 (by decide), hk.I 18560 (by decide), hk.I 18564 (by decide), hk.I 18565 (by decide), hk.I 18566 (by decide), hk.I 18567 (by decide), hk.I 18571 (by decide), hk.I 18572 (by decide), hk.I 18573 (by decide), hk.I 18574 (by decide), hk.I 18815 (by decide), hk.I 18814 (by decide), hk.I 18943 (by decide), hk.I 18942 (by decide), hk.I 18435 (by decide), hk.I 18559 (by decide), hk.I 19071 (by decide), hk.I 18687 (by decide), hk.I 18948 (by decide), hk.I 18949 (by decide), hk.I 18950 (by decide), hk.I 18954 (by decide), hk.I 18955 (by decide), hk.I 19457 (by decide), hk.I 19462 (by decide), hk.I 15367 (by decide), hk.I 18561 (by decide), hk.L 18568, hk.L 18953, hk.L 19463, hk.A 121 (by decide), hk.A 123 (by decide), hk.A 147 (by decide), hk.A 149 (by decide), hk.A 125 (by decide), hk.A 126 (by decide), hk.A 127 (by decide), hk.B 122, hk.B 124, hk.B 150]
      exact g6
  · exact h3.congr (fun y => cLv.yw hk) (fun y _ => hk.I _ (by decide) _) (fun y _ => hk.I _ (by decide) _) (fun y _ => hk.I _ (by decide) _) (fun b => hk.A _ trivial _ _)
  · unfold cFl at h4 ⊢
    rw [show cTl s' 3 = cTl s 3 from hk.A _ trivial _ _, en]
    have e1 : cFc s' = cFc s := hk.I _ (by decide) _
    have e2 : ∀ i, cFr s' i = cFr s i := fun i => hk.A _ trivial _ _
    simp only [e1, e2, ety]
    exact h4
  · have e1 : oSl s' c = oSl s c := hk.I _ (by decide) _
    rw [e1] at l ⊢
    have w := h5.1 c (by unfold pC at p ⊢; rw [hk.I _ (by decide)] at p; exact p) l
    exact ⟨(cLv.yw hk).2 w.1, (hk.I _ (by decide) _).trans w.2.1, (cCn.yw hk).2 w.2.2⟩
  · have e1 : cLk s' y = cLk s y := hk.I _ (by decide) _
    rw [e1] at b ⊢
    have w := h5.2.1 y ((cLv.yw hk).1 a) b
    unfold pC at w ⊢
    simp only [hk.I 14209 (by decide), hk.I 18560 (by decide), hk.I 18564 (by decide), hk.I 18565 (by decide), hk.I 18566 (by decide), hk.I 18567 (by decide), hk.I 18571 (by decide), hk.I 18572 (by decide), hk.I 18573 (by decide), hk.I 18574 (by decide), hk.I 18815 (by decide), hk.I 18814 (by decide), hk.I 18943 (by decide), hk.I 18942 (by decide), hk.I 18435 (by decide), hk.I 18559 (by decide), hk.I 19071 (by decide), hk.I 18687 (by decide), hk.I 18948 (by decide), hk.I 18949 (by decide), hk.I 18950 (by decide), hk.I 18954 (by decide), hk.I 18955 (by decide), hk.I 19457 (by decide), hk.I 19462 (by decide), hk.I 15367 (by decide), hk.I 18561 (by decide), hk.L 18568, hk.L 18953, hk.L 19463, hk.A 121 (by decide), hk.A 123 (by decide), hk.A 147 (by decide), hk.A 149 (by decide), hk.A 125 (by decide), hk.A 126 (by decide), hk.A 127 (by decide), hk.B 122, hk.B 124, hk.B 150]
    exact w
  · rw [show cTl s' 11 = cTl s 11 from hk.A _ trivial _ _, h5.2.2]
    unfold cCm
    simp only [hk.I 14209 (by decide), hk.I 18560 (by decide), hk.I 18564 (by decide), hk.I 18565 (by decide), hk.I 18566 (by decide), hk.I 18567 (by decide), hk.I 18571 (by decide), hk.I 18572 (by decide), hk.I 18573 (by decide), hk.I 18574 (by decide), hk.I 18815 (by decide), hk.I 18814 (by decide), hk.I 18943 (by decide), hk.I 18942 (by decide), hk.I 18435 (by decide), hk.I 18559 (by decide), hk.I 19071 (by decide), hk.I 18687 (by decide), hk.I 18948 (by decide), hk.I 18949 (by decide), hk.I 18950 (by decide), hk.I 18954 (by decide), hk.I 18955 (by decide), hk.I 19457 (by decide), hk.I 19462 (by decide), hk.I 15367 (by decide), hk.I 18561 (by decide), hk.L 18568, hk.L 18953, hk.L 19463, hk.A 121 (by decide), hk.A 123 (by decide), hk.A 147 (by decide), hk.A 149 (by decide), hk.A 125 (by decide), hk.A 126 (by decide), hk.A 127 (by decide), hk.B 122, hk.B 124, hk.B 150]
  · exact h6.congr (hk.I _ (by decide) _) (fun p => hk.A _ trivial _ _) (fun y => hk.I _ (by decide) _) (fun y => hk.I _ (by decide) _) (fun y => cLv.yw hk) (hk.A _ trivial _ _)
/-- what a load changes while it fills the heap -/
def kbX (f : Nat) : Prop := f = 14209 ∨ f = 14211 ∨ f = 14217 ∨ f = 15230 ∨ f = 15231 ∨ f = 15367 ∨ (145 ≤ f / 128 ∧ f / 128 ≤ 147) ∨ f / 128 = 154
def kbA (a : Nat) : Prop := a = 114 ∨ a = 115 ∨ a = 117 ∨ a = 118 ∨ a = 121 ∨ a = 123 ∨ a = 125 ∨ a = 126 ∨ a = 127 ∨ a = 146 ∨ a = 147 ∨ a = 154
def kbB (a : Nat) : Prop := a = 106 ∨ a = 122 ∨ a = 124 ∨ a = 146 ∨ a = 147 ∨ a = 154
def Kb (s t : S1) : Prop := (∀ f j, ¬ kbX f → gI t f j = gI s f j) ∧ (∀ a j k, ¬ kbA a → gA t a j k = gA s a j k) ∧ ∀ a j k, ¬ kbB a → gB t a j k = gB s a j k
theorem Kb.refl (s : S1) : Kb s s := ⟨fun _ _ _ => rfl, fun _ _ _ _ => rfl, fun _ _ _ _ => rfl⟩
theorem Kb.trans {s t u : S1} (a : Kb s t) (b : Kb t u) : Kb s u := ⟨fun f j q => (b.1 f j q).trans (a.1 f j q), fun f j k q => (b.2.1 f j k q).trans (a.2.1 f j k q), fun f j k q => (b.2.2 f j k q).trans (a.2.2 f j k q)⟩
/-- what lives goes on living -/
def Up (s t : S1) : Prop := (∀ y u, u ≠ 0 → cLv false s y u → cLv false t y u) ∧ ∀ y, cLv false s y 4 → cSy s y ≠ 0 → cSy t y ≠ 0
theorem Up.refl (s : S1) : Up s s := ⟨fun _ _ _ h => h, fun _ _ h => h⟩
theorem Up.trans {s t u : S1} (a : Up s t) (b : Up t u) : Up s u := ⟨fun y v n h => b.1 y v n (a.1 y v n h), fun y h z => b.2 y (a.1 y 4 (by decide) h) (a.2 y h z)⟩
def Ke0 (s t : S1) : Prop := Kb s t ∧ Up s t ∧ (∀ j k, gA t 115 j k = gA s 115 j k) ∧ ∀ j k, gB t 106 j k = gB s 106 j k
theorem Ke0.refl (s : S1) : Ke0 s s := ⟨Kb.refl s, Up.refl s, fun _ _ => rfl, fun _ _ => rfl⟩
theorem Ke0.trans {s t u : S1} (a : Ke0 s t) (b : Ke0 t u) : Ke0 s u := ⟨a.1.trans b.1, a.2.1.trans b.2.1, fun j k => (b.2.2.1 j k).trans (a.2.2.1 j k), fun j k => (b.2.2.2 j k).trans (a.2.2.2 j k)⟩
theorem cNt.ke {x T : Int32} {s t : S1} (h : cNt x T s t) : Ke0 s t := by
  obtain ⟨l, up, I, L, A, B, dn⟩ := h
  refine ⟨⟨fun f j q => I f j ?_ (fun z => ?_), fun a j k q => A a j k ?_ (fun z => ?_), fun a j k q => B a j k ?_ (fun z => ?_)⟩, ⟨fun y u n h => (up y u n h).1, fun y h z => ?_⟩, fun j k => A 115 j k (by decide) (fun z => absurd z (by decide)), fun j k => B 106 j k (by decide) (fun z => absurd z (by decide))⟩
  · unfold kbX at q
    omega
  · unfold kbX at q
    omega
  · unfold kbA at q
    omega
  · unfold kbA at q
    omega
  · unfold kbB at q
    omega
  · unfold kbB at q
    omega
  · rw [show cSy t y = cSy s y from I _ _ (by decide) (fun _ => (up y 4 (by decide) h).2)]
    exact z
theorem wuQ.ke {s t : S1} (h : wuQ s t) : Ke0 s t := by
  obtain ⟨I, L, A, B⟩ := id h
  refine ⟨⟨fun f j q => I f j ?_, fun a j k q => A a j k ?_, fun a j k q => B a j k ?_⟩, ⟨fun y u n l => by rw [h.lv]; exact l, fun y l z => ?_⟩, fun j k => A 115 j k (by decide), fun j k => B 106 j k (by decide)⟩
  · unfold kbX at q
    unfold wuX
    omega
  · unfold kbA at q
    omega
  · unfold kbB at q
    omega
  · rw [show cSy t y = cSy s y from I _ _ (by unfold wuX; decide)]
    exact z
theorem cHx.ke {s t : S1} (h : cHx s t) : Ke0 s t := by
  refine ⟨⟨fun f j q => h.1 f j ?_, fun a j k q => h.2.2.1 a j k ?_, fun a j k q => h.2.2.2.1 a j k ?_⟩, ⟨fun y u n l => h.lv.2 l, fun y l z => ?_⟩, fun j k => h.A 115 (by decide) j k, fun j k => h.B 106 (by decide) j k⟩
  · unfold kbX at q
    omega
  · unfold kbA at q
    omega
  · unfold kbB at q
    omega
  · rw [show cSy t y = cSy s y from h.I _ (by decide) _]
    exact z
/-- while a load fills the heap -/
def Bi (s0 : S1) (n : Nat × Nat) (s : S1) : Prop := cHI s ∧ cRo s n (0, 0) ∧ Kb s0 s ∧ ∀ x, ¬ cLv false s x 6
theorem Bi.hr {s0 s : S1} {n : Nat × Nat} (h : Bi s0 n s) (l : gI s0 14221 0 = 1) : cHR s ∧ gI s 14221 0 = 1 := by
  have e : gI s 14221 0 = 1 := (h.2.2.1.1 14221 0 (by unfold kbX; decide)).trans l
  exact ⟨⟨h.1, fun z => absurd (e.symm.trans z) (by decide)⟩, e⟩
theorem cMg.on {s s0 : S1} (h : cMg s s0) (l : gI s 14221 0 = 1) : s0 = s := by
  rcases h with h | h
  · exact h
  · exact absurd (l.symm.trans h.1) (by decide)
def mbQ (s0 s : S1) (T : Int32) (F : Int32 → S1 → Prop) (r : Int32 × (Nat × Nat)) (t : S1) : Prop := Bi s0 r.2 t ∧ Ke0 s t ∧ (r.1 < 0 ∨ (0 ≤ r.1 ∧ cLv false t r.1 T ∧ F r.1 t))
theorem mdQ.mb {s0 s : S1} {n : Nat × Nat} {T : Int32} {F : Int32 → S1 → Prop} {r : Int32 × (Nat × Nat)} {t : S1} (h : mdQ s (0, 0) T F r t) (b : Bi s0 n s) (l : gI s0 14221 0 = 1) (hT : T ≠ 6) : mbQ s0 s T F r t := by
  obtain ⟨s1, mg, h1, ro, q⟩ := h
  have e := mg.on (b.hr l).2
  rw [e] at q h1
  rcases q with ⟨r1, et⟩ | ⟨r0, ht, nt, f⟩
  · rw [et] at ro ⊢
    refine ⟨⟨b.1, ro, b.2.2⟩, Ke0.refl s, .inl ?_⟩
    rcases r1 with z | z <;> rw [z] <;> decide
  · refine ⟨⟨ht.1, ro, b.2.2.1.trans nt.ke.1, fun x l6 => ?_⟩, nt.ke, .inr ⟨r0, nt.1, f⟩⟩
    by_cases z : x = r.1
    · rw [z] at l6
      exact hT (nt.1.2.1.symm.trans l6.2.1)
    · exact b.2.2.2 x (nt.2.2.2.2.2.2 x 6 (by decide) z l6)
/-- the names are there -/
def Nmk (k : Int) (s : S1) : Prop := ∀ i : Int32, 0 ≤ i.toInt → i.toInt < k → cLv false s (gA s 115 0 i) 4 ∧ cSy s (gA s 115 0 i) ≠ 0
theorem Nmk.ke {k : Int} {s t : S1} (h : Nmk k s) (e : Ke0 s t) : Nmk k t := fun i i0 i1 => by
  rw [e.2.2.1]
  have w := h i i0 i1
  exact ⟨e.2.1.1 _ 4 (by decide) w.1, e.2.1.2 _ w.1 w.2⟩
theorem Bi.ke {s0 s t : S1} {n m : Nat × Nat} (b : Bi s0 n s) (e : Ke0 s t) (H : cHI t) (R : cRo t m (0, 0)) (dn : ∀ x, cLv false t x 6 → cLv false s x 6) : Bi s0 m t := ⟨H, R, b.2.2.1.trans e.1, fun x l => b.2.2.2 x (dn x l)⟩
theorem wuQ.bi {s0 s t : S1} {n m : Nat × Nat} (h : wuQ s t) (b : Bi s0 n s) (R : cRo t m (0, 0)) : Bi s0 m t := b.ke h.ke (b.1.sm ⟨fun f j q _ _ => h.1 f j (by unfold hpI at q; unfold wuX; omega), fun f j _ _ _ => h.2.1 f j, fun a j k q _ => h.2.2.1 a j k (by unfold hpA at q; omega), fun a j k q _ => h.2.2.2 a j k (by unfold hpB at q; omega)⟩) R (fun x l => by rw [h.lv] at l; exact l)
