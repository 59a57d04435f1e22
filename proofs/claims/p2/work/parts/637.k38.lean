/-! The class: the program that was looked over; its frames while it runs. -/
abbrev dO (w : Int32) : Int32 := w &&& 63
abbrev dA (w : Int32) : Int32 := (iushr w (6 : Int32)) &&& 255
abbrev dB (w : Int32) : Int32 := iushr w (23 : Int32)
abbrev dC (w : Int32) : Int32 := (iushr w (14 : Int32)) &&& 511
abbrev dX (w : Int32) : Int32 := iushr w (14 : Int32)
abbrev pNp (s : S1) (p : Int32) : Int := (gI s 18432 p).toInt
abbrev pMo (s : S1) (p : Int32) : Int32 := gI s 18433 p
abbrev pNr (s : S1) (p : Int32) : Int := (gI s 18434 p).toInt
abbrev pNu (s : S1) (p : Int32) : Int := (gI s 18435 p).toInt
abbrev pUs (s : S1) (p : Int32) : Int := (gI s 18436 p).toInt
abbrev pNc (s : S1) (p : Int32) : Int := (gI s 18437 p).toInt
abbrev pCs (s : S1) (p : Int32) : Int := (gI s 18438 p).toInt
abbrev pNi (s : S1) (p : Int32) : Int := (gI s 18439 p).toInt
abbrev pKs (s : S1) (p : Int32) : Int := (gI s 18440 p).toInt
abbrev pNh (s : S1) (p : Int32) : Int := (gI s 18442 p).toInt
abbrev pHs (s : S1) (p : Int32) : Int := (gI s 18443 p).toInt
abbrev nPr (s : S1) : Int := (gI s 12937 0).toInt
abbrev nCo (s : S1) : Int := (gI s 12938 0).toInt
def dUs (w : Int32) : Prop := (dO w = 36 ∨ dO w = 37 ∨ dO w = 38 ∨ dO w = 43) ∧ dB w = 0
def dMk (w : Int32) : Prop := (dO w = 36 ∧ dC w = 0) ∨ (dO w = 45 ∧ dB w = 0)
abbrev dW (s : S1) (p i : Int32) : Int32 := gA s 104 0 (gI s 18440 p + i)
def dGs (s : S1) (p i : Int32) : Prop := 0 ≤ i.toInt ∧ i.toInt < pNi s p ∧ ¬ dUs (dW s p i)
def dQ (s : S1) (p x : Int32) : Prop := (x.toInt < 256 → x.toInt < pNr s p) ∧ (256 ≤ x.toInt → x.toInt - 256 < pNc s p)
/-- what an instruction names is there -/
def dWn (s : S1) (p i w : Int32) (o A B C : Int) : Prop :=
  ((o = 0 ∨ o = 25 ∨ o = 26 ∨ o = 27 ∨ o = 28) → A < pNr s p ∧ B < pNr s p) ∧ (o = 1 → A < pNr s p ∧ (dX w).toInt < pNc s p) ∧ (o = 3 → A < pNr s p ∧ (C ≠ 0 → dGs s p (i + 2))) ∧ (o = 4 → A + B < pNr s p) ∧
  ((o = 5 ∨ o = 9) → A < pNr s p ∧ B < pNu s p) ∧ (o = 6 → A < pNr s p ∧ B < pNu s p ∧ dQ s p (dC w)) ∧ (o = 7 → A < pNr s p ∧ B < pNr s p ∧ dQ s p (dC w)) ∧ (o = 8 → A < pNu s p ∧ dQ s p (dB w) ∧ dQ s p (dC w)) ∧
  (o = 10 → A < pNr s p ∧ dQ s p (dB w) ∧ dQ s p (dC w)) ∧ (o = 11 → A < pNr s p) ∧ (o = 12 → A + 1 < pNr s p ∧ B < pNr s p ∧ dQ s p (dC w)) ∧ ((13 ≤ o ∧ o ≤ 16 ∨ 19 ≤ o ∧ o ≤ 24) → A < pNr s p ∧ dQ s p (dB w) ∧ dQ s p (dC w)) ∧
  (o = 29 → A < pNr s p ∧ B < C ∧ C < pNr s p) ∧ (o = 30 → dGs s p (i + 1 + (dX w - 131071))) ∧ ((o = 31 ∨ o = 32 ∨ o = 33) → dQ s p (dB w) ∧ dQ s p (dC w)) ∧ (o = 34 → A < pNr s p) ∧ (o = 35 → A < pNr s p ∧ B < pNr s p) ∧
  (o = 36 → A < pNr s p ∧ A + B - 1 < pNr s p ∧ A + C - 2 < pNr s p) ∧ (o = 37 → A < pNr s p ∧ A + B - 1 < pNr s p) ∧ (o = 38 → A < pNr s p ∧ A + B - 2 < pNr s p) ∧
  (o = 39 → A + 3 < pNr s p ∧ dGs s p (i + 1 + (dX w - 131071))) ∧ (o = 40 → A + 3 < pNr s p ∧ dGs s p (i + 1 + (dX w - 131071))) ∧ (o = 41 → A + 2 + C < pNr s p) ∧ (o = 42 → A + 1 < pNr s p ∧ dGs s p (i + 1 + (dX w - 131071))) ∧
  (o = 43 → A < pNr s p ∧ A + B < pNr s p) ∧ (o = 44 → A < pNr s p ∧ (dX w).toInt < pNh s p) ∧ (o = 45 → A < pNr s p ∧ A + B - 2 < pNr s p) ∧ o ≤ 45 ∧ o ≠ 2 ∧ o ≠ 17 ∧ o ≠ 18
def dWf (s : S1) (p i : Int32) : Prop :=
  (¬ i.toInt + 1 < pNi s p → dO (dW s p i) = 30 ∨ dO (dW s p i) = 37 ∨ dO (dW s p i) = 38) ∧ (dMk (dW s p i) → dUs (dW s p (i + 1)) ∧ (dA (dW s p (i + 1))).toInt + (if dO (dW s p (i + 1)) = 38 then 0 else 1) ≤ (dA (dW s p i)).toInt) ∧
  (dUs (dW s p i) → 1 ≤ i.toInt ∧ dMk (dW s p (i - 1))) ∧ (31 ≤ (dO (dW s p i)).toInt ∧ (dO (dW s p i)).toInt ≤ 35 → dGs s p (i + 2)) ∧ dWn s p i (dW s p i) (dO (dW s p i)).toInt (dA (dW s p i)).toInt (dB (dW s p i)).toInt (dC (dW s p i)).toInt
/-- a prototype, as it was read and looked over -/
def dPp (s : S1) (p : Int32) : Prop := gI s 18559 p = 1 ∧ (0 ≤ pNp s p ∧ pNp s p ≤ pNr s p) ∧ (1 ≤ pNr s p ∧ pNr s p ≤ 250) ∧ (0 ≤ pNu s p ∧ pNu s p ≤ 60) ∧ (0 ≤ pUs s p ∧ pUs s p + pNu s p ≤ 15000) ∧
  (0 ≤ pCs s p ∧ 0 ≤ pNc s p ∧ pCs s p + pNc s p ≤ nCo s) ∧ (0 ≤ pKs s p ∧ 0 < pNi s p ∧ pKs s p + pNi s p ≤ 20000) ∧ (0 ≤ pHs s p ∧ 0 ≤ pNh s p ∧ pHs s p + pNh s p ≤ 250) ∧
  (∀ i : Int32, 0 ≤ i.toInt → i.toInt < pNi s p → dWf s p i) ∧
  ∀ k : Int32, 0 ≤ k.toInt → k.toInt < pNh s p → (0 ≤ (gA s 103 0 (gI s 18443 p + k)).toInt ∧ (gA s 103 0 (gI s 18443 p + k)).toInt < nPr s) ∧ ∀ j : Int32, 0 ≤ j.toInt → j.toInt < pNu s (gA s 103 0 (gI s 18443 p + k)) → (0 ≤ (gA s 107 0 (gI s 18436 (gA s 103 0 (gI s 18443 p + k)) + j)).toInt → (gA s 107 0 (gI s 18436 (gA s 103 0 (gI s 18443 p + k)) + j)).toInt < pNr s p) ∧ ((gA s 107 0 (gI s 18436 (gA s 103 0 (gI s 18443 p + k)) + j)).toInt < 0 → -1 - (gA s 107 0 (gI s 18436 (gA s 103 0 (gI s 18443 p + k)) + j)).toInt < pNu s p)
def dPg (s : S1) : Prop := (1 ≤ nPr s ∧ nPr s ≤ 250) ∧ (0 ≤ nCo s ∧ nCo s ≤ 20000) ∧ (∀ p : Int32, 0 ≤ p.toInt → p.toInt < nPr s → dPp s p) ∧ pNu s 0 ≤ 1 ∧ pNp s 0 ≤ 250
/-- closures are of the program's prototypes -/
def qKl (s : S1) : Prop := ∀ x, cLv false s x 6 → 0 ≤ (cLk s x).toInt ∧ (cLk s x).toInt < nPr s
abbrev fWh (s : S1) (f : Int32) : Int32 := gI s 19456 f
abbrev fPr (s : S1) (f : Int32) : Int32 := gI s 19458 f
abbrev fBs (s : S1) (f : Int32) : Int := (gI s 19459 f).toInt
abbrev fEx (s : S1) (f : Int32) : Int := (gI s 19460 f).toInt
abbrev fPc (s : S1) (f : Int32) : Int32 := gI s 19461 f
abbrev fJa (s : S1) (f : Int32) : Int := (gI s 19464 f).toInt
def dCl (o : Int) : Prop := o = 6 ∨ o = 7 ∨ o = 8 ∨ o = 10 ∨ o = 12 ∨ (13 ≤ o ∧ o ≤ 16) ∨ (19 ≤ o ∧ o ≤ 26) ∨ o = 28 ∨ o = 29 ∨ o = 31 ∨ o = 32 ∨ o = 33 ∨ o = 36 ∨ o = 41
/-- a frame waits for what its instruction called -/
def qWt (s : S1) (f : Int32) : Prop := (1 ≤ (fPc s f).toInt ∧ (fPc s f).toInt < pNi s (fPr s f)) ∧ dCl (dO (dW s (fPr s f) (fPc s f - 1))).toInt ∧ (dO (dW s (fPr s f) (fPc s f - 1)) = 29 → (dB (dW s (fPr s f) (fPc s f - 1))).toInt - 1 ≤ fJa s f ∧ fJa s f < (dC (dW s (fPr s f) (fPc s f - 1))).toInt)
def fEnd (s : S1) (c j : Int32) : Int := if j.toInt + 1 < (oD s c).toInt then fBs s (c * 200 + (j + 1)) else (oU s c).toInt
def qF (τ : Bool) (s : S1) (c j : Int32) : Prop :=
  (0 ≤ (fWh s (c * 200 + j)).toInt ∧ (fWh s (c * 200 + j)).toInt ≤ 4) ∧ (0 ≤ fBs s (c * 200 + j) ∧ (j = 0 → fBs s (c * 200 + j) = 0)) ∧ (fWh s (c * 200 + j) ≠ 0 → fBs s (c * 200 + j) = fEnd s c j) ∧
  (fWh s (c * 200 + j) = 0 → (cLv false s (mFn s (c * 200 + j)) 6 ∧ cLk s (mFn s (c * 200 + j)) = fPr s (c * 200 + j)) ∧ (0 ≤ fEx s (c * 200 + j) ∧ fEx s (c * 200 + j) ≤ 512) ∧ fBs s (c * 200 + j) + pNr s (fPr s (c * 200 + j)) + fEx s (c * 200 + j) = fEnd s c j ∧ (j.toInt + 1 < (oD s c).toInt ∨ c ≠ mCur s ∨ τ = true → qWt s (c * 200 + j)))
/-- a coroutine that is in use -/
def cAv (s : S1) (c : Int32) : Prop := pC s c ∧ 0 ≤ oSl s c
def qTc (s : S1) (c : Int32) : Prop := (0 ≤ (gI s 18951 c).toInt ∧ (gI s 18951 c).toInt ≤ 3) ∧ (gI s 18951 c = 1 → c = mCur s) ∧ (gI s 18951 c = 2 → c ≠ mCur s → 1 ≤ (oD s c).toInt ∧ fWh s (c * 200 + (oD s c - 1)) ≠ 0) ∧ (gI s 18952 c = 0 → gI s 18951 c = 0 ∧ oD s c = 0) ∧ (oD s c = 0 → oU s c = 0) ∧ (∀ y, cOp s c y → (cPl s y).toInt < (oU s c).toInt)
def qFr (τ : Bool) (s : S1) : Prop := ∀ c, cAv s c → qTc s c ∧ ∀ j, 0 ≤ j → j < oD s c → qF τ s c j
theorem qFr.weak {s : S1} (h : qFr true s) : qFr false s := fun c a => ⟨(h c a).1, fun j j0 j1 => by
  obtain ⟨w1, w2, w3, w4⟩ := (h c a).2 j j0 j1
  exact ⟨w1, w2, w3, fun z => ⟨(w4 z).1, (w4 z).2.1, (w4 z).2.2.1, fun _ => (w4 z).2.2.2 (.inr (.inr rfl))⟩⟩⟩
/-- what the program reads of itself has not changed -/
def cPk (s t : S1) : Prop := (∀ f j, f / 128 = 144 ∨ f = 12937 ∨ f = 12938 → gI t f j = gI s f j) ∧ ∀ a j k, a = 103 ∨ a = 104 ∨ a = 107 → gA t a j k = gA s a j k
theorem cPk.refl (s : S1) : cPk s s := ⟨fun _ _ _ => rfl, fun _ _ _ _ => rfl⟩
theorem cPk.trans {s t u : S1} (a : cPk s t) (b : cPk t u) : cPk s u := ⟨fun f j h => (b.1 f j h).trans (a.1 f j h), fun f j k h => (b.2 f j k h).trans (a.2 f j k h)⟩
theorem cPk.w {s t : S1} (h : cPk s t) (p i : Int32) : dW t p i = dW s p i := by
  unfold dW
  rw [h.1 18440 p (.inl (by decide)), h.2 104 _ _ (.inr (.inl rfl))]
theorem cPk.gs {s t : S1} (h : cPk s t) (p i : Int32) : dGs t p i ↔ dGs s p i := by
  unfold dGs pNi
  rw [h.w, h.1 18439 p (.inl (by decide))]
theorem cPk.wf {s t : S1} (h : cPk s t) (p i : Int32) : dWf t p i ↔ dWf s p i := by
  unfold dWf dWn dQ pNi pNr pNu pNc pNh
  simp only [h.w, h.gs, h.1 18439 p (.inl (by decide)), h.1 18434 p (.inl (by decide)), h.1 18435 p (.inl (by decide)), h.1 18437 p (.inl (by decide)), h.1 18442 p (.inl (by decide))]
theorem cPk.pp {s t : S1} (h : cPk s t) (p : Int32) : dPp t p ↔ dPp s p := by
  unfold dPp pNi pNr pNu pNc pNh pNp pUs pCs pKs pHs nCo nPr
  simp only [h.wf, h.1 18559 _ (.inl (by decide)), h.1 18432 _ (.inl (by decide)), h.1 18434 _ (.inl (by decide)), h.1 18435 _ (.inl (by decide)), h.1 18436 _ (.inl (by decide)), h.1 18437 _ (.inl (by decide)), h.1 18438 _ (.inl (by decide)), h.1 18439 _ (.inl (by decide)), h.1 18440 _ (.inl (by decide)), h.1 18442 _ (.inl (by decide)), h.1 18443 _ (.inl (by decide)), h.1 12937 _ (.inr (.inl rfl)), h.1 12938 _ (.inr (.inr rfl)), h.2 103 _ _ (.inl rfl), h.2 107 _ _ (.inr (.inr rfl))]
theorem cPk.pg {s t : S1} (h : cPk s t) (g : dPg s) : dPg t := by
  unfold dPg pNu pNp nPr nCo at g ⊢
  simp only [h.pp, h.1 12937 _ (.inr (.inl rfl)), h.1 12938 _ (.inr (.inr rfl)), h.1 18435 _ (.inl (by decide)), h.1 18432 _ (.inl (by decide))]
  exact g
theorem cPk.wt {s t : S1} (h : cPk s t) {f : Int32} (e1 : fPc t f = fPc s f) (e2 : fPr t f = fPr s f) (e3 : gI t 19464 f = gI s 19464 f) : qWt t f ↔ qWt s f := by
  unfold qWt
  rw [e1, e2, h.w]
  unfold pNi fJa
  rw [h.1 18439 _ (.inl (by decide)), e3]
/-- a coroutine's frames are as they were -/
def cKc (s t : S1) (c : Int32) : Prop := (∀ f, f = 18948 ∨ f = 18949 ∨ f = 18951 ∨ f = 18952 → gI t f c = gI s f c) ∧ (∀ f j, f / 128 = 152 → 0 ≤ j → j < 200 → gI t f (c * 200 + j) = gI s f (c * 200 + j)) ∧ (∀ j, 0 ≤ j → j < oD s c → fWh s (c * 200 + j) = 0 → cLv false s (mFn s (c * 200 + j)) 6 → cLv false t (mFn s (c * 200 + j)) 6 ∧ cLk t (mFn s (c * 200 + j)) = cLk s (mFn s (c * 200 + j))) ∧ ∀ y, cOp t c y → cOp s c y ∧ cPl t y = cPl s y
/-- what a maker, a collection, a table's write leave -/
def cKp (s t : S1) : Prop := cPk s t ∧ mCur t = mCur s ∧ ∀ c, cAv t c → (cAv s c ∧ cKc s t c) ∨ (gI t 18951 c = 0 ∧ oD t c = 0 ∧ oU t c = 0 ∧ ∀ y, ¬ cOp t c y)
theorem cKp.fr {s t : S1} (h : cKp s t) {τ : Bool} (F : qFr τ s) (hd : ∀ c, cAv s c → (oD s c).toInt ≤ 200) : qFr τ t := by
  intro c a
  have e0 : (0 : Int32).toInt = 0 := rfl
  have e1 : (1 : Int32).toInt = 1 := rfl
  have e200 : (200 : Int32).toInt = 200 := rfl
  rcases h.2.2 c a with ⟨as, k1, k2, k3, k4⟩ | ⟨w1, w2, w3, w4⟩
  · obtain ⟨q, fr⟩ := F c as
    have D := hd c as
    have eD : oD t c = oD s c := k1 _ (by decide)
    have eU : oU t c = oU s c := k1 _ (by decide)
    have end_ : ∀ j, 0 ≤ j → j < oD s c → fEnd t c j = fEnd s c j := fun j j0 j1 => by
      unfold fEnd
      rw [eD, eU]
      by_cases z : j.toInt + 1 < (oD s c).toInt
      · rw [if_pos z, if_pos z]
        unfold fBs
        rw [i32_le] at j0
        have ej : (j + 1).toInt = j.toInt + 1 := by rw [ktI_add] <;> omega
        rw [k2 19459 (j + 1) (by decide) (by rw [i32_le]; omega) (by rw [i32_lt]; omega)]
      · rw [if_neg z, if_neg z]
    refine ⟨?_, fun j j0 j1 => ?_⟩
    · unfold qTc at q ⊢
      rw [k1 18951 (by decide), k1 18952 (by decide), eD, eU, h.2.1]
      refine ⟨q.1, q.2.1, fun z y0 => ⟨(q.2.2.1 z y0).1, ?_⟩, q.2.2.2.1, q.2.2.2.2.1, fun y m => ?_⟩
      · have w := q.2.2.1 z y0
        have em : (oD s c - 1).toInt = (oD s c).toInt - 1 := by rw [ktI_sub] <;> omega
        rw [show fWh t (c * 200 + (oD s c - 1)) = fWh s (c * 200 + (oD s c - 1)) from k2 _ _ (by decide) (by rw [i32_le]; omega) (by rw [i32_lt]; omega)]
        exact w.2
      · rw [(k4 y m).2]
        exact q.2.2.2.2.2 y (k4 y m).1
    · rw [eD] at j1
      have j200 : j < 200 := by
        rw [i32_lt] at j1 ⊢
        omega
      have g : ∀ f, f / 128 = 152 → gI t f (c * 200 + j) = gI s f (c * 200 + j) := fun f hf => k2 f j hf j0 j200
      have w := fr j j0 j1
      have wt : qWt t (c * 200 + j) ↔ qWt s (c * 200 + j) := h.1.wt (g _ (by decide)) (g _ (by decide)) (g _ (by decide))
      unfold qF
      rw [show fWh t (c * 200 + j) = fWh s (c * 200 + j) from g _ (by decide), show fPr t (c * 200 + j) = fPr s (c * 200 + j) from g _ (by decide), show mFn t (c * 200 + j) = mFn s (c * 200 + j) from g _ (by decide), end_ j j0 j1, wt, eD, h.2.1]
      unfold fBs fEx pNr
      rw [g 19459 (by decide), g 19460 (by decide), h.1.1 18434 _ (.inl (by decide))]
      refine ⟨w.1, w.2.1, w.2.2.1, fun z => ?_⟩
      have v := w.2.2.2 z
      have l := k3 j j0 j1 z v.1.1
      exact ⟨⟨l.1, l.2.trans v.1.2⟩, v.2⟩
  · refine ⟨?_, fun j j0 j1 => ?_⟩
    · unfold qTc
      rw [w1, w2, w3]
      exact ⟨by decide, fun z => absurd z (by decide), fun z => absurd z (by decide), fun _ => ⟨rfl, rfl⟩, fun _ => rfl, fun y m => absurd m (w4 y)⟩
    · rw [w2] at j1
      rw [i32_le] at j0
      rw [i32_lt] at j1
      omega
theorem cHI.dep {s : S1} (H : cHI s) {c : Int32} (a : cAv s c) : cCo (cLv false s) s c ∧ (0 ≤ (oD s c).toInt ∧ (oD s c).toInt ≤ 200) ∧ 0 ≤ (oU s c).toInt ∧ (oU s c).toInt ≤ 4000 := by
  have w := H.2.2.2.2.1.1 c a.1 a.2
  have v := ((H.2.1 _ w.1.1.1 w.1.1.2).2.1.2.2.2.1 w.1.2.1).2.2
  rw [w.2.1] at v
  have d := v.2.2.1.1
  have u := v.2.1.1
  rw [i32_le, i32_le] at d u
  exact ⟨v, d, u⟩
