/-! The class: the world of a running program; light writes. -/
def cW (s : S1) (n : Nat × Nat) : Prop := cHI s ∧ cRt s ∧ gI s 14221 0 = 0 ∧ cSf s ∧ cRo s n (0, 0) ∧ dPg s ∧ qKl s
theorem cW.hi {s : S1} {n : Nat × Nat} (h : cW s n) : cHI s := h.1
theorem cW.rt {s : S1} {n : Nat × Nat} (h : cW s n) : cRt s := h.2.1
theorem cW.ld {s : S1} {n : Nat × Nat} (h : cW s n) : gI s 14221 0 = 0 := h.2.2.1
theorem cW.sf {s : S1} {n : Nat × Nat} (h : cW s n) : cSf s := h.2.2.2.1
theorem cW.ro {s : S1} {n : Nat × Nat} (h : cW s n) : cRo s n (0, 0) := h.2.2.2.2.1
theorem cW.pg {s : S1} {n : Nat × Nat} (h : cW s n) : dPg s := h.2.2.2.2.2.1
theorem cW.kl {s : S1} {n : Nat × Nat} (h : cW s n) : qKl s := h.2.2.2.2.2.2
theorem cW.hr {s : S1} {n : Nat × Nat} (h : cW s n) : cHR s := ⟨h.1, fun _ => h.2.1⟩
theorem cW.cur {s : S1} {n : Nat × Nat} (h : cW s n) : cAv s (mCur s) := by
  obtain ⟨m0, ρ, hl⟩ := h.rt.2.1
  have := hl.1 m0
  exact ⟨this.1, this.2.1⟩
theorem cW.args {s : S1} {n : Nat × Nat} (h : cW s n) : cRow (cLv false s) s 132 := h.rt.2.2.2.2.1
theorem cW.opn {s : S1} {n : Nat × Nat} (h : cW s n) : cRow (cLv false s) s 138 := h.rt.2.2.2.1
theorem cW.last {s : S1} {n : Nat × Nat} (h : cW s n) : cRow (cLv false s) s 141 := h.rt.2.2.1
def tF (s : S1) : Int32 := mCur s * 200 + (oD s (mCur s) - 1)
/-- the newest frame of the running coroutine -/
def tQ (s : S1) (j : Int32) : Prop := 1 ≤ (oD s (mCur s)).toInt ∧ j = tF s
def lwX (f : Nat) : Prop := f = 16390 ∨ f = 16392 ∨ f = 16393 ∨ f = 16396 ∨ f = 16397 ∨ f = 16399 ∨ f = 16401 ∨ f = 16898 ∨ f = 17282 ∨ f = 17666 ∨ f = 18050 ∨ f = 18575 ∨ f = 19461 ∨ f = 19462 ∨ f = 19464
/-- the running coroutine's registers, its newest frame's place, rows, what the machine has in hand -/
def lw (b : Bool) (s t : S1) : Prop :=
  (∀ f j, ¬ lwX f → gI t f j = gI s f j) ∧ (∀ j, b = true ∨ ¬ tQ s j → gI t 19461 j = gI s 19461 j ∧ gI t 19464 j = gI s 19464 j) ∧ (∀ j, ¬ tQ s j → gI t 19462 j = gI s 19462 j ∧ gL t 19463 j = gL s 19463 j) ∧
  (∀ f j, f ≠ 16398 ∧ f ≠ 16400 ∧ f ≠ 19463 → gL t f j = gL s f j) ∧
  (∀ a j k, a ≠ 133 ∧ a ≠ 136 ∧ a ≠ 139 ∧ a ≠ 142 ∧ a ≠ 149 → gA t a j k = gA s a j k) ∧ (∀ j k, j ≠ mCur s → gA t 149 j k = gA s 149 j k) ∧
  (∀ a j k, a ≠ 134 ∧ a ≠ 137 ∧ a ≠ 140 ∧ a ≠ 143 ∧ a ≠ 150 → gB t a j k = gB s a j k) ∧ ∀ j k, j ≠ mCur s → gB t 150 j k = gB s 150 j k
theorem lw.i {b : Bool} {s t : S1} (h : lw b s t) (f : Nat) (hf : ¬ lwX f) (j : Int32) : gI t f j = gI s f j := h.1 f j hf
theorem lw.cur {b : Bool} {s t : S1} (h : lw b s t) : mCur t = mCur s := h.i _ (by unfold lwX; decide) _
theorem lw.dep {b : Bool} {s t : S1} (h : lw b s t) (c : Int32) : oD t c = oD s c := h.i _ (by unfold lwX; decide) _
theorem lw.usd {b : Bool} {s t : S1} (h : lw b s t) (c : Int32) : oU t c = oU s c := h.i _ (by unfold lwX; decide) _
theorem lw.etF {b : Bool} {s t : S1} (h : lw b s t) : tF t = tF s := by
  unfold tF
  rw [h.cur, h.dep]
theorem lw.etQ {b : Bool} {s t : S1} (h : lw b s t) {j : Int32} : tQ t j ↔ tQ s j := by
  unfold tQ
  rw [h.etF, h.cur, h.dep]
theorem lw.refl (b : Bool) (s : S1) : lw b s s := ⟨fun _ _ _ => rfl, fun _ _ => ⟨rfl, rfl⟩, fun _ _ => ⟨rfl, rfl⟩, fun _ _ _ => rfl, fun _ _ _ _ => rfl, fun _ _ _ => rfl, fun _ _ _ _ => rfl, fun _ _ _ => rfl⟩
theorem lw.trans {b : Bool} {s t u : S1} (h : lw b s t) (k : lw b t u) : lw b s u := by
  have e := fun j => h.etQ (j := j)
  have c := h.cur
  obtain ⟨h1, h2, h3, h4, h5, h6, h7, h8⟩ := h
  obtain ⟨k1, k2, k3, k4, k5, k6, k7, k8⟩ := k
  rw [c] at k6 k8
  exact ⟨fun f j q => (k1 f j q).trans (h1 f j q), fun j q => ⟨(k2 j (q.imp id (fun z w => z ((e j).1 w)))).1.trans (h2 j q).1, (k2 j (q.imp id (fun z w => z ((e j).1 w)))).2.trans (h2 j q).2⟩, fun j q => ⟨(k3 j (fun w => q ((e j).1 w))).1.trans (h3 j q).1, (k3 j (fun w => q ((e j).1 w))).2.trans (h3 j q).2⟩, fun f j q => (k4 f j q).trans (h4 f j q), fun a j k q => (k5 a j k q).trans (h5 a j k q), fun j k q => (k6 j k q).trans (h6 j k q), fun a j k q => (k7 a j k q).trans (h7 a j k q), fun j k q => (k8 j k q).trans (h8 j k q)⟩
theorem lw.weak {b : Bool} {s t : S1} (h : lw b s t) : lw false s t := ⟨h.1, fun j q => h.2.1 j (q.elim (fun z => absurd z (by decide)) .inr), h.2.2⟩
theorem lw.lv {b : Bool} {s t : S1} (h : lw b s t) {y u : Int32} : cLv false t y u ↔ cLv false s y u := by
  rw [cLv_f, cLv_f, show cN t = cN s from h.i _ (by unfold lwX; decide) _, show cTy t y = cTy s y from h.i _ (by unfold lwX; decide) _]
theorem lw.lv' {b : Bool} {s t : S1} (h : lw b s t) : cLv false t = cLv false s := by
  funext y u
  exact propext h.lv
theorem lw.pk {b : Bool} {s t : S1} (h : lw b s t) : cPk s t := by
  refine ⟨fun f j q => h.1 f j ?_, fun a j k q => h.2.2.2.2.1 a j k ?_⟩
  · unfold lwX
    omega
  · omega
theorem lw.ro {b : Bool} {s t : S1} (h : lw b s t) {n e : Nat × Nat} (R : cRo s n e) : cRo t n e := cRo.fi (x := 0) R (fun f j q => h.1 f j (by unfold lwX; omega)) (fun j _ => h.2.2.2.2.1 _ _ _ (by decide))
theorem lw.sf {b : Bool} {s t : S1} (h : lw b s t) (S : cSf s) : cSf t := S.congr (fun f j q => h.1 f j (by unfold sfI at q; unfold lwX; omega))
theorem lw.av {b : Bool} {s t : S1} (h : lw b s t) {c : Int32} : cAv t c ↔ cAv s c := by
  unfold cAv pC
  rw [h.i 19071 (by unfold lwX; decide), show oSl t c = oSl s c from h.i _ (by unfold lwX; decide) _]
theorem lw.op {b : Bool} {s t : S1} (h : lw b s t) {c y : Int32} : cOp t c y ↔ cOp s c y := by
  unfold cOp
  rw [h.lv, show cLk t y = cLk s y from h.i _ (by unfold lwX; decide) _]
/-- what the running coroutine holds is as it should be -/
def rgV (s : S1) : Prop := (∀ i : Int32, 0 ≤ i → i < oU s (mCur s) → cV (cLv false s) (oRk s (mCur s) i) (oRv s (mCur s) i)) ∧ (1 ≤ (oD s (mCur s)).toInt → cV (cLv false s) (mJk s (tF s)) (mJv s (tF s)))
theorem tQ_nfr {s : S1} {j : Int32} (hd : (oD s (mCur s)).toInt ≤ 200) (hc : 0 ≤ mCur s ∧ mCur s < 32) (h : nfr (mCur s) j) : ¬ tQ s j := by
  rintro ⟨a, rfl⟩
  have e0 : (0 : Int32).toInt = 0 := rfl
  have e1 : (1 : Int32).toInt = 1 := rfl
  have e200 : (200 : Int32).toInt = 200 := rfl
  have e : (oD s (mCur s) - 1).toInt = (oD s (mCur s)).toInt - 1 := by rw [ktI_sub] <;> omega
  exact h hc.1 hc.2 (oD s (mCur s) - 1) (by rw [i32_le]; omega) (by rw [i32_lt]; omega) rfl
theorem lw.cw {b : Bool} {s t : S1} (h : lw b s t) (hd : (oD s (mCur s)).toInt ≤ 200) (hc : 0 ≤ mCur s ∧ mCur s < 32) : cCw (mCur s) s t := by
  refine ⟨fun f j q r1 r2 => ?_, fun f j q r1 r2 => ?_, fun a j k q r => ?_, fun a j k q r => ?_⟩
  · by_cases z : f = 19462
    · subst z
      exact (h.2.2.1 j (tQ_nfr hd hc (r2 (.inr rfl)))).1
    · refine h.1 f j ?_
      unfold hpI at q
      unfold lwX
      omega
  · by_cases z : f = 19463
    · subst z
      exact (h.2.2.1 j (tQ_nfr hd hc (r2 rfl))).2
    · refine h.2.2.2.1 f j ?_
      unfold hpL at q
      omega
  · by_cases z : a = 149
    · subst z
      exact h.2.2.2.2.2.1 j k (r rfl)
    · refine h.2.2.2.2.1 a j k ?_
      unfold hpA at q
      omega
  · by_cases z : a = 150
    · subst z
      exact h.2.2.2.2.2.2.2 j k (r rfl)
    · refine h.2.2.2.2.2.2.1 a j k ?_
      unfold hpB at q
      omega
theorem lw.w {b : Bool} {s t : S1} {n : Nat × Nat} (h : lw b s t) (W : cW s n) (F : qFr false s) (rg : rgV t) (ra : cRow (cLv false s) t 132) (ro : cRow (cLv false s) t 138) (rl : cRow (cLv false s) t 141) : cW t n := by
  have H := W.hi
  have ac := W.cur
  obtain ⟨co, dD, dU⟩ := H.dep ac
  have e0 : (0 : Int32).toInt = 0 := rfl
  have cw := h.cw dD.2 ac.1.1
  obtain ⟨rg1, rg2⟩ := rg
  rw [h.cur, h.usd, h.lv'] at rg1
  rw [h.cur, h.dep, h.etF, h.lv'] at rg2
  have Hi : cHI t := by
    refine H.cow cw (fun _ _ => ?_) (fun y _ _ m => ?_)
    · obtain ⟨w1, ⟨w2, w3⟩, ⟨w4, w5⟩, w6⟩ := co
      refine ⟨?_, ⟨by rw [h.usd]; exact w2, fun i a b => ?_⟩, ⟨by rw [h.dep]; exact w4, fun j a b => ?_⟩, fun y l k => h.lv.1 l⟩
      · rw [show oFn t (mCur s) = oFn s (mCur s) from h.2.2.2.1 _ _ (by decide)]
        exact w1
      · rw [h.usd] at b
        exact rg1 i a b
      · rw [h.dep] at b
        have w := w5 j a b
        rw [show mFn t (mCur s * 200 + j) = mFn s (mCur s * 200 + j) from h.i _ (by unfold lwX; decide) _]
        refine ⟨w.1, ?_⟩
        by_cases q : tQ s (mCur s * 200 + j)
        · rw [q.2]
          exact rg2 q.1
        · rw [show mJk t (mCur s * 200 + j) = mJk s (mCur s * 200 + j) from (h.2.2.1 _ q).1, show mJv t (mCur s * 200 + j) = mJv s (mCur s * 200 + j) from (h.2.2.1 _ q).2]
          exact w.2
    · have q := (F (mCur s) ac).1.2.2.2.2.2 y m
      have p := (H.2.2.2.2.1.1 (mCur s) ac.1 ac.2).2.2.2 y m
      exact rg1 (cPl s y) p.1 (by rw [i32_lt]; exact q)
  have eMb : ∀ c, cMb t c ↔ cMb s c := fun c => by
    unfold cMb pC
    rw [h.i 19071 (by unfold lwX; decide), show oSl t c = oSl s c from h.i _ (by unfold lwX; decide) _, h.i 18951 (by unfold lwX; decide), h.cur]
  have rn : cRn t := by
    obtain ⟨m0, ρ, hl⟩ := W.rt.2.1
    exact ⟨by rw [h.cur]; exact m0, ρ, hl.congr eMb (fun _ _ => rfl) (fun c _ => h.i _ (by unfold lwX; decide) _) h.cur⟩
  refine ⟨Hi, ⟨?_, rn, ?_, ?_, ?_, fun i a b => ?_, fun i a b => ?_⟩, ?_, h.sf W.sf, h.ro W.ro, h.pk.pg W.pg, fun x l => ?_⟩
  · rw [h.i 16394 (by unfold lwX; decide), h.lv]
    exact W.rt.1
  · rw [h.lv']
    exact rl
  · rw [h.lv']
    exact ro
  · rw [h.lv']
    exact ra
  · rw [h.2.2.2.2.1 115 0 i (by decide), h.lv, show cSy t (gA s 115 0 i) = cSy s (gA s 115 0 i) from h.i _ (by unfold lwX; decide) _]
    exact W.rt.2.2.2.2.2.1 i a b
  · rw [h.i 12938 (by unfold lwX; decide)] at b
    rw [h.2.2.2.2.1 105 0 i (by decide), h.2.2.2.2.2.2.1 106 0 i (by decide), h.lv, show cSy t (gB s 106 0 i).toInt32 = cSy s (gB s 106 0 i).toInt32 from h.i _ (by unfold lwX; decide) _]
    exact W.rt.2.2.2.2.2.2 i a b
  · rw [h.i 14221 (by unfold lwX; decide)]
    exact W.ld
  · rw [show cLk t x = cLk s x from h.i _ (by unfold lwX; decide) _]
    unfold nPr
    rw [h.i 12937 (by unfold lwX; decide)]
    exact W.kl x (h.lv.1 l)
theorem lw.fr {b τ : Bool} {s t : S1} {n : Nat × Nat} (h : lw b s t) (W : cW s n) (F : qFr τ s) (hb : τ = true → b = true) : qFr τ t := by
  intro c a
  have as := h.av.1 a
  obtain ⟨q, fr⟩ := F c as
  obtain ⟨-, dD, -⟩ := W.hi.dep as
  have e0 : (0 : Int32).toInt = 0 := rfl
  have e1 : (1 : Int32).toInt = 1 := rfl
  have e200 : (200 : Int32).toInt = 200 := rfl
  have g : ∀ f j, f = 19456 ∨ f = 19457 ∨ f = 19458 ∨ f = 19459 ∨ f = 19460 → gI t f j = gI s f j := fun f j z => h.1 f j (by unfold lwX; omega)
  refine ⟨?_, fun j j0 j1 => ?_⟩
  · unfold qTc at q ⊢
    rw [h.i 18951 (by unfold lwX; decide), h.i 18952 (by unfold lwX; decide), h.dep, h.usd, h.cur, show fWh t (c * 200 + (oD s c - 1)) = fWh s (c * 200 + (oD s c - 1)) from g _ _ (by decide)]
    refine ⟨q.1, q.2.1, q.2.2.1, q.2.2.2.1, q.2.2.2.2.1, fun y m => ?_⟩
    rw [show cPl t y = cPl s y from h.i _ (by unfold lwX; decide) _]
    exact q.2.2.2.2.2 y (h.op.1 m)
  · rw [h.dep] at j1
    have w := fr j j0 j1
    have en : fEnd t c j = fEnd s c j := by
      unfold fEnd fBs
      rw [h.dep, h.usd, g 19459 _ (by decide)]
    unfold qF at w ⊢
    rw [show fWh t (c * 200 + j) = fWh s (c * 200 + j) from g _ _ (by decide), show fPr t (c * 200 + j) = fPr s (c * 200 + j) from g _ _ (by decide), show mFn t (c * 200 + j) = mFn s (c * 200 + j) from g _ _ (by decide), en, h.dep, h.cur, h.lv, show cLk t (mFn s (c * 200 + j)) = cLk s (mFn s (c * 200 + j)) from h.i _ (by unfold lwX; decide) _]
    unfold fBs fEx pNr at w ⊢
    rw [g 19459 _ (by decide), g 19460 _ (by decide), h.i 18434 (by unfold lwX; decide)]
    refine ⟨w.1, w.2.1, w.2.2.1, fun z => ⟨(w.2.2.2 z).1, (w.2.2.2 z).2.1, (w.2.2.2 z).2.2.1, fun k => ?_⟩⟩
    have v := (w.2.2.2 z).2.2.2 k
    have nq : b = true ∨ ¬ tQ s (c * 200 + j) := by
      by_cases τt : τ = true
      · exact .inl (hb τt)
      · right
        rintro ⟨o1, o2⟩
        have jj := j1
        rw [i32_lt] at jj
        rw [i32_le] at j0
        have ac := W.cur
        obtain ⟨-, dC, -⟩ := W.hi.dep ac
        have e : (oD s (mCur s) - 1).toInt = (oD s (mCur s)).toInt - 1 := by rw [ktI_sub] <;> omega
        by_cases cc : c = mCur s
        · rw [cc] at k jj
          unfold tF at o2
          rw [cc] at o2
          have := fm_inj1 ac.1.1 ⟨by rw [i32_le]; omega, by rw [i32_lt]; omega⟩ ⟨by rw [i32_le]; omega, by rw [i32_lt]; omega⟩ o2
          rw [this, e] at k
          rcases k with k | k | k
          · omega
          · exact k rfl
          · exact τt k
        · exact fm_ne as.1.1 ac.1.1 ⟨by rw [i32_le]; omega, by rw [i32_lt]; omega⟩ ⟨by rw [i32_le]; omega, by rw [i32_lt]; omega⟩ cc o2
    have p := h.2.1 _ nq
    exact (h.pk.wt p.1 (g _ _ (by decide)) p.2).2 v
