/-! The class: between two calls. -/
/-- what the heap and the machine read stays -/
def Be (s t : S1) : Prop := (∀ f j, 12802 ≤ f ∧ f ≠ 14220 → gI t f j = gI s f j) ∧ (∀ f j, 12800 ≤ f → gL t f j = gL s f j) ∧ (∀ a j k, 100 ≤ a ∧ a ≠ 108 → gA t a j k = gA s a j k) ∧ ∀ a j k, 100 ≤ a → gB t a j k = gB s a j k
theorem Be.refl (s : S1) : Be s s := ⟨fun _ _ _ => rfl, fun _ _ _ => rfl, fun _ _ _ _ => rfl, fun _ _ _ _ => rfl⟩
theorem Be.trans {s t u : S1} (a : Be s t) (b : Be t u) : Be s u := ⟨fun f j q => (b.1 f j q).trans (a.1 f j q), fun f j q => (b.2.1 f j q).trans (a.2.1 f j q), fun f j k q => (b.2.2.1 f j k q).trans (a.2.2.1 f j k q), fun f j k q => (b.2.2.2 f j k q).trans (a.2.2.2 f j k q)⟩
def lmR (s : S1) : Prop := 200 ≤ (gI s 14220 0).toInt ∧ (gI s 14220 0).toInt ≤ 4000
theorem Be.ro {s t : S1} {n e : Nat × Nat} (h : Be s t) (lm : lmR t) (R : cRo s n e) : cRo t n e := by
  obtain ⟨al, a, b, c, hw, r⟩ := R
  have T : ∀ j, cTl t j = cTl s j := fun j => h.2.2.1 _ _ _ (by decide)
  have l : gI t 15230 0 = gI s 15230 0 := h.1 _ _ (by decide)
  refine ⟨?_, a, b, c, ?_, ?_⟩
  · unfold cAl at al ⊢
    rw [T, T, T, T, l]
    exact ⟨al.1, al.2.1, al.2.2.1, al.2.2.2.1, lm⟩
  · unfold cHw at hw ⊢
    simp only [h.1 18687 _ (by decide), h.1 18559 _ (by decide), h.1 19071 _ (by decide), h.1 18815 _ (by decide), h.1 18943 _ (by decide), h.1 18942 _ (by decide), h.1 18814 _ (by decide)]
    exact hw
  · unfold cNd at r ⊢
    rw [T, T, T, l]
    exact r
theorem Be.sf {s t : S1} (h : Be s t) (S : cSf s) : cSf t := S.congr (fun f j q => h.1 f j (by unfold sfI at q; omega))
theorem Be.bz {s t : S1} {n : Nat × Nat} (h : Be s t) (lm : lmR t) (b : Bz s n) : Bz t n := ⟨h.ro lm b.1, h.sf b.2⟩
theorem Be.lv {s t : S1} (h : Be s t) : cLv false t = cLv false s := by
  funext y u
  rw [cLv_f, cLv_f, show cN t = cN s from h.1 _ _ (by decide), show cTy t y = cTy s y from h.1 _ _ (by decide)]
theorem Be.w {s t : S1} {n : Nat × Nat} {τ : Bool} (h : Be s t) (lm : lmR t) (W : cW s n) (F : qFr τ s) : cW t n ∧ qFr τ t := by
  have lv' := h.lv
  have R := h.ro lm W.ro
  have S := h.sf W.sf
  obtain ⟨I, L, A, B⟩ := h
  have cur : mCur t = mCur s := I _ _ (by decide)
  have Hi : cHI t := W.hi.sm ⟨fun f j q _ _ => I f j (by unfold hpI at q; omega), fun f j q _ _ => L f j (by unfold hpL at q; omega), fun a j k q _ => A a j k (by unfold hpA at q; omega), fun a j k q _ => B a j k (by unfold hpB at q; omega)⟩
  have pk : cPk s t := ⟨fun f j q => I f j (by omega), fun a j k q => A a j k (by omega)⟩
  have rn : cRn t := by
    obtain ⟨m0, ρ, hl⟩ := W.rt.2.1
    refine ⟨by rw [cur]; exact m0, ρ, hl.congr (fun d => ?_) (fun _ _ => rfl) (fun d _ => I _ _ (by decide)) cur⟩
    unfold cMb pC
    rw [I 19071 d (by decide), show oSl t d = oSl s d from I _ _ (by decide), cur, I 18951 d (by decide)]
  have kp : cKp s t := by
    refine ⟨pk, cur, fun c a => .inl ⟨⟨⟨a.1.1, (I 19071 c (by decide)).symm.trans a.1.2⟩, by rw [← show oSl t c = oSl s c from I _ _ (by decide)]; exact a.2⟩, fun f q => I f c (by omega), fun f j q _ _ => I f _ (by omega), fun j _ _ _ l => ⟨by rw [lv']; exact l, I _ _ (by decide)⟩, fun y o => ?_⟩⟩
    unfold cOp at o ⊢
    rw [lv', show cLk t y = cLk s y from I _ _ (by decide)] at o
    exact ⟨o, I _ _ (by decide)⟩
  refine ⟨⟨Hi, W.rt.up2 (fun y u _ l => by rw [lv']; exact l) rn (fun f q => I f 0 (by omega)) (fun a j k q => A a j k (by unfold rtA at q; omega)) (fun a j k q => B a j k (by unfold rtB at q; omega)) (fun y _ => I _ _ (by decide)), (I _ _ (by decide)).trans W.ld, S, R, pk.pg W.pg, fun x l => ?_⟩, kp.fr F W.dd⟩
  rw [show cLk t x = cLk s x from I _ _ (by decide)]
  unfold nPr
  rw [I 12937 _ (by decide)]
  rw [lv'] at l
  exact W.kl x l
theorem Be.rz {s t : S1} {n : Nat × Nat} (h : Be s t) (lm : lmR t) (r : Rz s n) : Rz t n := by
  obtain ⟨r, o⟩ := r
  have I := h.1
  have o' : outR t := by
    unfold outR at o ⊢
    rw [I 16641 _ (by decide)]
    exact o
  refine ⟨?_, o'⟩
  rcases r with r | r
  · left
    obtain ⟨W, F, r1, r2, r3, r4, r5, r6⟩ := r
    obtain ⟨W', F'⟩ := h.w lm W F
    have cur : mCur t = mCur s := I _ _ (by decide)
    have dep : ∀ c, oD t c = oD s c := fun c => I _ _ (by decide)
    have eF : tF t = tF s := by
      unfold tF
      rw [cur, dep]
    have ePr : ∀ f, fPr t f = fPr s f := fun f => I _ _ (by decide)
    have eNi : ∀ p, pNi t p = pNi s p := fun p => by unfold pNi; rw [I _ _ (by decide)]
    have eNr : ∀ p, pNr t p = pNr s p := fun p => by unfold pNr; rw [I _ _ (by decide)]
    have eW : ∀ p i, dW t p i = dW s p i := fun p i => by unfold dW; rw [I 18440 _ (by decide), h.2.2.1 104 _ _ (by decide)]
    refine ⟨W', F', ?_, ?_, ?_, ?_, ?_, ?_⟩
    · rw [cur, I _ _ (by decide)]
      exact r1
    · rw [I _ _ (by decide)]
      exact r2
    · rw [cur, dep]
      exact r3
    · rw [eF, show fWh t (tF s) = fWh s (tF s) from I _ _ (by decide)]
      exact r4
    · rw [eF, ePr, eNi, I 19461 _ (by decide)]
      exact r5
    · rw [eF, ePr, eNr, eW, I 19461 _ (by decide), I 16390 _ (by decide)]
      exact r6
  · right
    obtain ⟨W, F, r1, r2⟩ := r
    obtain ⟨W', F'⟩ := h.w lm W F
    refine ⟨W', F', ?_, ?_⟩
    · rw [I _ _ (by decide)]
      exact r1
    · rw [I _ _ (by decide)]
      exact r2
theorem Rz.w {s : S1} {n : Nat × Nat} (h : Rz s n) : cW s n := by
  rcases h.1 with r | r
  · exact r.1
  · exact r.1
/-- the class between two calls -/
def Fz (s : S1) (n : Nat × Nat) : Prop := (0 ≤ (gI s 12800 0).toInt ∧ (gI s 12800 0).toInt ≤ 65536) ∧ Bz s n ∧ (gI s 12801 0 ≠ 0 → Rz s n)
theorem Fz.lm {s : S1} {n : Nat × Nat} (h : Fz s n) : lmR s := h.2.1.1.1.2.2.2.2
theorem Fz.be {s t : S1} {n : Nat × Nat} (h : Fz s n) (b : Be s t) (lm : lmR t) (tl : 0 ≤ (gI t 12800 0).toInt ∧ (gI t 12800 0).toInt ≤ 65536) (ld : gI t 12801 0 ≠ 0 → gI s 12801 0 ≠ 0) : Fz t n := ⟨tl, b.bz lm h.2.1, fun z => b.rz lm (h.2.2 (ld z))⟩
/-! The face with its throwing roads: inl is a throw (1 IllegalState, 2 IllegalArgument, 3 UnsupportedOperation, 4 IndexOutOfBounds). -/
