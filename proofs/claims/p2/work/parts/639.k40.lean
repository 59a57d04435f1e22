/-! The class: the world behind a maker, a collection, a table's write. -/
theorem cGc.kp {s t : S1} (g : cGc s t) (Ht : cHI t) : cKp s t := by
  have e0 : (0 : Int32).toInt = 0 := rfl
  have lk := g.2.2.2.2.2.2.2.2.2
  obtain ⟨gI, -, gA, -, -, gT, gK, gS, -⟩ := g
  have lv : ∀ y u, u ≠ 0 → cLv false t y u → cLv false s y u := fun y u u0 l => by
    have e : cN t = cN s := gI _ _ (by decide)
    rw [cLv_f] at l ⊢
    rw [e] at l
    refine ⟨l.1, ?_⟩
    rcases gT y with w | w
    · rw [← w]
      exact l.2
    · rw [w] at l
      exact absurd l.2.symm u0
  refine ⟨⟨fun f j q => gI f j (by omega), fun a j k q => gA a j k (by omega)⟩, gI _ _ (by decide), fun c a => .inl ?_⟩
  have pc : pC s c := ⟨a.1.1, (gI 19071 c (by decide)).symm.trans a.1.2⟩
  have sl : oSl t c = oSl s c := by
    rcases gS c with w | w
    · exact w
    · have := a.2
      rw [w] at this
      exact absurd this (by decide)
  have as : cAv s c := ⟨pc, sl ▸ a.2⟩
  refine ⟨as, fun f q => gI f c (by omega), fun f j q _ _ => gI f _ (by omega), fun j j0 j1 _ l6 => ?_, fun y m => ?_⟩
  · have l0 := l6.1.1
    obtain ⟨co, -, -⟩ := Ht.dep a
    have w := (co.2.2.1.2 j j0 (by rw [show oD t c = oD s c from gI _ _ (by decide)]; exact j1)).1
    rw [show mFn t (c * 200 + j) = mFn s (c * 200 + j) from gI _ _ (by decide)] at w
    refine ⟨?_, gK _ (by rw [l6.2.1]; decide)⟩
    rcases w with w | w | w
    · exact absurd w (by rw [i32_lt]; rw [i32_le] at l0; omega)
    · exact w
    · have := (lv _ _ (by decide) w).2.1
      rw [l6.2.1] at this
      exact absurd this (by decide)
  · have ls := lv y 8 (by decide) m.1
    refine ⟨⟨ls, ?_⟩, gI _ _ (by decide)⟩
    rcases lk y with w | w
    · rw [← w.1]
      exact m.2
    · have := m.2
      rw [w.1] at this
      have c0 := a.1.1.1
      rw [← this] at c0
      exact absurd c0 (by decide)
theorem cKp.refl (s : S1) : cKp s s := ⟨cPk.refl s, rfl, fun c a => .inl ⟨a, fun _ _ => rfl, fun _ _ _ _ _ => rfl, fun _ _ _ _ l => ⟨l, rfl⟩, fun _ m => ⟨m, rfl⟩⟩⟩
theorem cHx.kp {s t : S1} (h : cHx s t) : cKp s t := by
  refine ⟨⟨fun f j q => h.1 f j (by omega), fun a j k q => h.2.2.1 a j k (by omega)⟩, h.I _ (by decide) _, fun c a => .inl ?_⟩
  have as : cAv s c := ⟨⟨a.1.1, (h.I 19071 (by decide) c).symm.trans a.1.2⟩, by rw [← show oSl t c = oSl s c from h.I _ (by decide) _]; exact a.2⟩
  refine ⟨as, fun f q => h.1 f c (by omega), fun f j q _ _ => h.1 f _ (by omega), fun j _ _ _ l6 => ⟨h.lv.2 l6, h.I _ (by decide) _⟩, fun y m => ⟨⟨h.lv.1 m.1, (h.I 18564 (by decide) y).symm.trans m.2⟩, h.I _ (by decide) _⟩⟩
theorem cNt.kp {x T : Int32} {s t : S1} (h : cNt x T s t) (Ht : cHI t) (op : T = 8 → cLk t x < 0) : cKp s t := by
  obtain ⟨n1, n2, nI, -, nA, -, n7⟩ := h
  have e0 : (0 : Int32).toInt = 0 := rfl
  have lk : ∀ y, y ≠ x → cLk t y = cLk s y := fun y q => nI _ _ (by decide) (fun _ => q)
  refine ⟨⟨fun f j q => nI f j (by omega) (fun z => by omega), fun a j k q => nA a j k (by omega) (fun z => by omega)⟩, nI _ _ (by decide) (fun z => absurd z (by decide)), fun c a => ?_⟩
  have g : ∀ f j, 148 ≤ f / 128 ∧ f / 128 ≤ 152 → gI t f j = gI s f j := fun f j q => nI f j (by omega) (fun z => by omega)
  have as : cAv s c := ⟨⟨a.1.1, (g 19071 c (by decide)).symm.trans a.1.2⟩, by rw [← show oSl t c = oSl s c from g _ _ (by decide)]; exact a.2⟩
  refine .inl ⟨as, fun f q => g f c (by omega), fun f j q _ _ => g f _ (by omega), fun j _ _ _ l6 => ?_, fun y m => ?_⟩
  · have w := n2 _ 6 (by decide) l6
    exact ⟨w.1, lk _ w.2⟩
  · by_cases q : y = x
    · exfalso
      have c0 := a.1.1.1
      rw [i32_le] at c0
      rw [q] at m
      have m1 := m.1.2.1
      have w := op (n1.2.1.symm.trans m1)
      rw [m.2, i32_lt] at w
      omega
    · exact ⟨⟨n7 y 8 (by decide) q m.1, (lk y q).symm.trans m.2⟩, nI _ _ (by decide) (fun _ => q)⟩
theorem cNo.kp {x c : Int32} {s t : S1} (h : cNo x s t) (H : cHI s) (oc : cOp t c x) (ol : (cPl t x).toInt < (oU s c).toInt) (F : ∀ d, cAv s d → ∀ y, cOp s d y → (cPl s y).toInt < (oU s d).toInt) (hd : ∀ d, cAv s d → (oD s d).toInt ≤ 200) {τ : Bool} (Fr : qFr τ s) : cPk s t ∧ mCur t = mCur s ∧ qFr τ t := by
  obtain ⟨n1, n2, nI, -, nA, -, n7⟩ := h
  have e0 : (0 : Int32).toInt = 0 := rfl
  have e1 : (1 : Int32).toInt = 1 := rfl
  have e200 : (200 : Int32).toInt = 200 := rfl
  have lk : ∀ y, y ≠ x → cLk t y = cLk s y := fun y q => nI _ _ (by decide) (fun _ => q)
  have g : ∀ f j, 148 ≤ f / 128 ∧ f / 128 ≤ 152 ∧ f ≠ 18954 → gI t f j = gI s f j := fun f j q => nI f j (by omega) (fun z => by omega)
  have pk : cPk s t := ⟨fun f j q => nI f j (by omega) (fun z => by omega), fun a j k q => nA a j k (by omega)⟩
  have cur : mCur t = mCur s := nI _ _ (by decide) (fun z => absurd z (by decide))
  refine ⟨pk, cur, fun d a => ?_⟩
  have as : cAv s d := ⟨⟨a.1.1, (g 19071 d (by decide)).symm.trans a.1.2⟩, by rw [← show oSl t d = oSl s d from g _ _ (by decide)]; exact a.2⟩
  obtain ⟨q, fr⟩ := Fr d as
  have D := hd d as
  have eD : oD t d = oD s d := g _ _ (by decide)
  have eU : oU t d = oU s d := g _ _ (by decide)
  have gg : ∀ f j, f / 128 = 152 → gI t f j = gI s f j := fun f j q => g f j (by omega)
  refine ⟨?_, fun j j0 j1 => ?_⟩
  · unfold qTc at q ⊢
    rw [g 18951 d (by decide), g 18952 d (by decide), eD, eU, cur, show fWh t (d * 200 + (oD s d - 1)) = fWh s (d * 200 + (oD s d - 1)) from gg _ _ (by decide)]
    refine ⟨q.1, q.2.1, q.2.2.1, q.2.2.2.1, q.2.2.2.2.1, fun y m => ?_⟩
    by_cases z : y = x
    · rw [z] at m ⊢
      have : d = c := m.2.symm.trans oc.2
      rw [this]
      exact ol
    · rw [show cPl t y = cPl s y from nI _ _ (by decide) (fun _ => z)]
      exact q.2.2.2.2.2 y ⟨n7 y 8 (by decide) z m.1, (lk y z).symm.trans m.2⟩
  · rw [eD] at j1
    have w := fr j j0 j1
    have en : fEnd t d j = fEnd s d j := by
      unfold fEnd fBs
      rw [eD, eU, gg 19459 _ (by decide)]
    have wt : qWt t (d * 200 + j) ↔ qWt s (d * 200 + j) := pk.wt (gg _ _ (by decide)) (gg _ _ (by decide)) (gg _ _ (by decide))
    unfold qF at w ⊢
    rw [show fWh t (d * 200 + j) = fWh s (d * 200 + j) from gg _ _ (by decide), show fPr t (d * 200 + j) = fPr s (d * 200 + j) from gg _ _ (by decide), show mFn t (d * 200 + j) = mFn s (d * 200 + j) from gg _ _ (by decide), en, wt, eD, cur]
    unfold fBs fEx pNr at w ⊢
    rw [gg 19459 _ (by decide), gg 19460 _ (by decide), pk.1 18434 _ (.inl (by decide))]
    refine ⟨w.1, w.2.1, w.2.2.1, fun z => ?_⟩
    have v := w.2.2.2 z
    have l := n2 _ 6 (by decide) v.1.1
    exact ⟨⟨l.1, (lk _ l.2).trans v.1.2⟩, v.2⟩
theorem cNc.kp {x c : Int32} {v : Int64} {s t : S1} (h : cNc x c s t) (i : cNi x c v s t) (Ht : cHI t) : cKp s t := by
  obtain ⟨n1, n2, nI, -, nA, -, n7⟩ := h
  obtain ⟨hc, hcs, i1, i2, i3, i4, i5, i6, i7, i8, i9, i10⟩ := i
  have e0 : (0 : Int32).toInt = 0 := rfl
  have lk : ∀ y, y ≠ x → cLk t y = cLk s y := fun y q => nI _ _ (by decide) (fun _ => q) (fun z => absurd z (by decide)) (fun z => absurd z (by decide))
  refine ⟨⟨fun f j q => nI f j (by omega) (fun z => by omega) (fun z => by omega) (fun z => by omega), fun a j k q => nA a j k (by omega) (fun z => by omega)⟩, nI _ _ (by decide) (fun z => absurd z (by decide)) (fun z => absurd z (by decide)) (fun z => absurd z (by decide)), fun d a => ?_⟩
  by_cases dc : d = c
  · right
    subst dc
    refine ⟨i6, i3, i4, fun y m => ?_⟩
    have w := (Ht.2.2.2.2.1.1 d a.1 a.2).2.2.1.2.1 y m
    rw [i9] at w
    exact absurd w.1 (by decide)
  · left
    have g : ∀ f, 148 ≤ f / 128 ∧ f / 128 ≤ 151 → gI t f d = gI s f d := fun f q => nI f d (by omega) (fun z => by omega) (fun _ => dc) (fun z => by omega)
    have as : cAv s d := ⟨⟨a.1.1, (g 19071 (by decide)).symm.trans a.1.2⟩, by rw [← show oSl t d = oSl s d from g _ (by decide)]; exact a.2⟩
    refine ⟨as, fun f q => g f (by omega), fun f j q j0 j1 => nI f _ (by omega) (fun z => by omega) (fun z => by omega) (fun _ k a b => fm_ne as.1.1 hc ⟨j0, j1⟩ ⟨a, b⟩ dc), fun j _ _ _ l6 => ?_, fun y m => ?_⟩
    · have w := n2 _ 6 (by decide) l6
      exact ⟨w.1, lk _ w.2⟩
    · have q : y ≠ x := fun z => by
        rw [z] at m
        have := m.1.2.1
        rw [n1.2.1] at this
        exact absurd this (by decide)
      exact ⟨⟨n7 y 8 (by decide) q m.1, (lk y q).symm.trans m.2⟩, nI _ _ (by decide) (fun _ => q) (fun z => absurd z (by decide)) (fun z => absurd z (by decide))⟩
