/-! The class: a variable of a register. -/
theorem cHI.opv {x c : Int32} {s t : S1} (H : cHI s) (ha : cAd x (-1) s t) (hnw : cNw x s t) (ex : cTy t x = 8) (n4 : (cTl s 4).toInt ≤ (cTl t 4).toInt)
    (ox : cSy t x = 0 ∧ 0 ≤ (cNu t x).toInt ∧ (cNu t x).toInt < (cTl t 4).toInt) (t6 : cTl t 6 = cTl s 6) (t11 : cTl t 11 = cTl s 11) (fc : 0 ≤ cFc t ∧ (cTl t 3).toInt + (cFc t).toInt = (cN t).toInt) (fr : ∀ i, cFr t i = cFr s i) (fi : ∀ i, 0 ≤ i → i < cFc t → i < cFc s ∧ cFr s i ≠ x)
    (bk : ∀ i, cBk t i = cBk s i) (hc : pC s c) (hs : 0 ≤ oSl s c) (lk : cLk t x = c) (pr : 0 ≤ cPl t x ∧ cPl t x < 4000) (hv : cV (cLv false s) (oRk s c (cPl t x)) (oRv s c (cPl t x)))
    (nx : ∀ y, y ≠ x → (cLv false s y 4 ∨ ∃ c', c' ≠ c ∧ cOp s c' y) → cNx t y = cNx s y) (no : ∀ c', c' ≠ -1 → c' ≠ c → oNo t c' = oNo s c')
    (cn : Ls (fun y => cOp s c y ∨ y = x) (fun y => (cPl t y).toInt) (cNx t) (oNo t c)) : cHI t := by
  have nc : ∀ c, pC s c ∨ pC t c → c ≠ -1 := fun c p z => by
    subst z
    rcases p with p | p
    · exact absurd p.1.1 (by decide)
    · exact absurd p.1.1 (by decide)
  have c1 := nc c (.inl hc)
  have et : ∀ y, y ≠ x → cTy t y = cTy s y := fun y q => ha.I _ _ (by decide) (.inl q)
  have lv := fun {y u} (u0 : u ≠ 0) => hnw.lv H.1 (by decide) ex et (y := y) (u := u) u0
  have up : ∀ y u, u ≠ 0 → cLv false s y u → cLv false t y u := fun y u u0 l => (lv u0).2 (.inl ⟨l, hnw.old l u0⟩)
  have epc : ∀ c, pC t c ↔ pC s c := fun c => by
    by_cases q : c = -1
    · subst q
      exact ⟨fun w => absurd rfl (nc _ (.inr w)), fun w => absurd rfl (nc _ (.inl w))⟩
    · unfold pC
      rw [ha.C _ _ (.inl rfl) q]
  have esl : ∀ c, c ≠ -1 → oSl t c = oSl s c := fun c q => ha.C _ _ (.inr (.inr (.inr rfl))) q
  have th := ha.th H (fun p => absurd rfl (nc _ (.inl p))) hnw ⟨by decide, by decide⟩ ex n4 ⟨cPv.of8 ex (.inr (by
    rw [lk]
    refine ⟨(epc c).2 hc, pr, ?_⟩
    rw [show oRk t c (cPl t x) = oRk s c (cPl t x) from ha.K _ _ c1, show oRv t c (cPl t x) = oRv s c (cPl t x) from ha.V _ _ c1]
    exact hv.up up)), fun z => absurd (ex.symm.trans z) (by decide), ox⟩
  have lv4 : ∀ y, cLv false t y 4 ↔ cLv false s y 4 := fun y => by
    rw [lv (by decide)]
    exact ⟨fun w => w.elim (fun w => w.1) (fun w => absurd w.2 (by decide)), fun w => .inl ⟨w, hnw.old w (by decide)⟩⟩
  have lv7 : ∀ y, cLv false t y 7 ↔ cLv false s y 7 := fun y => by
    rw [lv (by decide)]
    exact ⟨fun w => w.elim (fun w => w.1) (fun w => absurd w.2 (by decide)), fun w => .inl ⟨w, hnw.old w (by decide)⟩⟩
  have mem : ∀ c' y, cOp t c' y ↔ cOp s c' y ∨ (y = x ∧ c' = c) := fun c' y => by
    unfold cOp
    rw [lv (by decide)]
    constructor
    · rintro ⟨w | w, v⟩
      · exact .inl ⟨w.1, by rw [← show cLk t y = cLk s y from ha.I _ _ (by decide) (.inl w.2)]; exact v⟩
      · exact .inr ⟨w.1, by rw [← v, w.1]; exact lk⟩
    · rintro (⟨w, v⟩ | w)
      · have q := hnw.old w (by decide)
        exact ⟨.inl ⟨w, q⟩, by rw [show cLk t y = cLk s y from ha.I _ _ (by decide) (.inl q)]; exact v⟩
      · exact ⟨.inr ⟨w.1, rfl⟩, by rw [w.1, w.2]; exact lk⟩
  refine ⟨th.1, th.2, ?_, hnw.fl (T := 8) H.2.2.2.1 et fc fr fi, ⟨fun c' p l => ?_, fun y w l => ?_, ?_⟩, ?_⟩
  · refine H.2.2.1.congr lv4 (fun y w => ?_) (fun y w => ?_) (fun y w => nx y (hnw.old w (by decide)) (.inl w)) bk
    · exact ha.I _ _ (by decide) (.inl (hnw.old w (by decide)))
    · exact ha.I _ _ (by decide) (.inl (hnw.old w (by decide)))
  · have cc := nc c' (.inr p)
    rw [esl c' cc] at l ⊢
    have p' := (epc c').1 p
    obtain ⟨w1, w2, w3, w4⟩ := H.2.2.2.2.1.1 c' p' l
    have q := hnw.old w1 (by decide)
    refine ⟨(lv7 _).2 w1, ?_, ?_, fun y m => ?_⟩
    · rw [show cLk t (oSl s c') = cLk s (oSl s c') from ha.I _ _ (by decide) (.inl q)]
      exact w2
    · by_cases z : c' = c
      · subst z
        refine cn.congr (fun y => ?_) (fun _ _ => rfl) (fun _ _ => rfl) rfl
        rw [mem]
        exact ⟨fun w => w.imp id (fun w => w.1), fun w => w.imp id (fun w => ⟨w, rfl⟩)⟩
      · refine w3.congr (fun y => ?_) (fun y m => ?_) (fun y m => nx y (hnw.old m.1 (by decide)) (.inr ⟨c', z, m⟩)) (no c' cc z)
        · rw [mem]
          exact ⟨fun w => w.elim id (fun w => absurd w.2 z), fun w => .inl w⟩
        · rw [show cPl t y = cPl s y from ha.I _ _ (by decide) (.inl (hnw.old m.1 (by decide)))]
    · rcases (mem c' y).1 m with m' | m'
      · rw [show cPl t y = cPl s y from ha.I _ _ (by decide) (.inl (hnw.old m'.1 (by decide)))]
        exact w4 y m'
      · rw [m'.1]
        exact pr
  · rcases (lv (by decide)).1 w with v | v
    · have e : cLk t y = cLk s y := ha.I _ _ (by decide) (.inl v.2)
      rw [e] at l ⊢
      have z := H.2.2.2.2.1.2.1 y v.1 l
      refine ⟨(epc _).2 z.1, ?_⟩
      rw [esl _ (nc _ (.inl z.1))]
      exact z.2
    · rw [v.1, lk, esl c c1]
      exact ⟨(epc c).2 hc, hs⟩
  · rw [t11, H.2.2.2.2.1.2.2]
    unfold cCm
    congr 1
    refine List.countP_congr (fun i hi => ?_)
    have hi' := List.mem_range.1 hi
    have q : Int32.ofNat i ≠ -1 := fun z => by
      have := Int32.toInt_ofNat_of_lt (n := i) (by omega)
      rw [z] at this
      have e : (-1 : Int32).toInt = -1 := rfl
      omega
    rw [esl _ q, ha.C 19071 _ (.inl rfl) q]
  · obtain ⟨S, W, p1, p2, p3, p4, p5, p6, p7⟩ := H.2.2.2.2.2
    have eo : ∀ p, cOw t p = cOw s p := fun p => ha.A _ _ (.inr (.inr (.inr (.inr rfl))))
    have esz : ∀ p, S p → sz t p = sz s p := fun p sp => by
      unfold sz
      rw [eo]
      by_cases q : cOw s p < 0
      · rw [if_pos q, if_pos q]
      · rw [if_neg q, if_neg q]
        have w := (p3 p sp).2.2 (by clear H ha hnw th lv lv7 p3 cn nx no; grind)
        rw [show cR t (cOw s p) = cR s (cOw s p) from ha.I _ _ (by decide) (.inl (hnw.old w.1 (by decide)))]
    refine ⟨S, W, ?_⟩
    unfold cPoW
    rw [ha.top, t6]
    refine ⟨p1, p2, fun p sp => ?_, fun p q sp sq l => ?_, fun y w r => ?_, p6, p7⟩
    · rw [esz p sp, eo]
      obtain ⟨a1, a2, a3⟩ := p3 p sp
      refine ⟨a1, a2, fun o => ?_⟩
      have w := a3 o
      have q := hnw.old w.1 (by decide)
      exact ⟨(lv (by decide)).2 (.inl ⟨w.1, q⟩), (ha.I _ _ (by decide) (.inl q)).trans w.2⟩
    · rw [esz p sp]
      exact p4 p q sp sq l
    · rcases (lv (by decide)).1 w with v | v
      · have e1 : cR t y = cR s y := ha.I _ _ (by decide) (.inl v.2)
        have e2 : cS0 t y = cS0 s y := ha.I _ _ (by decide) (.inl v.2)
        rw [e1] at r
        rw [e2, eo]
        exact p5 y v.1 r
      · exact absurd v.2 (by decide)
