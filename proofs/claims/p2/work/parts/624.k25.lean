/-! The class: a coroutine more. -/
theorem cCm_add {s t : S1} {c : Int32} (hc : 0 ≤ c ∧ c < 32) (ef : ∀ i, i ≠ c → gI t 19071 i = gI s 19071 i) (e1 : ∀ i, i ≠ c → oSl t i = oSl s i) (h1 : gI t 19071 c = 1) (h2 : 0 ≤ oSl t c) (h3 : gI s 19071 c = 1 → oSl s c < 0) : cCm t = cCm s + 1 := by
  unfold cCm
  have ex := ofNat_clamp hc.1
  have lx : c.toNatClampNeg < 32 := clamp_ltN (n := 32) hc.2 (by decide)
  rw [kcountP_one (fun n => decide (gI s 19071 (Int32.ofNat n) = 1 ∧ 0 ≤ oSl s (Int32.ofNat n))) (fun n => decide (gI t 19071 (Int32.ofNat n) = 1 ∧ 0 ≤ oSl t (Int32.ofNat n))) c.toNatClampNeg ?_ ?_ 32 ?_, if_pos lx]
  · simp only [ex, decide_eq_false_iff_not]
    rintro ⟨w1, w⟩
    have := h3 w1
    exact absurd w (by grind)
  · simp only [ex, decide_eq_true_eq]
    exact ⟨h1, h2⟩
  · intro i hi ne
    have : Int32.ofNat i ≠ c := fun q => ne (by
      rw [← q]
      have := Int32.toInt_ofNat_of_lt (n := i) (by omega)
      unfold Int32.toNatClampNeg
      omega)
    simp only [ef _ this, e1 _ this]
theorem cHI.cor {x c : Int32} {s t : S1} (H : cHI s) (ha : cAd x c s t) (hc : 0 ≤ c ∧ c < 32) (hcs : pC s c → oSl s c < 0) (hnw : cNw x s t) (ex : cTy t x = 7) (n4 : (cTl s 4).toInt ≤ (cTl t 4).toInt)
    (ox : cCo (cLv false t) t c ∧ cSy t x = 0 ∧ 0 ≤ (cNu t x).toInt ∧ (cNu t x).toInt < (cTl t 4).toInt) (pt : gI t 19071 c = 1) (sl : oSl t c = x) (lk : cLk t x = c) (noc : oNo t c = -1) (t6 : cTl t 6 = cTl s 6) (t11 : (cTl t 11).toInt = (cTl s 11).toInt + 1) (fc : 0 ≤ cFc t ∧ (cTl t 3).toInt + (cFc t).toInt = (cN t).toInt) (fr : ∀ i, cFr t i = cFr s i) (fi : ∀ i, 0 ≤ i → i < cFc t → i < cFc s ∧ cFr s i ≠ x)
    (bk : ∀ i, cBk t i = cBk s i) (nx : ∀ y, y ≠ x → cNx t y = cNx s y) (no : ∀ d, d ≠ c → oNo t d = oNo s d) : cHI t := by
  have et : ∀ y, y ≠ x → cTy t y = cTy s y := fun y q => ha.I _ _ (by decide) (.inl q)
  have lv := fun {y u} (u0 : u ≠ 0) => hnw.lv H.1 (by decide) ex et (y := y) (u := u) u0
  have ne : ∀ u, u ≠ 7 → u ≠ 0 → ∀ y, cLv false t y u ↔ cLv false s y u := fun u u7 u0 y => by
    rw [lv u0]
    exact ⟨fun w => w.elim (fun w => w.1) (fun w => absurd w.2 u7), fun w => .inl ⟨w, hnw.old w u0⟩⟩
  have pct : pC t c := ⟨hc, pt⟩
  have th := ha.th H hcs hnw ⟨by decide, by decide⟩ ex n4 ⟨cPv.of7 ex (by rw [lk]; exact ⟨pct, sl, ox.1⟩), fun z => absurd (ex.symm.trans z) (by decide), ox.2⟩
  have epc : ∀ d, d ≠ c → (pC t d ↔ pC s d) := fun d q => by
    unfold pC
    rw [ha.C _ _ (.inl rfl) q]
  have esl : ∀ d, d ≠ c → oSl t d = oSl s d := fun d q => ha.C _ _ (.inr (.inr (.inr rfl))) q
  have nol : ∀ y, cLv false s y 8 → cLk s y ≠ c := fun y w z => by
    have v := H.2.2.2.2.1.2.1 y w (by rw [z]; exact hc.1)
    rw [z] at v
    have := hcs v.1
    exact absurd v.2 (by clear H ha hnw th lv ox; grind)
  have mem : ∀ d y, cOp t d y ↔ cOp s d y := fun d y => by
    unfold cOp
    rw [ne 8 (by decide) (by decide)]
    refine and_congr_right (fun w => ?_)
    rw [show cLk t y = cLk s y from ha.I _ _ (by decide) (.inl (hnw.old w (by decide)))]
  have x0 : 0 ≤ x := hnw.2.1.1.1
  refine ⟨th.1, th.2, H.2.2.1.congr (ne 4 (by decide) (by decide)) (fun y w => ?_) (fun y w => ?_) (fun y w => nx y (hnw.old w (by decide))) bk, hnw.fl (T := 7) H.2.2.2.1 et fc fr fi, ⟨fun d p l => ?_, fun y w l => ?_, ?_⟩, ?_⟩
  · exact ha.I _ _ (by decide) (.inl (hnw.old w (by decide)))
  · exact ha.I _ _ (by decide) (.inl (hnw.old w (by decide)))
  · by_cases q : d = c
    · subst q
      rw [sl]
      have em : ∀ y, ¬ cOp t d y := fun y m => by
        have m' := (mem d y).1 m
        exact nol y m'.1 m'.2
      refine ⟨⟨hnw.lt H.1, ex, fun z => absurd z (by decide)⟩, lk, ⟨fun z => ?_, fun y m => absurd m (em y), fun y m => absurd m (em y), fun y _ m => absurd m (em y), fun y _ m => absurd m (em y)⟩, fun y m => absurd m (em y)⟩
      rw [noc] at z
      exact absurd z (by decide)
    · rw [esl d q] at l ⊢
      have p' := (epc d q).1 p
      obtain ⟨w1, w2, w3, w4⟩ := H.2.2.2.2.1.1 d p' l
      have qx := hnw.old w1 (by decide)
      refine ⟨(lv (by decide)).2 (.inl ⟨w1, qx⟩), ?_, w3.congr (mem d) (fun y m => ?_) (fun y m => ?_) (no d q), fun y m => ?_⟩
      · rw [show cLk t (oSl s d) = cLk s (oSl s d) from ha.I _ _ (by decide) (.inl qx)]
        exact w2
      · rw [show cPl t y = cPl s y from ha.I _ _ (by decide) (.inl (hnw.old m.1 (by decide)))]
      · exact nx y (hnw.old m.1 (by decide))
      · have m' := (mem d y).1 m
        rw [show cPl t y = cPl s y from ha.I _ _ (by decide) (.inl (hnw.old m'.1 (by decide)))]
        exact w4 y m'
  · have w' := (ne 8 (by decide) (by decide) y).1 w
    have e : cLk t y = cLk s y := ha.I _ _ (by decide) (.inl (hnw.old w' (by decide)))
    rw [e] at l ⊢
    have z := H.2.2.2.2.1.2.1 y w' l
    have q := nol y w'
    refine ⟨(epc _ q).2 z.1, ?_⟩
    rw [esl _ q]
    exact z.2
  · have := cCm_add hc (fun i q => ha.C 19071 i (.inl rfl) q) esl pt (by rw [sl]; exact x0) (fun w => hcs ⟨hc, w⟩)
    have := H.2.2.2.2.1.2.2
    omega
  · have e5 : ∀ y, cLv false s y 5 → y ≠ x := fun y w => hnw.old w (by decide)
    obtain ⟨S, W, p1, p2, p3, p4, p5, p6, p7⟩ := H.2.2.2.2.2
    have eo : ∀ p, cOw t p = cOw s p := fun p => ha.A _ _ (.inr (.inr (.inr (.inr rfl))))
    have esz : ∀ p, S p → sz t p = sz s p := fun p sp => by
      unfold sz
      rw [eo]
      by_cases q : cOw s p < 0
      · rw [if_pos q, if_pos q]
      · rw [if_neg q, if_neg q]
        have w := (p3 p sp).2.2 (by clear H ha hnw th lv mem p3; grind)
        rw [show cR t (cOw s p) = cR s (cOw s p) from ha.I _ _ (by decide) (.inl (hnw.old w.1 (by decide)))]
    refine ⟨S, W, ?_⟩
    unfold cPoW
    rw [ha.top, t6]
    refine ⟨p1, p2, fun p sp => ?_, fun p q sp sq l => ?_, fun y w r => ?_, p6, p7⟩
    · rw [esz p sp, eo]
      obtain ⟨a1, a2, a3⟩ := p3 p sp
      refine ⟨a1, a2, fun o => ?_⟩
      have w := a3 o
      have q := hnw.old w.1 (by decide)
      exact ⟨(lv (by decide)).2 (.inl ⟨w.1, q⟩), (ha.I _ _ (by decide) (.inl q)).trans w.2⟩
    · rw [esz p sp]
      exact p4 p q sp sq l
    · have v := (ne 5 (by decide) (by decide) y).1 w
      have q := e5 y v
      have e1 : cR t y = cR s y := ha.I _ _ (by decide) (.inl q)
      have e2 : cS0 t y = cS0 s y := ha.I _ _ (by decide) (.inl q)
      rw [e1] at r
      rw [e2, eo]
      exact p5 y v r
