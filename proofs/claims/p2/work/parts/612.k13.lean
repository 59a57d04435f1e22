/-! The class: a new thing among the others. -/
theorem cNw.lt {x : Int32} {s t : S1} (h : cNw x s t) (hN : cNr s) : 0 ≤ x ∧ x < cN t := by
  rcases h.1 with ⟨a, b, c⟩ | ⟨a, b⟩
  · rw [c]
    exact a
  · have n := h.2.2
    have m := hN.1
    rw [b] at n ⊢
    rw [a]
    refine ⟨m.1, ?_⟩
    clear a b h
    rw [i32_le, i32_le] at m n
    rw [i32_lt]
    have e1 : (1 : Int32).toInt = 1 := rfl
    have e4 : (4000 : Int32).toInt = 4000 := rfl
    have e0 : (0 : Int32).toInt = 0 := rfl
    have : (cN s + 1).toInt = (cN s).toInt + 1 := by
      rw [ktI_add] <;> omega
    omega
/-- who lives behind -/
theorem cNw.lv {x T : Int32} {s t : S1} (h : cNw x s t) (hN : cNr s) (hT : T ≠ 0) (ex : cTy t x = T) (et : ∀ y, y ≠ x → cTy t y = cTy s y) {y u : Int32} (u0 : u ≠ 0) : cLv false t y u ↔ (cLv false s y u ∧ y ≠ x) ∨ (y = x ∧ u = T) := by
  have lt := h.lt hN
  rw [cLv_f, cLv_f]
  by_cases q : y = x
  · subst q
    rw [ex]
    constructor
    · exact fun w => .inr ⟨rfl, w.2.symm⟩
    · rintro (w | w)
      · exact absurd rfl w.2
      · exact ⟨lt, w.2.symm⟩
  · rw [et y q]
    have r : (0 ≤ y ∧ y < cN t) ↔ (0 ≤ y ∧ y < cN s) := by
      rcases h.1 with ⟨a, b, c⟩ | ⟨a, b⟩
      · rw [c]
      · rw [b]
        have n := h.2.2
        rw [b] at n
        have m := hN.1
        rw [a] at q
        clear h a b ex et lt
        have : y.toInt ≠ (cN s).toInt := fun w => q (toInt_inj w)
        rw [i32_le, i32_le] at m n
        rw [i32_lt, i32_lt, i32_le]
        have e1 : (1 : Int32).toInt = 1 := rfl
        have e4 : (4000 : Int32).toInt = 4000 := rfl
        have e0 : (0 : Int32).toInt = 0 := rfl
        have : (cN s + 1).toInt = (cN s).toInt + 1 := by
          rw [ktI_add] <;> omega
        omega
    rw [r]
    constructor
    · exact fun w => .inl ⟨w, q⟩
    · rintro (w | w)
      · exact w.1
      · exact absurd w.1 q
theorem cNw.old {x : Int32} {s t : S1} (h : cNw x s t) {y u : Int32} (hl : cLv false s y u) (u0 : u ≠ 0) : y ≠ x := by
  rintro rfl
  rcases h.1 with ⟨-, b, -⟩ | ⟨a, -⟩
  · exact u0 (hl.2.1.symm.trans b)
  · have := hl.1.2
    rw [← a] at this
    clear hl h
    grind
/-- the state beside the new thing x, and beside coroutine c, which was not in use -/
def cAd (x c : Int32) (s t : S1) : Prop :=
  (∀ f j, 144 ≤ f / 128 ∧ f / 128 ≤ 147 ∧ f ≠ 18565 → j ≠ x ∨ f / 128 = 144 → gI t f j = gI s f j) ∧
  (∀ f j, f = 19071 ∨ f = 18948 ∨ f = 18949 ∨ f = 18950 → j ≠ c → gI t f j = gI s f j) ∧
  (∀ f i j, f = 19457 ∨ f = 19462 → 0 ≤ i → i < 32 → i ≠ c → 0 ≤ j → j < 200 → gI t f (i * 200 + j) = gI s f (i * 200 + j)) ∧
  (cTop t = cTop s) ∧
  (∀ j, j ≠ x → gL t 18568 j = gL s 18568 j) ∧
  (∀ j, j ≠ c → gL t 18953 j = gL s 18953 j) ∧
  (∀ i j, 0 ≤ i → i < 32 → i ≠ c → 0 ≤ j → j < 200 → gL t 19463 (i * 200 + j) = gL s 19463 (i * 200 + j)) ∧
  (∀ a k, a = 121 ∨ a = 123 ∨ a = 125 ∨ a = 126 ∨ a = 127 → gA t a 0 k = gA s a 0 k) ∧
  (∀ j k, j ≠ x → gA t 147 j k = gA s 147 j k) ∧
  (∀ j k, j ≠ c → gA t 149 j k = gA s 149 j k) ∧
  (∀ a k, a = 122 ∨ a = 124 → gB t a 0 k = gB s a 0 k) ∧
  (∀ j k, j ≠ c → gB t 150 j k = gB s 150 j k)
theorem cAd.I {x c : Int32} {s t : S1} (h : cAd x c s t) : ∀ f j, 144 ≤ f / 128 ∧ f / 128 ≤ 147 ∧ f ≠ 18565 → j ≠ x ∨ f / 128 = 144 → gI t f j = gI s f j := h.1
theorem cAd.C {x c : Int32} {s t : S1} (h : cAd x c s t) : ∀ f j, f = 19071 ∨ f = 18948 ∨ f = 18949 ∨ f = 18950 → j ≠ c → gI t f j = gI s f j := h.2.1
theorem cAd.F {x c : Int32} {s t : S1} (h : cAd x c s t) : ∀ f i j, f = 19457 ∨ f = 19462 → 0 ≤ i → i < 32 → i ≠ c → 0 ≤ j → j < 200 → gI t f (i * 200 + j) = gI s f (i * 200 + j) := h.2.2.1
theorem cAd.top {x c : Int32} {s t : S1} (h : cAd x c s t) : cTop t = cTop s := h.2.2.2.1
theorem cAd.L1 {x c : Int32} {s t : S1} (h : cAd x c s t) : ∀ j, j ≠ x → gL t 18568 j = gL s 18568 j := h.2.2.2.2.1
theorem cAd.L2 {x c : Int32} {s t : S1} (h : cAd x c s t) : ∀ j, j ≠ c → gL t 18953 j = gL s 18953 j := h.2.2.2.2.2.1
theorem cAd.L3 {x c : Int32} {s t : S1} (h : cAd x c s t) : ∀ i j, 0 ≤ i → i < 32 → i ≠ c → 0 ≤ j → j < 200 → gL t 19463 (i * 200 + j) = gL s 19463 (i * 200 + j) := h.2.2.2.2.2.2.1
theorem cAd.A {x c : Int32} {s t : S1} (h : cAd x c s t) : ∀ a k, a = 121 ∨ a = 123 ∨ a = 125 ∨ a = 126 ∨ a = 127 → gA t a 0 k = gA s a 0 k := h.2.2.2.2.2.2.2.1
theorem cAd.U {x c : Int32} {s t : S1} (h : cAd x c s t) : ∀ j k, j ≠ x → gA t 147 j k = gA s 147 j k := h.2.2.2.2.2.2.2.2.1
theorem cAd.K {x c : Int32} {s t : S1} (h : cAd x c s t) : ∀ j k, j ≠ c → gA t 149 j k = gA s 149 j k := h.2.2.2.2.2.2.2.2.2.1
theorem cAd.B {x c : Int32} {s t : S1} (h : cAd x c s t) : ∀ a k, a = 122 ∨ a = 124 → gB t a 0 k = gB s a 0 k := h.2.2.2.2.2.2.2.2.2.2.1
theorem cAd.V {x c : Int32} {s t : S1} (h : cAd x c s t) : ∀ j k, j ≠ c → gB t 150 j k = gB s 150 j k := h.2.2.2.2.2.2.2.2.2.2.2
theorem cAd.th {x c T : Int32} {s t : S1} (h : cAd x c s t) (H : cHI s) (hc : pC s c → oSl s c < 0) (hnw : cNw x s t) (hT : 4 ≤ T ∧ T ≤ 9) (ex : cTy t x = T) (n4 : (cTl s 4).toInt ≤ (cTl t 4).toInt)
    (ox : cPv (cLv false t) t x ∧ cTs t x ∧ cSy t x = 0 ∧ 0 ≤ (cNu t x).toInt ∧ (cNu t x).toInt < (cTl t 4).toInt) : cNr t ∧ ∀ y, 0 ≤ y → y < cN t → cTh t y := by
  obtain ⟨hN, H2, -, -, H5, -⟩ := H
  have T0 : T ≠ 0 := fun z => by rw [z] at hT; exact absurd hT.1 (by decide)
  have et : ∀ y, y ≠ x → cTy t y = cTy s y := fun y q => h.I _ _ (by decide) (.inl q)
  have lv := fun {y u} (u0 : u ≠ 0) => hnw.lv hN T0 ex et (y := y) (u := u) u0
  have up : ∀ y u, cLv false s y u → u ≠ 0 → cLv false t y u := fun y u l u0 => (lv u0).2 (.inl ⟨l, hnw.old l u0⟩)
  have rg : ∀ y, 0 ≤ y → y < cN t → y ≠ x → y < cN s := fun y a b q => by
    by_cases z : cTy s y = 0
    · rcases hnw.1 with ⟨u, v, w⟩ | ⟨u, w⟩
      · rw [w] at b
        exact b
      · rw [w] at b
        rw [u] at q
        have n := hnw.2.2
        rw [w] at n
        have m := hN.1
        clear h H2 H5 ox et lv up
        have : y.toInt ≠ (cN s).toInt := fun w => q (toInt_inj w)
        rw [i32_le, i32_le] at m n
        rw [i32_lt] at b ⊢
        have e1 : (1 : Int32).toInt = 1 := rfl
        have e4 : (4000 : Int32).toInt = 4000 := rfl
        have e0 : (0 : Int32).toInt = 0 := rfl
        have : (cN s + 1).toInt = (cN s).toInt + 1 := by
          rw [ktI_add] <;> omega
        omega
    · have := (lv z (y := y)).1 (cLv_f.2 ⟨⟨a, b⟩, et y q⟩)
      rcases this with w | w
      · exact w.1.1.2
      · exact absurd w.1 q
  have cV' : ∀ k v, cV (cLv false s) k v → cV (cLv false t) k v := fun k v q => by
    rcases q with q | ⟨q1, q2, q3⟩ | ⟨q1, q2 | ⟨q2, q3 | q3⟩⟩
    · exact .inl q
    · exact .inr (.inl ⟨q1, q2, up _ _ q3 (fun z => by rw [z] at q1; exact absurd q1 (by decide))⟩)
    · exact .inr (.inr ⟨q1, .inl q2⟩)
    · exact .inr (.inr ⟨q1, .inr ⟨q2, .inl (up _ _ q3 (by decide))⟩⟩)
    · exact .inr (.inr ⟨q1, .inr ⟨q2, .inr (up _ _ q3 (by decide))⟩⟩)
  refine ⟨⟨hnw.2.2, fun y a b => ?_⟩, fun y a b => ?_⟩
  · by_cases q : y = x
    · rw [q]
      exact hnw.2.1
    · have := hN.2 y a (rg y a b q)
      unfold pT at this ⊢
      rw [h.I _ _ (by decide) (.inl q)]
      exact this
  · by_cases q : y = x
    · subst q
      refine ⟨.inr (by rw [ex]; exact hT), ox.1, ox.2.1, .inl ox.2.2.1, fun z => absurd ox.2.2.1 z, fun _ => ox.2.2.2⟩
    · obtain ⟨g1, g2, g3, g4, g5, g6⟩ := H2 y a (rg y a b q)
      have ety := et y q
      have ePr : ∀ p, pP t p ↔ pP s p := fun p => by
        unfold pP
        rw [h.I _ _ (by decide) (.inr (by decide))]
      have ePc : ∀ p, p ≠ c → (pC t p ↔ pC s p) := fun p z => by
        unfold pC
        rw [h.C _ _ (.inl rfl) z]
      refine ⟨by rw [ety]; exact g1, ?_, ?_, ?_, ?_, ?_⟩
      · by_cases z : cTy s y = 0
        · exact cPv.of0 (ety.trans z)
        have elk : cLk t y = cLk s y := h.I _ _ (by decide) (.inl q)
        rcases six g1 z with k | k | k | k | k | k
        · refine cPv.of4 (ety.trans k) ?_
          rw [show cBf t y = cBf s y from h.I _ _ (by decide) (.inl q)]
          exact g2.1 k
        · refine cPv.of5 (ety.trans k) ?_
          obtain ⟨w1, w2⟩ := g2.2.1 k
          rw [show cMt t y = cMt s y from h.I _ _ (by decide) (.inl q), show cE t y = cE s y from h.I _ _ (by decide) (.inl q), show cS0 t y = cS0 s y from h.I _ _ (by decide) (.inl q)]
          refine ⟨w1.imp id (fun w => up _ _ w (by decide)), fun i i0 i1 => ?_⟩
          have w := w2 i i0 i1
          rw [show cKk t (cS0 s y + i) = cKk s (cS0 s y + i) from h.A _ _ (.inl rfl), show cKv t (cS0 s y + i) = cKv s (cS0 s y + i) from h.B _ _ (.inl rfl), show cVk t (cS0 s y + i) = cVk s (cS0 s y + i) from h.A _ _ (.inr (.inl rfl)), show cVv t (cS0 s y + i) = cVv s (cS0 s y + i) from h.B _ _ (.inr rfl)]
          exact ⟨cV' _ _ w.1, cV' _ _ w.2⟩
        · refine cPv.of6 (ety.trans k) ?_
          obtain ⟨w1, w2, w3, w4⟩ := g2.2.2.1 k
          rw [elk, show cUf t y = cUf s y from h.I _ _ (by decide) (.inl q), show cUl t y = cUl s y from h.I _ _ (by decide) (.inl q), show cUc t (cLk s y) = cUc s (cLk s y) from h.I _ _ (by decide) (.inr (by decide))]
          refine ⟨(ePr _).2 w1, w2, w3, fun i i0 i1 => ?_⟩
          rw [show cUp t y i = cUp s y i from h.U _ _ q]
          exact up _ _ (w4 i i0 i1) (by decide)
        · refine cPv.of7 (ety.trans k) ?_
          obtain ⟨w1, w2, w3, ⟨w4, w5⟩, ⟨w6, w7⟩, w8⟩ := g2.2.2.2.1 k
          rw [elk]
          have ne : cLk s y ≠ c := fun z => by
            rw [z] at w1 w2
            have := hc w1
            rw [w2] at this
            clear h H2 H5 ox et lv up g1 g2 g3 g4 g5 g6 cV' ePr ePc
            grind
          have c0 := w1.1
          refine ⟨(ePc _ ne).2 w1, (h.C _ _ (.inr (.inr (.inr rfl))) ne).trans w2, ?_, ⟨?_, ?_⟩, ⟨?_, ?_⟩, fun y' z _ => z⟩
          · rw [show oFn t (cLk s y) = oFn s (cLk s y) from h.L2 _ ne]
            exact cV' _ _ w3
          · rw [show oU t (cLk s y) = oU s (cLk s y) from h.C _ _ (.inr (.inr (.inl rfl))) ne]
            exact w4
          · rw [show oU t (cLk s y) = oU s (cLk s y) from h.C _ _ (.inr (.inr (.inl rfl))) ne]
            intro i i0 i1
            rw [show oRk t (cLk s y) i = oRk s (cLk s y) i from h.K _ _ ne, show oRv t (cLk s y) i = oRv s (cLk s y) i from h.V _ _ ne]
            exact cV' _ _ (w5 i i0 i1)
          · rw [show oD t (cLk s y) = oD s (cLk s y) from h.C _ _ (.inr (.inl rfl)) ne]
            exact w6
          · rw [show oD t (cLk s y) = oD s (cLk s y) from h.C _ _ (.inr (.inl rfl)) ne]
            intro j j0 j1
            have j2 : j < 200 := by
              have := w6.2
              clear h H2 H5 ox et lv up g1 g2 g3 g4 g5 g6 cV' ePr ePc
              grind
            rw [show mFn t (cLk s y * 200 + j) = mFn s (cLk s y * 200 + j) from h.F _ _ _ (.inl rfl) c0.1 c0.2 ne j0 j2, show mJk t (cLk s y * 200 + j) = mJk s (cLk s y * 200 + j) from h.F _ _ _ (.inr rfl) c0.1 c0.2 ne j0 j2, show mJv t (cLk s y * 200 + j) = mJv s (cLk s y * 200 + j) from h.L3 _ _ c0.1 c0.2 ne j0 j2]
            have w := w7 j j0 j1
            exact ⟨w.1.imp id (fun v => v.imp (fun v => up _ _ v (by decide)) (fun v => up _ _ v (by decide))), cV' _ _ w.2⟩
        · refine cPv.of8 (ety.trans k) ?_
          rw [elk, show cCk t y = cCk s y from h.I _ _ (by decide) (.inl q), show cCv t y = cCv s y from h.L1 _ q, show cPl t y = cPl s y from h.I _ _ (by decide) (.inl q)]
          rcases g2.2.2.2.2.1 k with w | ⟨w1, w2, w3⟩
          · exact .inl ⟨w.1, cV' _ _ w.2⟩
          · right
            have w0 := H5.2.1 y (cLv_f.2 ⟨⟨a, rg y a b q⟩, k⟩) w1.1.1
            have ne : cLk s y ≠ c := fun z => by
              rw [z] at w0
              have := hc w0.1
              have w9 := w0.2
              clear h H2 H5 ox et lv up g1 g2 g3 g4 g5 g6 cV' ePr ePc w0
              grind
            rw [show oRk t (cLk s y) (cPl s y) = oRk s (cLk s y) (cPl s y) from h.K _ _ ne, show oRv t (cLk s y) (cPl s y) = oRv s (cLk s y) (cPl s y) from h.V _ _ ne]
            exact ⟨(ePc _ ne).2 w1, w2, cV' _ _ w3⟩
        · refine cPv.of9 (ety.trans k) ?_
          rw [elk]
          exact up _ _ (g2.2.2.2.2.2 k) (by decide)
      · unfold cTs at g3 ⊢
        rw [ety, show cS0 t y = cS0 s y from h.I _ _ (by decide) (.inl q), show cR t y = cR s y from h.I _ _ (by decide) (.inl q), show cE t y = cE s y from h.I _ _ (by decide) (.inl q), h.top]
        intro k
        obtain ⟨w1, w2, w3⟩ := g3 k
        refine ⟨w1, fun i i0 i1 => ?_, fun i i0 i1 => ?_⟩
        · rw [show cHd t (cS0 s y + i) = cHd s (cS0 s y + i) from h.A _ _ (.inr (.inr (.inl rfl)))]
          exact w2 i i0 i1
        · rw [show cCh t (cS0 s y + i) = cCh s (cS0 s y + i) from h.A _ _ (.inr (.inr (.inr (.inl rfl))))]
          exact w3 i i0 i1
      · rw [show cSy t y = cSy s y from h.I _ _ (by decide) (.inl q)]
        exact g4
      · rw [show cSy t y = cSy s y from h.I _ _ (by decide) (.inl q), ety]
        exact g5
      · rw [show cNu t y = cNu s y from h.I _ _ (by decide) (.inl q), ety]
        intro z
        have := g6 z
        omega
theorem cNw.fl {x T : Int32} {s t : S1} (hnw : cNw x s t) (hF : cFl s) (et : ∀ y, y ≠ x → cTy t y = cTy s y) (hc : 0 ≤ cFc t ∧ (cTl t 3).toInt + (cFc t).toInt = (cN t).toInt) (hr : ∀ i, cFr t i = cFr s i) (hi : ∀ i, 0 ≤ i → i < cFc t → i < cFc s ∧ cFr s i ≠ x) : cFl t := by
  refine ⟨hc, fun i a b => ?_, fun i j a b c => ?_⟩
  · obtain ⟨h1, h2⟩ := hi i a b
    rw [hr]
    have w := hF.2.1 i a h1
    refine ⟨⟨w.1.1, ?_⟩, by rw [et _ h2]; exact w.2⟩
    rcases hnw.1 with ⟨-, -, v⟩ | ⟨-, v⟩
    · rw [v]
      exact w.1.2
    · have n := hnw.2.2
      rw [v] at n ⊢
      have w2 := w.1
      clear hnw hF et hc hr hi w v
      rw [i32_le, i32_le] at n
      rw [i32_le, i32_lt] at w2
      rw [i32_lt]
      have e1 : (1 : Int32).toInt = 1 := rfl
      have e4 : (4000 : Int32).toInt = 4000 := rfl
      have e0 : (0 : Int32).toInt = 0 := rfl
      by_cases z : (cN s).toInt + 1 < 2147483648
      · have : (cN s + 1).toInt = (cN s).toInt + 1 := by
          rw [ktI_add] <;> omega
        omega
      · have : cN s = 2147483647 := toInt_inj (by have := Int32.toInt_lt (cN s); have : (2147483647 : Int32).toInt = 2147483647 := rfl; omega)
        rw [this] at n
        exact absurd n.1 (by decide)
  · rw [hr, hr]
    exact hF.2.2 i j a b (hi j (by clear hF hr hi et; grind) c).1
