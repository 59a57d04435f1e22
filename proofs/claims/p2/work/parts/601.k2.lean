/-! The class: what its things hold; marking. -/
def cLv (m : Bool) (s : S1) (x t : Int32) : Prop := (0 ≤ x ∧ x < cN s) ∧ cTy s x = t ∧ (m = true → cRe s x ≠ 0)
/-- a value, by what L says of places -/
def cV (L : Int32 → Int32 → Prop) (k : Int32) (v : Int64) : Prop := (0 ≤ k ∧ k ≤ 3) ∨ ((k = 4 ∨ k = 5 ∨ k = 7) ∧ (0 ≤ v ∧ v.toInt32.toInt64 = v) ∧ L v.toInt32 k) ∨ (k = 6 ∧ (v < 0 ∨ ((0 ≤ v ∧ v.toInt32.toInt64 = v) ∧ (L v.toInt32 6 ∨ L v.toInt32 9))))
theorem cV.mono {L L' : Int32 → Int32 → Prop} (hl : ∀ x t, L x t → L' x t) {k : Int32} {v : Int64} (h : cV L k v) : cV L' k v := by
  rcases h with h | ⟨h1, h2, h3⟩ | ⟨h1, h2 | ⟨h2, h3 | h3⟩⟩
  · exact .inl h
  · exact .inr (.inl ⟨h1, h2, hl _ _ h3⟩)
  · exact .inr (.inr ⟨h1, .inl h2⟩)
  · exact .inr (.inr ⟨h1, .inr ⟨h2, .inl (hl _ _ h3)⟩⟩)
  · exact .inr (.inr ⟨h1, .inr ⟨h2, .inr (hl _ _ h3)⟩⟩)
theorem cV.kr {L : Int32 → Int32 → Prop} {k : Int32} {v : Int64} (h : cV L k v) : 0 ≤ k ∧ k ≤ 7 := by
  rcases h with h | ⟨h1, h2, h3⟩ | ⟨h1, h2⟩
  · grind
  · clear h2 h3
    grind
  · clear h2
    grind
/-- what a coroutine holds -/
def cCo (L : Int32 → Int32 → Prop) (s : S1) (c : Int32) : Prop := cV L 6 (oFn s c) ∧ ((0 ≤ oU s c ∧ oU s c ≤ 4000) ∧ ∀ i, 0 ≤ i → i < oU s c → cV L (oRk s c i) (oRv s c i)) ∧ ((0 ≤ oD s c ∧ oD s c ≤ 200) ∧ ∀ j, 0 ≤ j → j < oD s c → (mFn s (c * 200 + j) < 0 ∨ L (mFn s (c * 200 + j)) 6 ∨ L (mFn s (c * 200 + j)) 9) ∧ cV L (mJk s (c * 200 + j)) (mJv s (c * 200 + j))) ∧ ∀ y, cLv false s y 8 → cLk s y = c → L y 8
/-- what a thing holds -/
def cPv (L : Int32 → Int32 → Prop) (s : S1) (x : Int32) : Prop :=
  (cTy s x = 4 → cBf s x = 1) ∧
  (cTy s x = 5 → (cMt s x < 0 ∨ L (cMt s x) 5) ∧ ∀ i, 0 ≤ i → i < cE s x → cV L (cKk s (cS0 s x + i)) (cKv s (cS0 s x + i)) ∧ cV L (cVk s (cS0 s x + i)) (cVv s (cS0 s x + i))) ∧
  (cTy s x = 6 → pP s (cLk s x) ∧ cUf s x = 1 ∧ (0 ≤ cUc s (cLk s x) ∧ cUc s (cLk s x) ≤ cUl s x) ∧ ∀ i, 0 ≤ i → i < cUc s (cLk s x) → L (cUp s x i) 8) ∧
  (cTy s x = 7 → pC s (cLk s x) ∧ oSl s (cLk s x) = x ∧ cCo L s (cLk s x)) ∧
  (cTy s x = 8 → (cLk s x < 0 ∧ cV L (cCk s x) (cCv s x)) ∨ (pC s (cLk s x) ∧ (0 ≤ cPl s x ∧ cPl s x < 4000) ∧ cV L (oRk s (cLk s x) (cPl s x)) (oRv s (cLk s x) (cPl s x)))) ∧
  (cTy s x = 9 → L (cLk s x) 7)
theorem cCo.mono {L L' : Int32 → Int32 → Prop} (hl : ∀ x t, L x t → L' x t) {s : S1} {c : Int32} (h : cCo L s c) : cCo L' s c := by
  obtain ⟨h1, ⟨h2, h3⟩, ⟨h4, h5⟩, h6⟩ := h
  refine ⟨h1.mono hl, ⟨h2, fun i a b => (h3 i a b).mono hl⟩, ⟨h4, fun j a b => ⟨?_, (h5 j a b).2.mono hl⟩⟩, fun y a b => hl _ _ (h6 y a b)⟩
  rcases (h5 j a b).1 with d | d | d
  · exact .inl d
  · exact .inr (.inl (hl _ _ d))
  · exact .inr (.inr (hl _ _ d))
theorem cPv.mono {L L' : Int32 → Int32 → Prop} (hl : ∀ x t, L x t → L' x t) {s : S1} {x : Int32} (h : cPv L s x) : cPv L' s x := by
  obtain ⟨h4, h5, h6, h7, h8, h9⟩ := h
  refine ⟨h4, fun e => ⟨?_, fun i a b => ⟨((h5 e).2 i a b).1.mono hl, ((h5 e).2 i a b).2.mono hl⟩⟩, fun e => ⟨(h6 e).1, (h6 e).2.1, (h6 e).2.2.1, fun i a b => hl _ _ ((h6 e).2.2.2 i a b)⟩, fun e => ⟨(h7 e).1, (h7 e).2.1, (h7 e).2.2.mono hl⟩, fun e => ?_, fun e => hl _ _ (h9 e)⟩
  · rcases (h5 e).1 with d | d
    · exact .inl d
    · exact .inr (hl _ _ d)
  · rcases h8 e with ⟨a, b⟩ | ⟨a, b, c⟩
    · exact .inl ⟨a, b.mono hl⟩
    · exact .inr ⟨a, b, c.mono hl⟩
/-- marking leaves all else as it is -/
def cMk (s s' : S1) : Prop := (∀ f i, f ≠ 18562 ∧ f ≠ 14219 → gI s' f i = gI s f i) ∧ (∀ f i, gL s' f i = gL s f i) ∧ (∀ a i j, a ≠ 119 → gA s' a i j = gA s a i j) ∧ (∀ b i j, gB s' b i j = gB s b i j) ∧ ∀ x, cRe s x ≠ 0 → cRe s' x ≠ 0
theorem cMk.I {s s' : S1} (h : cMk s s') (f : Nat) (hf : f ≠ 18562 ∧ f ≠ 14219) (i : Int32) : gI s' f i = gI s f i := h.1 f i hf
theorem cMk.L {s s' : S1} (h : cMk s s') (f : Nat) (i : Int32) : gL s' f i = gL s f i := h.2.1 f i
theorem cMk.A {s s' : S1} (h : cMk s s') (a : Nat) (ha : a ≠ 119) (i j : Int32) : gA s' a i j = gA s a i j := h.2.2.1 a i j ha
theorem cMk.B {s s' : S1} (h : cMk s s') (b : Nat) (i j : Int32) : gB s' b i j = gB s b i j := h.2.2.2.1 b i j
theorem cMk.refl (s : S1) : cMk s s := ⟨fun _ _ _ => rfl, fun _ _ => rfl, fun _ _ _ _ => rfl, fun _ _ _ => rfl, fun _ h => h⟩
theorem cMk.trans {s t u : S1} (a : cMk s t) (b : cMk t u) : cMk s u := ⟨fun f i h => (b.1 f i h).trans (a.1 f i h), fun f i => (b.2.1 f i).trans (a.2.1 f i), fun f i j h => (b.2.2.1 f i j h).trans (a.2.2.1 f i j h), fun f i j => (b.2.2.2.1 f i j).trans (a.2.2.2.1 f i j), fun x h => b.2.2.2.2 x (a.2.2.2.2 x h)⟩
theorem cLv.mk {s s' : S1} (hk : cMk s s') {m : Bool} {x t : Int32} (h : cLv m s x t) : cLv m s' x t := by
  obtain ⟨h1, h2, h3⟩ := h
  refine ⟨?_, ?_, fun e => hk.2.2.2.2 _ (h3 e)⟩
  · unfold cN
    rw [hk.I _ (by decide)]
    exact h1
  · unfold cTy
    rw [hk.I _ (by decide)]
    exact h2
theorem cLv.kf {s s' : S1} (hk : cMk s s') {x t : Int32} : cLv false s' x t ↔ cLv false s x t := by
  unfold cLv cN cTy
  rw [hk.I _ (by decide), hk.I _ (by decide)]
  simp
theorem cPv.st {L : Int32 → Int32 → Prop} {s s' : S1} (hk : cMk s s') {x : Int32} : cPv L s' x ↔ cPv L s x := by
  simp only [cPv, cCo, pP, pC, cLv.kf hk, hk.I 14209 (by decide), hk.I 18560 (by decide), hk.I 18564 (by decide), hk.I 18565 (by decide), hk.I 18566 (by decide), hk.I 18567 (by decide), hk.I 18571 (by decide), hk.I 18572 (by decide), hk.I 18573 (by decide), hk.I 18574 (by decide), hk.I 18815 (by decide), hk.I 18814 (by decide), hk.I 18943 (by decide), hk.I 18942 (by decide), hk.I 18435 (by decide), hk.I 18559 (by decide), hk.I 19071 (by decide), hk.I 18687 (by decide), hk.I 18948 (by decide), hk.I 18949 (by decide), hk.I 18950 (by decide), hk.I 18954 (by decide), hk.I 18955 (by decide), hk.I 19457 (by decide), hk.I 19462 (by decide), hk.I 15367 (by decide), hk.I 18561 (by decide), hk.I 18563 (by decide), hk.L 18568, hk.L 18953, hk.L 19463, hk.A 121 (by decide), hk.A 123 (by decide), hk.A 147 (by decide), hk.A 149 (by decide), hk.A 125 (by decide), hk.A 126 (by decide), hk.A 127 (by decide), hk.B 122, hk.B 124, hk.B 150]
theorem cPv.mk {s s' : S1} (hk : cMk s s') {m : Bool} {x : Int32} (h : cPv (cLv m s) s x) : cPv (cLv m s') s' x :=
  (cPv.st hk).2 (h.mono fun _ _ => cLv.mk hk)
theorem cV.mk {s s' : S1} (hk : cMk s s') {m : Bool} {k : Int32} {v : Int64} (h : cV (cLv m s) k v) : cV (cLv m s') k v := h.mono fun _ _ => cLv.mk hk
/-- how many are marked -/
def cMc (s : S1) : Nat := (List.range 4000).countP (fun n => decide (Int32.ofNat n < cN s ∧ cRe s (Int32.ofNat n) ≠ 0))
theorem cMc_le (s : S1) : cMc s ≤ 4000 := by
  unfold cMc
  refine Nat.le_trans (List.countP_le_length) ?_
  simp
/-- what waits is marked, and no two are the same -/
def cGr (s : S1) : Prop := 0 ≤ cWc s ∧ (∀ i, 0 ≤ i → i < cWc s → (0 ≤ cWt s i ∧ cWt s i < cN s) ∧ cRe s (cWt s i) ≠ 0 ∧ 5 ≤ cTy s (cWt s i) ∧ cTy s (cWt s i) ≤ 9) ∧ ∀ i j, 0 ≤ i → i < j → j < cWc s → cWt s i ≠ cWt s j
def cBlk (E : Int32 → Prop) (s : S1) : Prop := ∀ x, 0 ≤ x → x < cN s → cRe s x ≠ 0 → ¬ E x → cTy s x = 4 ∨ (∃ i, 0 ≤ i ∧ i < cWc s ∧ cWt s i = x) ∨ cPv (cLv true s) s x
/-- the things below `slots` are there -/
def cNr (s : S1) : Prop := (0 ≤ cN s ∧ cN s ≤ 4000) ∧ ∀ x, 0 ≤ x → x < cN s → pT s x
theorem cNr.mk {s s' : S1} (hk : cMk s s') (h : cNr s) : cNr s' := by
  simp only [cNr, pT, hk.I 14209 (by decide), hk.I 18560 (by decide), hk.I 18564 (by decide), hk.I 18565 (by decide), hk.I 18566 (by decide), hk.I 18567 (by decide), hk.I 18571 (by decide), hk.I 18572 (by decide), hk.I 18573 (by decide), hk.I 18574 (by decide), hk.I 18815 (by decide), hk.I 18814 (by decide), hk.I 18943 (by decide), hk.I 18942 (by decide), hk.I 18435 (by decide), hk.I 18559 (by decide), hk.I 19071 (by decide), hk.I 18687 (by decide), hk.I 18948 (by decide), hk.I 18949 (by decide), hk.I 18950 (by decide), hk.I 18954 (by decide), hk.I 18955 (by decide), hk.I 19457 (by decide), hk.I 19462 (by decide), hk.I 15367 (by decide), hk.I 18561 (by decide), hk.I 18563 (by decide), hk.L 18568, hk.L 18953, hk.L 19463, hk.A 121 (by decide), hk.A 123 (by decide), hk.A 147 (by decide), hk.A 149 (by decide), hk.A 125 (by decide), hk.A 126 (by decide), hk.A 127 (by decide), hk.B 122, hk.B 124, hk.B 150] at h ⊢
  exact h
/-- while marking -/
def MI (E : Int32 → Prop) (s0 s : S1) : Prop := cMk s0 s ∧ cNr s ∧ cGr s ∧ cBlk E s ∧ (cWc s).toNatClampNeg + cMc s0 ≤ (cWc s0).toNatClampNeg + cMc s
theorem cGr.le {s : S1} (h : cGr s) (hn : cNr s) : cWc s ≤ cN s :=
  kpigeon (cWt s) _ _ h.1 hn.1.1 (fun i a b => (h.2.1 i a b).1) h.2.2
theorem cGr.lt {s : S1} (h : cGr s) (hn : cNr s) {x : Int32} (hx : 0 ≤ x ∧ x < cN s) (hm : cRe s x = 0) : cWc s < cN s := by
  have hu := hn.1
  have hle := h.le hn
  have := kpigeon (fun i => if i = cWc s then x else cWt s i) (cWc s + 1) (cN s) (by have := h.1; clear hm; grind) hu.1
    (fun i a b => by have := h.2.1 i a; have := h.1; clear hm; grind)
    (fun i j a b c => by have := h.2.1 i a; have := h.2.2 i j a b; have := h.1; grind)
  clear hm
  grind
theorem cMc_one {s t : S1} (mk : cMk s t) {x : Int32} (hr : 0 ≤ x ∧ x < cN s) (h4 : x < 4000) (h0 : cRe s x = 0) (h1 : cRe t x ≠ 0) (he : ∀ y, y ≠ x → cRe t y = cRe s y) : cMc t = cMc s + 1 := by
  unfold cMc
  have ex := ofNat_clamp hr.1
  have lx : x.toNatClampNeg < 4000 := clamp_ltN (n := 4000) h4 (by decide)
  have en : cN t = cN s := mk.I _ (by decide) _
  rw [kcountP_one (fun n => decide (Int32.ofNat n < cN s ∧ cRe s (Int32.ofNat n) ≠ 0)) (fun n => decide (Int32.ofNat n < cN t ∧ cRe t (Int32.ofNat n) ≠ 0)) x.toNatClampNeg ?_ ?_ 4000 ?_, if_pos lx]
  · simp only [ex, decide_eq_false_iff_not]
    exact fun q => q.2 h0
  · simp only [ex, decide_eq_true_eq]
    rw [en]
    exact ⟨hr.2, h1⟩
  · intro i hi ne
    have : Int32.ofNat i ≠ x := fun q => ne (by
      rw [← q]
      have := Int32.toInt_ofNat_of_lt (n := i) (by omega)
      unfold Int32.toNatClampNeg
      omega)
    simp only [en, he _ this]
theorem MI.one {E : Int32 → Prop} {s0 s t : S1} (h : MI E s0 s) {x : Int32} (hr : 0 ≤ x ∧ x < cN s) (h0 : cRe s x = 0) (mk : cMk s t) (h1 : cRe t x ≠ 0) (he : ∀ y, y ≠ x → cRe t y = cRe s y)
    (hw : (cWc t = cWc s ∧ (∀ i, cWt t i = cWt s i) ∧ cTy s x = 4) ∨ (cWc t = cWc s + 1 ∧ (∀ i, cWt t i = if i = cWc s then x else cWt s i) ∧ 5 ≤ cTy s x ∧ cTy s x ≤ 9)) : MI E s0 t := by
  obtain ⟨g1, g2, g3, g4, g5⟩ := h
  have hp := g2.2 x hr.1 hr.2
  have mc := cMc_one mk hr hp.1.2 h0 h1 he
  have en : cN t = cN s := mk.I _ (by decide) _
  have ety : ∀ y, cTy t y = cTy s y := fun y => mk.I _ (by decide) _
  have lt := g3.lt g2 hr h0
  have w0 := g3.1
  have n4 := g2.1.2
  refine ⟨g1.trans mk, g2.mk mk, ?_, ?_, ?_⟩
  · rcases hw with ⟨wc, wt, -⟩ | ⟨wc, wt, tx⟩
    · unfold cGr
      rw [wc, en]
      simp only [wt, ety]
      exact ⟨w0, fun i a b => ⟨(g3.2.1 i a b).1, mk.2.2.2.2 _ (g3.2.1 i a b).2.1, (g3.2.1 i a b).2.2⟩, g3.2.2⟩
    · unfold cGr
      rw [wc, en]
      simp only [wt, ety]
      refine ⟨by clear g5 mc g1 g4; grind, fun i a b => ?_, fun i j a b c => ?_⟩
      · by_cases q : i = cWc s
        · rw [if_pos q]
          exact ⟨hr, h1, tx⟩
        · rw [if_neg q]
          have := g3.2.1 i a (by clear g5 mc g1 g4; grind)
          exact ⟨this.1, mk.2.2.2.2 _ this.2.1, this.2.2⟩
      · have li : i < cWc s := by clear g5 mc g1 g4; grind
        rw [if_neg (by clear g5 mc g1 g4; grind)]
        by_cases q : j = cWc s
        · rw [if_pos q]
          intro z
          have := (g3.2.1 i a li).2.1
          rw [z] at this
          exact this h0
        · rw [if_neg q]
          exact g3.2.2 i j a b (by clear g5 mc g1 g4; grind)
  · intro y a b c d
    rw [en] at b
    rw [ety]
    by_cases q : y = x
    · subst q
      rcases hw with ⟨wc, wt, t4⟩ | ⟨wc, wt, -⟩
      · exact .inl t4
      · refine .inr (.inl ⟨cWc s, w0, ?_, ?_⟩)
        · rw [wc]
          clear g5 mc g1 g4
          grind
        · rw [wt, if_pos rfl]
    · rw [he y q] at c
      rcases g4 y a b c d with z | ⟨i, i1, i2, i3⟩ | z
      · exact .inl z
      · refine .inr (.inl ⟨i, i1, ?_, ?_⟩)
        · rcases hw with ⟨wc, -, -⟩ | ⟨wc, -, -⟩
          · rw [wc]
            exact i2
          · rw [wc]
            clear g5 mc g1 g4
            grind
        · rcases hw with ⟨-, wt, -⟩ | ⟨-, wt, -⟩
          · rw [wt]
            exact i3
          · rw [wt, if_neg (by clear g5 mc g1 g4; grind)]
            exact i3
      · exact .inr (.inr (z.mk mk))
  · rw [mc]
    have : (cWc t).toNatClampNeg ≤ (cWc s).toNatClampNeg + 1 := by
      rcases hw with ⟨wc, -, -⟩ | ⟨wc, -, -⟩
      · rw [wc]
        omega
      · rw [wc, kclamp_succ w0 (by clear g5 mc g1 g4; grind)]
        exact Nat.le_refl _
    omega
theorem reach0_ok {E : Int32 → Prop} {s0 s : S1} (h : MI E s0 s) (k : Int32) (v : Int64) (hv : k < 4 ∨ v < 0 ∨ ((0 ≤ v.toInt32 ∧ v.toInt32 < cN s) ∧ (k = 4 → cTy s v.toInt32 = 4) ∧ (k ≠ 4 → 5 ≤ cTy s v.toInt32 ∧ cTy s v.toInt32 ≤ 9))) :
    ok (M_He_reach k v) s (fun _ s' => MI E s0 s' ∧ cMk s s' ∧ (k < 4 ∨ v < 0 ∨ cRe s' v.toInt32 ≠ 0)) := by
  simp only [M_He_reach, ok_B, ok_C, ok_R, ok_L, ok_K, ok_GI, ok_GL, ok_PI, ok_PL, ok_AI, ok_AL, ok_SI, ok_SL, ok_Pr, ok_CI, cmp_lt, cmp_le, cmp_gt, cmp_ge, cmp_eq, nar0, nar1, Sum.elim_inl, Sum.elim_inr, ok_PzT]
  refine ⟨fun c => ⟨h, .refl s, .inl c⟩, fun c => ⟨fun d => ?_, fun d => ⟨h, .refl s, .inr (.inl (by clear h; grind))⟩⟩⟩
  have hv2 := (hv.resolve_left c).resolve_left (by clear h; grind)
  clear hv
  generalize v.toInt32 = x at hv2 ⊢
  obtain ⟨hr, ht, ht5⟩ := hv2
  have hp := h.2.1.2 x hr.1 hr.2
  refine ⟨hp, fun e => ?_, fun e => ⟨h, .refl s, .inr (.inr e)⟩⟩
  refine ⟨hp, fun f => ?_, fun f => ?_⟩
  · have mk : cMk s (sI s 18562 x 1) := by
      refine ⟨fun f i hf => ?_, fun _ _ => rfl, fun _ _ _ _ => rfl, fun _ _ _ => rfl, fun y hy => ?_⟩
      · rw [gI_sI, if_neg (fun q => hf.1 q.1)]
      · unfold cRe at hy ⊢
        rw [gI_sI]
        by_cases q : y = x
        · rw [if_pos ⟨rfl, q⟩]
          decide
        · rw [if_neg (fun w => q w.2)]
          exact hy
    have r1 : cRe (sI s 18562 x 1) x ≠ 0 := by
      unfold cRe
      rw [gI_sI, if_pos ⟨rfl, rfl⟩]
      decide
    refine ⟨h.one hr e mk r1 (fun y hy => ?_) (.inl ⟨?_, fun i => rfl, ht f⟩), mk, .inr (.inr r1)⟩
    · unfold cRe
      rw [gI_sI, if_neg (fun w => hy w.2)]
    · unfold cWc
      rw [gI_sI, if_neg (fun w => absurd w.1 (by decide))]
  · have lt := h.2.2.1.lt h.2.1 hr e
    have w0 := h.2.2.1.1
    have n4 := h.2.1.1.2
    have ew : gI (sI s 18562 x 1) 14219 0 = cWc s := by
      rw [gI_sI, if_neg (fun w => absurd w.1 (by decide))]
    have ew2 : gI (sA (sI s 18562 x 1) 119 0 (cWc s) x) 14219 0 = cWc s := by
      rw [gI_sA, ew]
    rw [ew, ew2]
    refine ⟨⟨w0, by clear ew ew2 h; grind⟩, ?_⟩
    have mk : cMk s (sI (sA (sI s 18562 x 1) 119 0 (cWc s) x) 14219 0 (cWc s + 1)) := by
      refine ⟨fun f i hf => ?_, fun _ _ => rfl, fun a i j ha => ?_, fun _ _ _ => rfl, fun y hy => ?_⟩
      · rw [gI_sI, if_neg (fun q => hf.2 q.1), gI_sA, gI_sI, if_neg (fun q => hf.1 q.1)]
      · rw [gA_sI, gA_sA, if_neg (fun q => ha q.1)]
        rfl
      · unfold cRe at hy ⊢
        rw [gI_sI, if_neg (fun w => absurd w.1 (by decide)), gI_sA, gI_sI]
        by_cases q : y = x
        · rw [if_pos ⟨rfl, q⟩]
          decide
        · rw [if_neg (fun w => q w.2)]
          exact hy
    have r1 : cRe (sI (sA (sI s 18562 x 1) 119 0 (cWc s) x) 14219 0 (cWc s + 1)) x ≠ 0 := by
      unfold cRe
      rw [gI_sI, if_neg (fun w => absurd w.1 (by decide)), gI_sA, gI_sI, if_pos ⟨rfl, rfl⟩]
      decide
    refine ⟨h.one hr e mk r1 (fun y hy => ?_) (.inr ⟨?_, fun i => ?_, ht5 f⟩), mk, .inr (.inr r1)⟩
    · unfold cRe
      rw [gI_sI, if_neg (fun w => absurd w.1 (by decide)), gI_sA, gI_sI, if_neg (fun w => hy w.2)]
    · unfold cWc
      rw [gI_sI, if_pos ⟨rfl, rfl⟩]
    · unfold cWt
      rw [gA_sI, gA_sA]
      by_cases q : i = cWc s
      · rw [if_pos ⟨rfl, rfl, q⟩, if_pos q]
      · rw [if_neg (fun w => q w.2.2), if_neg q]
        rfl
theorem lt0_64 {v : Int32} : v.toInt64 < 0 ↔ v < 0 := by
  rw [i64_lt, i32_lt]
  have : v.toInt64.toInt = v.toInt := Int32.toInt_toInt64 v
  rw [this]
  exact Iff.rfl
/-- a value is reached -/
theorem reachV_ok {E : Int32 → Prop} {s0 s : S1} (h : MI E s0 s) (k : Int32) (v : Int64) (hv : cV (cLv false s0) k v) :
    ok (M_He_reach k v) s (fun _ s' => MI E s0 s' ∧ cMk s s' ∧ cV (cLv true s') k v) := by
  have hv' := hv.mk h.1
  refine ok_mono (reach0_ok h k v ?_) ?_
  · rcases hv' with h1 | ⟨h1, h2, h3⟩ | ⟨h1, h2 | ⟨h2, h3⟩⟩
    · exact .inl (by clear h hv; grind)
    · refine .inr (.inr ⟨h3.1, fun e => by rw [h3.2.1, e], fun e => ?_⟩)
      rw [h3.2.1]
      clear h hv h3 h2
      grind
    · exact .inr (.inl h2)
    · rcases h3 with h3 | h3
      · exact .inr (.inr ⟨h3.1, fun e => absurd (h1.symm.trans e) (by decide), fun _ => by rw [h3.2.1]; decide⟩)
      · exact .inr (.inr ⟨h3.1, fun e => absurd (h1.symm.trans e) (by decide), fun _ => by rw [h3.2.1]; decide⟩)
  · rintro - s' ⟨a, b, c⟩
    refine ⟨a, b, ?_⟩
    have hv2 := hv'.mk b
    rcases hv2 with h1 | ⟨h1, h2, h3⟩ | ⟨h1, h2 | ⟨h2, h3⟩⟩
    · exact .inl h1
    · refine .inr (.inl ⟨h1, h2, h3.1, h3.2.1, fun _ => ?_⟩)
      rcases c with c | c | c
      · exact absurd c (by clear h hv hv' a b; grind)
      · exact absurd c (by clear h hv hv' a b; grind)
      · exact c
    · exact .inr (.inr ⟨h1, .inl h2⟩)
    · have c' : cRe s' v.toInt32 ≠ 0 := by
        rcases c with c | c | c
        · exact absurd c (by clear h hv hv' a b; grind)
        · exact absurd c (by clear h hv hv' a b; grind)
        · exact c
      refine .inr (.inr ⟨h1, .inr ⟨h2, ?_⟩⟩)
      rcases h3 with h3 | h3
      · exact .inl ⟨h3.1, h3.2.1, fun _ => c'⟩
      · exact .inr ⟨h3.1, h3.2.1, fun _ => c'⟩
/-- a place is reached -/
theorem reachL_ok {E : Int32 → Prop} {s0 s : S1} (h : MI E s0 s) (k x : Int32) (hk : 4 < k) (hx : x < 0 ∨ (0 ≤ x ∧ x < cN s0) ∧ 5 ≤ cTy s0 x ∧ cTy s0 x ≤ 9) :
    ok (M_He_reach k x.toInt64) s (fun _ s' => MI E s0 s' ∧ cMk s s' ∧ (0 ≤ x → cRe s' x ≠ 0)) := by
  have e : x.toInt64.toInt32 = x := Int32.toInt32_toInt64 x
  have en : cN s = cN s0 := h.1.I _ (by decide) _
  refine ok_mono (reach0_ok h k x.toInt64 ?_) ?_
  · rw [e, lt0_64, en]
    rcases hx with a | a
    · exact .inr (.inl a)
    · refine .inr (.inr ⟨a.1, fun z => absurd z (by clear h; grind), fun _ => ?_⟩)
      have ety : cTy s x = cTy s0 x := h.1.I _ (by decide) _
      rw [ety]
      exact a.2
  · rintro - s' ⟨a, b, c⟩
    refine ⟨a, b, fun x0 => ?_⟩
    rw [e, lt0_64] at c
    rcases c with c | c | c
    · exact absurd c (by clear h a b; grind)
    · exact absurd c (by clear h a b; grind)
    · exact c
theorem cLv.r59 {m : Bool} {s : S1} {x t : Int32} (h : cLv m s x t) (h5 : 5 ≤ t) (h9 : t ≤ 9) : (0 ≤ x ∧ x < cN s) ∧ 5 ≤ cTy s x ∧ cTy s x ≤ 9 := ⟨h.1, by rw [h.2.1]; exact h5, by rw [h.2.1]; exact h9⟩
