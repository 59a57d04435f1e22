/-! The class: variables and tables made. -/
/-- a new thing is there and filled; all else is as it was -/
def cNt (x T : Int32) (s t : S1) : Prop := cLv false t x T ∧ (∀ y u, u ≠ 0 → cLv false s y u → cLv false t y u ∧ y ≠ x) ∧ (∀ f j, f ≠ 14209 ∧ f ≠ 14211 ∧ f / 128 ≠ 154 → (145 ≤ f / 128 ∧ f / 128 ≤ 147 → j ≠ x) → gI t f j = gI s f j) ∧ (∀ f j, (f / 128 = 145 → j ≠ x) → gL t f j = gL s f j) ∧ (∀ a j k, a ≠ 114 ∧ a ≠ 154 ∧ a ≠ 117 → (a = 146 ∨ a = 147 → j ≠ x) → gA t a j k = gA s a j k) ∧ (∀ a j k, a ≠ 154 → (a = 146 ∨ a = 147 → j ≠ x) → gB t a j k = gB s a j k) ∧ ∀ y u, u ≠ 0 → y ≠ x → cLv false t y u → cLv false s y u
/-- the filling of a new thing -/
def cFi (x : Int32) (s t : S1) : Prop := (∀ f j, f / 128 ≠ 154 → (145 ≤ f / 128 ∧ f / 128 ≤ 147 → j ≠ x) → gI t f j = gI s f j) ∧ (∀ f j, (f / 128 = 145 → j ≠ x) → gL t f j = gL s f j) ∧ (∀ a j k, a ≠ 154 → (a = 146 ∨ a = 147 → j ≠ x) → gA t a j k = gA s a j k) ∧ (∀ a j k, a ≠ 154 → (a = 146 ∨ a = 147 → j ≠ x) → gB t a j k = gB s a j k) ∧ cTy t x = cTy s x ∧ cNu t x = cNu s x ∧ cSy t x = cSy s x ∧ gI t 18687 x = gI s 18687 x
theorem cMd.ad {x T u b : Int32} {s s1 t : S1} (h : cMd x T u b s s1) (f : cFi x s1 t) : cAd x (-1) s t := by
  have eI : ∀ f j, f ≠ 14209 ∧ f ≠ 14211 → f / 128 ≠ 154 → (145 ≤ f / 128 ∧ f / 128 ≤ 147 → j ≠ x) → gI t f j = gI s f j := fun g j q w z => by
    rw [f.1 g j w z]
    refine h.I g j q ?_
    by_cases v : g / 128 = 145
    · exact .inr (z (by omega))
    · exact .inl v
  have eL : ∀ f j, (f / 128 = 145 → j ≠ x) → (f / 128 ≠ 145 ∨ j ≠ x) → gL t f j = gL s f j := fun g j z w => by
    rw [f.2.1 g j z]
    exact h.L g j w
  have eA : ∀ a j k, a ≠ 114 ∧ a ≠ 154 → (a = 146 ∨ a = 147 → j ≠ x) → gA t a j k = gA s a j k := fun a j k q z => by
    rw [f.2.2.1 a j k q.2 z]
    exact h.A a j k q.1
  have eB : ∀ a j k, a ≠ 154 → (a = 146 ∨ a = 147 → j ≠ x) → gB t a j k = gB s a j k := fun a j k q z => (f.2.2.2.1 a j k q z).trans (h.B a j k)
  refine ⟨fun f j q w => ?_, fun f j q w => ?_, fun f i j q _ _ _ _ _ => ?_, ?_, fun j w => ?_, fun j w => ?_, fun i j _ _ _ _ _ => ?_, fun a k q => ?_, fun j k q => ?_, fun j k _ => ?_, fun a k q => ?_, fun j k _ => ?_⟩
  · refine eI f j ⟨fun z => ?_, fun z => ?_⟩ (by omega) (fun z => ?_)
    · subst z
      exact absurd q.1 (by decide)
    · subst z
      exact absurd q.1 (by decide)
    · rcases w with w | w
      · exact w
      · omega
  · refine eI f j ?_ ?_ (fun z => ?_)
    · rcases q with rfl | rfl | rfl | rfl <;> decide
    · rcases q with rfl | rfl | rfl | rfl <;> decide
    · rcases q with rfl | rfl | rfl | rfl <;> exact absurd z (by decide)
  · refine eI f _ ?_ ?_ (fun z => ?_)
    · rcases q with rfl | rfl <;> decide
    · rcases q with rfl | rfl <;> decide
    · rcases q with rfl | rfl <;> exact absurd z (by decide)
  · exact eI _ _ (by decide) (by decide) (fun z => absurd z (by decide))
  · exact eL _ _ (fun _ => w) (.inr w)
  · exact eL _ _ (fun z => absurd z (by decide)) (.inl (by decide))
  · exact eL _ _ (fun z => absurd z (by decide)) (.inl (by decide))
  · refine eA a 0 k ?_ (fun z => ?_)
    · rcases q with rfl | rfl | rfl | rfl | rfl <;> decide
    · rcases q with rfl | rfl | rfl | rfl | rfl <;> exact absurd z (by decide)
  · exact eA _ _ _ (by decide) (fun _ => q)
  · exact eA _ _ _ (by decide) (fun z => absurd z (by decide))
  · refine eB a 0 k ?_ (fun z => ?_)
    · rcases q with rfl | rfl <;> decide
    · rcases q with rfl | rfl <;> exact absurd z (by decide)
  · exact eB _ _ _ (by decide) (fun z => absurd z (by decide))
theorem cMd.nt {x T u b : Int32} {s s1 t : S1} (H : cHI s) (h : cMd x T u b s s1) (f : cFi x s1 t) (hT : T ≠ 0) : cNt x T s t := by
  have ha := h.ad f
  have enN : cN t = cN s1 := f.1 _ _ (by decide) (fun z => absurd z (by decide))
  have nw : cNw x s t := by
    refine ⟨by rw [enN]; exact h.nw.1, ⟨h.nw.2.1.1, ?_⟩, by rw [enN]; exact h.nw.2.2⟩
    rw [f.2.2.2.2.2.2.2]
    exact h.nw.2.1.2
  have ex : cTy t x = T := f.2.2.2.2.1.trans h.ty
  have et : ∀ y, y ≠ x → cTy t y = cTy s y := fun y q => ha.I _ _ (by decide) (.inl q)
  have lv := fun {y u} (u0 : u ≠ 0) => nw.lv H.1 hT ex et (y := y) (u := u) u0
  refine ⟨(lv hT).2 (.inr ⟨rfl, rfl⟩), fun y u u0 l => ⟨(lv u0).2 (.inl ⟨l, nw.old l u0⟩), nw.old l u0⟩, fun g j q z => ?_, fun g j z => ?_, fun a j k q z => ?_, fun a j k q z => (f.2.2.2.1 a j k q z).trans (h.B a j k), fun y u u0 q l => ((lv u0).1 l).elim (fun w => w.1) (fun w => absurd w.1 q)⟩
  · rw [f.1 g j q.2.2 z]
    refine h.I g j ⟨q.1, q.2.1⟩ ?_
    by_cases v : g / 128 = 145
    · exact .inr (z (by omega))
    · exact .inl v
  · rw [f.2.1 g j z]
    by_cases v : g / 128 = 145
    · exact h.L g j (.inr (z v))
    · exact h.L g j (.inl v)
  · rw [f.2.2.1 a j k q.2.1 z]
    exact h.A a j k q.1
/-- roots stay roots where nothing goes -/
theorem cRw.up {L L' : Int32 → Int32 → Prop} {s t : S1} {a b f : Nat} (h : cRw L s a b f) (hl : ∀ k v, cV L k v → cV L' k v) (ef : gI t f 0 = gI s f 0) (ea : ∀ j, gA t a 0 j = gA s a 0 j) (eb : ∀ j, gB t b 0 j = gB s b 0 j) : cRw L' t a b f := by
  unfold cRw at h ⊢
  rw [ef]
  refine ⟨h.1, fun i i0 i1 => ?_⟩
  rw [ea, eb]
  exact hl _ _ (h.2 i i0 i1)
theorem cV.up {s t : S1} (up : ∀ y u, u ≠ 0 → cLv false s y u → cLv false t y u) {k : Int32} {v : Int64} (q : cV (cLv false s) k v) : cV (cLv false t) k v := by
  rcases q with q | ⟨q1, q2, q3⟩ | ⟨q1, q2 | ⟨q2, q3 | q3⟩⟩
  · exact .inl q
  · exact .inr (.inl ⟨q1, q2, up _ _ (fun z => by rw [z] at q1; exact absurd q1 (by decide)) q3⟩)
  · exact .inr (.inr ⟨q1, .inl q2⟩)
  · exact .inr (.inr ⟨q1, .inr ⟨q2, .inl (up _ _ (by decide) q3)⟩⟩)
  · exact .inr (.inr ⟨q1, .inr ⟨q2, .inr (up _ _ (by decide) q3)⟩⟩)
/-- the fields and rows that the roots read -/
def rtI (f : Nat) : Prop := f = 16394 ∨ f = 16395 ∨ f = 18050 ∨ f = 17666 ∨ f = 16898 ∨ f = 12938 ∨ f = 19071 ∨ f = 18950 ∨ f = 18951 ∨ f = 18955
def rtA (a : Nat) : Prop := a = 142 ∨ a = 139 ∨ a = 133 ∨ a = 115 ∨ a = 105
def rtB (a : Nat) : Prop := a = 143 ∨ a = 140 ∨ a = 134 ∨ a = 106
theorem cRt.up {s t : S1} (R : cRt s) (up : ∀ y u, u ≠ 0 → cLv false s y u → cLv false t y u) (hI : ∀ f j, rtI f → gI t f j = gI s f j) (hA : ∀ a j k, rtA a → gA t a j k = gA s a j k) (hB : ∀ a j k, rtB a → gB t a j k = gB s a j k) (hy : ∀ y, cLv false s y 4 → cSy t y = cSy s y) : cRt t := by
  obtain ⟨R1, ⟨R2, ρ, hl⟩, R3, R4, R5, R6, R7⟩ := R
  have cv : ∀ k v, cV (cLv false s) k v → cV (cLv false t) k v := fun k v => cV.up up
  refine ⟨?_, ⟨?_, ρ, hl.congr (fun c => ?_) (fun _ _ => rfl) (fun c _ => ?_) ?_⟩, R3.up cv ?_ (fun j => ?_) (fun j => hB _ _ _ (by unfold rtB; decide)), R4.up cv ?_ (fun j => ?_) (fun j => hB _ _ _ (by unfold rtB; decide)), R5.up cv ?_ (fun j => ?_) (fun j => hB _ _ _ (by unfold rtB; decide)), fun i a b => ?_, fun i a b => ?_⟩
  · rw [hI 16394 0 (by unfold rtI; decide)]
    exact up _ _ (by decide) R1
  · rw [show mCur t = mCur s from hI _ _ (by unfold rtI; decide)]
    exact R2
  · unfold cMb pC oSl
    rw [hI 19071 c (by unfold rtI; decide), hI 18950 c (by unfold rtI; decide), hI 18951 c (by unfold rtI; decide), show mCur t = mCur s from hI _ _ (by unfold rtI; decide)]
  · exact hI _ _ (by unfold rtI; decide)
  · exact hI _ _ (by unfold rtI; decide)
  · exact hI _ _ (by unfold rtI; decide)
  · exact hA _ _ _ (by unfold rtA; decide)
  · exact hI _ _ (by unfold rtI; decide)
  · exact hA _ _ _ (by unfold rtA; decide)
  · exact hI _ _ (by unfold rtI; decide)
  · exact hA _ _ _ (by unfold rtA; decide)
  · rw [hA 115 0 i (by unfold rtA; decide)]
    have w := R6 i a b
    exact ⟨up _ _ (by decide) w.1, by rw [hy _ w.1]; exact w.2⟩
  · rw [hI 12938 0 (by unfold rtI; decide)] at b
    rw [hA 105 0 i (by unfold rtA; decide), hB 106 0 i (by unfold rtB; decide)]
    have w := R7 i a b
    refine ⟨w.1, fun q => ⟨(w.2 q).1, up _ _ (by decide) (w.2 q).2.1, ?_⟩⟩
    rw [hy _ (w.2 q).2.1]
    exact (w.2 q).2.2
theorem cNt.rt {x T : Int32} {s t : S1} (h : cNt x T s t) (R : cRt s) : cRt t := by
  refine R.up (fun y u u0 l => (h.2.1 y u u0 l).1) (fun f j q => ?_) (fun a j k q => ?_) (fun a j k q => ?_) (fun y l => ?_)
  · refine h.2.2.1 f j ?_ (fun z => ?_)
    · rcases q with rfl | rfl | rfl | rfl | rfl | rfl | rfl | rfl | rfl | rfl <;> decide
    · rcases q with rfl | rfl | rfl | rfl | rfl | rfl | rfl | rfl | rfl | rfl <;> exact absurd z (by decide)
  · refine h.2.2.2.2.1 a j k ?_ (fun z => ?_)
    · rcases q with rfl | rfl | rfl | rfl | rfl <;> decide
    · rcases q with rfl | rfl | rfl | rfl | rfl <;> exact absurd z (by decide)
  · refine h.2.2.2.2.2.1 a j k ?_ (fun z => ?_)
    · rcases q with rfl | rfl | rfl | rfl <;> decide
    · rcases q with rfl | rfl | rfl | rfl <;> exact absurd z (by decide)
  · exact h.2.2.1 _ _ (by decide) (fun _ => (h.2.1 y 4 (by decide) l).2)
theorem cMd.plain {x T u b : Int32} {s s1 t : S1} (H : cHR s) (h40 : 0 ≤ (cTl s 4).toInt) (h : cMd x T u b s s1) (f : cFi x s1 t) (hT : T = 5 ∨ T = 6 ∨ T = 8 ∨ T = 9) (ox : cPv (cLv false t) t x ∧ cTs t x) (h5 : T = 5 → (cR t x).toInt ≤ 0) (h8 : T = 8 → cLk t x < 0) : cHR t ∧ cNt x T s t := by
  have T0 : T ≠ 0 := by
    rcases hT with rfl | rfl | rfl | rfl <;> decide
  have nt := h.nt H.1 f T0
  have enN : cN t = cN s1 := f.1 _ _ (by decide) (fun z => absurd z (by decide))
  have enF : cFc t = cFc s1 := f.1 _ _ (by decide) (fun z => absurd z (by decide))
  have tl : ∀ j, cTl t j = cTl s1 j := fun j => f.2.2.1 _ _ _ (by decide) (fun z => absurd z (by decide))
  have nw : cNw x s t := by
    refine ⟨by rw [enN]; exact h.nw.1, ⟨h.nw.2.1.1, ?_⟩, by rw [enN]; exact h.nw.2.2⟩
    rw [f.2.2.2.2.2.2.2]
    exact h.nw.2.1.2
  refine ⟨⟨H.1.plain (h.ad f) nw hT (f.2.2.2.2.1.trans h.ty) ?_ ⟨ox.1, ox.2, ?_, ?_⟩ ?_ ?_ ?_ (fun i => ?_) (fun i a b => ?_) (fun i => ?_) (fun y q => nt.2.2.1 _ _ (by decide) (fun _ => q)) (fun c _ => nt.2.2.1 _ _ (by decide) (fun z => absurd z (by decide))) h5 h8, fun l => nt.rt (H.2 ?_)⟩, nt⟩
  · rw [tl, h.t4]
    omega
  · exact f.2.2.2.2.2.2.1.trans h.sy
  · rw [f.2.2.2.2.2.1, h.nu, tl, h.t4]
    omega
  · exact (tl 6).trans h.t6
  · exact (tl 11).trans h.t11
  · rw [enF, enN, tl]
    exact h.fc
  · exact (f.2.2.1 _ _ _ (by decide) (fun z => absurd z (by decide))).trans (h.A _ _ _ (by decide))
  · rw [enF] at b
    exact h.fi i a b
  · exact (f.2.2.1 _ _ _ (by decide) (fun z => absurd z (by decide))).trans (h.A _ _ _ (by decide))
  · rw [← nt.2.2.1 14221 0 (by decide) (fun z => absurd z (by decide))]
    exact l
/-- what a maker leaves -/
def mdQ (s : S1) (e : Nat × Nat) (T : Int32) (F : Int32 → S1 → Prop) (r : Int32 × (Nat × Nat)) (s' : S1) : Prop := ∃ s0, cMg s s0 ∧ cHR s0 ∧ cRo s' r.2 e ∧ (((r.1 = -10 ∨ r.1 = -11) ∧ s' = s0) ∨ (0 ≤ r.1 ∧ cHR s' ∧ cNt r.1 T s0 s' ∧ F r.1 s'))
theorem cRo.le {s : S1} {n e e' : Nat × Nat} (h : cRo s n e) (h1 : e'.1 ≤ e.1) (h2 : e'.2 ≤ e.2) : cRo s n e' := by
  obtain ⟨a, x, y, z, b, c, d⟩ := h
  exact ⟨a, x, y, z, b, by omega, by omega⟩
theorem cRo.fi {x : Int32} {s t : S1} {n e : Nat × Nat} (h : cRo s n e) (hI : ∀ f j, f = 15230 ∨ f = 14220 ∨ f = 18687 ∨ f = 18559 ∨ f = 19071 ∨ f = 18815 ∨ f = 18943 ∨ f = 18942 ∨ f = 18814 → gI t f j = gI s f j) (hT : ∀ j, j = 4 ∨ j = 12 ∨ j = 13 ∨ j = 14 → cTl t j = cTl s j) : cRo t n e := by
  obtain ⟨a, x, y, z, b, c⟩ := h
  refine ⟨?_, x, y, z, ?_, ?_⟩
  · unfold cAl at a ⊢
    rw [hT 4 (by decide), hT 12 (by decide), hT 13 (by decide), hT 14 (by decide), hI 15230 0 (by decide), hI 14220 0 (by decide)]
    exact a
  · unfold cHw at b ⊢
    simp only [hI 18687 _ (by decide), hI 18559 _ (by decide), hI 19071 _ (by decide), hI 18815 _ (by decide), hI 18943 _ (by decide), hI 18942 _ (by decide), hI 18814 _ (by decide)]
    exact b
  · unfold cNd at c ⊢
    rw [hT 12 (by decide), hT 13 (by decide), hT 14 (by decide), hI 15230 0 (by decide)]
    exact c
theorem cRo.row {s t : S1} {m e : Nat × Nat} {x : Int32} {k : Nat} (r : cRo s m (e.1 + 1, e.2 + k)) (px : gI s 18687 x = 1) (I : ∀ f j, f = 15230 ∨ f = 14220 ∨ f = 18687 ∨ f = 18559 ∨ f = 19071 → gI t f j = gI s f j) (F : ∀ f j, f = 18815 ∨ f = 18943 ∨ f = 18942 ∨ f = 18814 → j ≠ x → gI t f j = gI s f j)
    (U : gI t 18943 x = 1 → 0 ≤ (gI t 18942 x).toInt) (B : gI t 18815 x = 1 → 0 ≤ (gI t 18814 x).toInt ∧ (gI t 18814 x).toInt ≤ 400000) (T : ∀ j, cTl t j = cTl s j) : cRo t (m.1 - 1, m.2 - k) e := by
  obtain ⟨al, a, b, c, hw, c1, c2⟩ := r
  refine ⟨?_, a, b, c, ?_, ?_, ?_⟩
  · unfold cAl at al ⊢
    rw [T, T, T, T, I 15230 0 (by decide), I 14220 0 (by decide)]
    exact al
  · obtain ⟨w1, w2, w3, w4, w5⟩ := hw
    unfold cHw
    simp only [I 18687 _ (by decide), I 18559 _ (by decide), I 19071 _ (by decide)]
    refine ⟨w1, w2, w3, w4, fun y y0 y1 => ?_⟩
    by_cases q : y = x
    · subst q
      exact ⟨fun z => absurd px z, U, B⟩
    · rw [F 18815 y (by decide) q, F 18943 y (by decide) q, F 18942 y (by decide) q, F 18814 y (by decide) q]
      exact w5 y y0 y1
  · unfold cNd at c1 ⊢
    simp only [T, I 15230 0 (by decide)]
    dsimp only at c1
    omega
  · unfold cNd at c2 ⊢
    simp only [T, I 15230 0 (by decide)]
    dsimp only at c2
    omega
theorem neg_not {x : Int32} (h : x = -10 ∨ x = -11) : x < 0 := by
  rcases h with rfl | rfl <;> decide
theorem makeTable_ok {s : S1} {n e : Nat × Nat} (H : cHR s) (R : cRo s n e) : ok (M_Ta_make n) s (mdQ s e 5 (fun x s' => cMt s' x = -1 ∧ cR s' x = 0)) := by
  simp only [M_Ta_make, ok_B, ok_C, ok_R, ok_L, ok_K, ok_GI, ok_GL, ok_PI, ok_PL, ok_AI, ok_AL, ok_SI, ok_SL, ok_CI, cmp_lt, cmp_le, cmp_gt, cmp_ge, cmp_eq, nar0, nar1, Sum.elim_inl, Sum.elim_inr, ok_PzT, ok_PzC, ok_PzP, ok_PrC, ok_PrP, ok_PrF, ok_PrN, ok_Ln, ok_CL, ok_Nw, ok_S, ok_Ks, ok_Nz]
  refine ok_mono (make_ok H R 5 0 0 ⟨by decide, by decide⟩ ⟨by decide, by decide⟩) ?_
  rintro ⟨x, m⟩ s1 ⟨s0, mg, h0, r0, w⟩
  dsimp only at w
  rcases w with ⟨w1, rfl, rfl⟩ | ⟨x0, md, -, r1⟩
  · refine ⟨fun _ => ⟨_, mg, h0, r0, .inl ⟨w1, rfl⟩⟩, fun c => absurd (neg_not w1) c⟩
  · refine ⟨fun c => absurd x0 (by clear H R h0 r0 md r1 mg; dsimp only at c; grind), fun _ => ?_⟩
    have px := md.nw.2.1
    refine ⟨px, s0, mg, h0, ?_, .inr ⟨x0, ?_⟩⟩
    · refine cRo.fi (x := x) (r1.le (Nat.le_succ _) (by dsimp only; omega)) (fun f j q => ?_) (fun j _ => rfl)
      rcases q with rfl | rfl | rfl | rfl | rfl | rfl | rfl | rfl | rfl <;> simp only [gI_sI, gI_sL, gI_sA, gI_sB, gI_sAf, gI_sBf, gL_sI, gL_sL, gL_sA, gL_sB, gL_sAf, gL_sBf, gA_sI, gA_sL, gA_sA, gA_sB, gA_sAf, gA_sBf, gB_sI, gB_sL, gB_sA, gB_sB, gB_sAf, gB_sBf, Nat.reduceEqDiff, Nat.reduceMul, Nat.reduceAdd, false_and, true_and, and_true, and_false, if_true, if_false]
    · have fi : cFi x s1 (sI (sI (sI (sI (sI s1 18571 x 0) 18572 x 0) 18573 x 0) 18574 x (-1)) 18575 x 0) := by
        refine ⟨fun f j q w => ?_, fun _ _ _ => rfl, fun _ _ _ _ _ => rfl, fun _ _ _ _ _ => rfl, ?_, ?_, ?_, ?_⟩
        · have nj : ∀ g : Nat, g / 128 = 145 → ¬ (f = g ∧ j = x) := fun g hg z => by
            rw [z.1] at w
            exact w (by omega) z.2
          rw [gI_sI, if_neg (nj _ (by decide)), gI_sI, if_neg (nj _ (by decide)), gI_sI, if_neg (nj _ (by decide)), gI_sI, if_neg (nj _ (by decide)), gI_sI, if_neg (nj _ (by decide))]
        · simp only [cTy, gI_sI, gI_sL, gI_sA, gI_sB, gI_sAf, gI_sBf, gL_sI, gL_sL, gL_sA, gL_sB, gL_sAf, gL_sBf, gA_sI, gA_sL, gA_sA, gA_sB, gA_sAf, gA_sBf, gB_sI, gB_sL, gB_sA, gB_sB, gB_sAf, gB_sBf, Nat.reduceEqDiff, Nat.reduceMul, Nat.reduceAdd, false_and, true_and, and_true, and_false, if_true, if_false]
        · simp only [cNu, gI_sI, gI_sL, gI_sA, gI_sB, gI_sAf, gI_sBf, gL_sI, gL_sL, gL_sA, gL_sB, gL_sAf, gL_sBf, gA_sI, gA_sL, gA_sA, gA_sB, gA_sAf, gA_sBf, gB_sI, gB_sL, gB_sA, gB_sB, gB_sAf, gB_sBf, Nat.reduceEqDiff, Nat.reduceMul, Nat.reduceAdd, false_and, true_and, and_true, and_false, if_true, if_false]
        · simp only [cSy, gI_sI, gI_sL, gI_sA, gI_sB, gI_sAf, gI_sBf, gL_sI, gL_sL, gL_sA, gL_sB, gL_sAf, gL_sBf, gA_sI, gA_sL, gA_sA, gA_sB, gA_sAf, gA_sBf, gB_sI, gB_sL, gB_sA, gB_sB, gB_sAf, gB_sBf, Nat.reduceEqDiff, Nat.reduceMul, Nat.reduceAdd, false_and, true_and, and_true, and_false, if_true, if_false]
        · simp only [gI_sI, gI_sL, gI_sA, gI_sB, gI_sAf, gI_sBf, gL_sI, gL_sL, gL_sA, gL_sB, gL_sAf, gL_sBf, gA_sI, gA_sL, gA_sA, gA_sB, gA_sAf, gA_sBf, gB_sI, gB_sL, gB_sA, gB_sB, gB_sAf, gB_sBf, Nat.reduceEqDiff, Nat.reduceMul, Nat.reduceAdd, false_and, true_and, and_true, and_false, if_true, if_false]
      have f1 : cMt (sI (sI (sI (sI (sI s1 18571 x 0) 18572 x 0) 18573 x 0) 18574 x (-1)) 18575 x 0) x = -1 := by
        simp only [cMt, gI_sI, gI_sL, gI_sA, gI_sB, gI_sAf, gI_sBf, gL_sI, gL_sL, gL_sA, gL_sB, gL_sAf, gL_sBf, gA_sI, gA_sL, gA_sA, gA_sB, gA_sAf, gA_sBf, gB_sI, gB_sL, gB_sA, gB_sB, gB_sAf, gB_sBf, Nat.reduceEqDiff, Nat.reduceMul, Nat.reduceAdd, false_and, true_and, and_true, and_false, if_true, if_false]
      have f2 : cR (sI (sI (sI (sI (sI s1 18571 x 0) 18572 x 0) 18573 x 0) 18574 x (-1)) 18575 x 0) x = 0 := by
        simp only [cR, gI_sI, gI_sL, gI_sA, gI_sB, gI_sAf, gI_sBf, gL_sI, gL_sL, gL_sA, gL_sB, gL_sAf, gL_sBf, gA_sI, gA_sL, gA_sA, gA_sB, gA_sAf, gA_sBf, gB_sI, gB_sL, gB_sA, gB_sB, gB_sAf, gB_sBf, Nat.reduceEqDiff, Nat.reduceMul, Nat.reduceAdd, false_and, true_and, and_true, and_false, if_true, if_false]
      have f3 : cS0 (sI (sI (sI (sI (sI s1 18571 x 0) 18572 x 0) 18573 x 0) 18574 x (-1)) 18575 x 0) x = 0 := by
        simp only [cS0, gI_sI, gI_sL, gI_sA, gI_sB, gI_sAf, gI_sBf, gL_sI, gL_sL, gL_sA, gL_sB, gL_sAf, gL_sBf, gA_sI, gA_sL, gA_sA, gA_sB, gA_sAf, gA_sBf, gB_sI, gB_sL, gB_sA, gB_sB, gB_sAf, gB_sBf, Nat.reduceEqDiff, Nat.reduceMul, Nat.reduceAdd, false_and, true_and, and_true, and_false, if_true, if_false]
      have f4 : cE (sI (sI (sI (sI (sI s1 18571 x 0) 18572 x 0) 18573 x 0) 18574 x (-1)) 18575 x 0) x = 0 := by
        simp only [cE, gI_sI, gI_sL, gI_sA, gI_sB, gI_sAf, gI_sBf, gL_sI, gL_sL, gL_sA, gL_sB, gL_sAf, gL_sBf, gA_sI, gA_sL, gA_sA, gA_sB, gA_sAf, gA_sBf, gB_sI, gB_sL, gB_sA, gB_sB, gB_sAf, gB_sBf, Nat.reduceEqDiff, Nat.reduceMul, Nat.reduceAdd, false_and, true_and, and_true, and_false, if_true, if_false]
      have f5 : cTop (sI (sI (sI (sI (sI s1 18571 x 0) 18572 x 0) 18573 x 0) 18574 x (-1)) 18575 x 0) = cTop s0 := by
        simp only [cTop, gI_sI, gI_sL, gI_sA, gI_sB, gI_sAf, gI_sBf, gL_sI, gL_sL, gL_sA, gL_sB, gL_sAf, gL_sBf, gA_sI, gA_sL, gA_sA, gA_sB, gA_sAf, gA_sBf, gB_sI, gB_sL, gB_sA, gB_sB, gB_sAf, gB_sBf, Nat.reduceEqDiff, Nat.reduceMul, Nat.reduceAdd, false_and, true_and, and_true, and_false, if_true, if_false]
        exact md.I _ _ (by decide) (.inl (by decide))
      generalize sI (sI (sI (sI (sI s1 18571 x 0) 18572 x 0) 18573 x 0) 18574 x (-1)) 18575 x 0 = t at fi f1 f2 f3 f4 f5
      have ty : cTy t x = 5 := fi.2.2.2.2.1.trans md.ty
      have pl := md.plain h0 r0.1.1.1 fi (.inl rfl) ⟨cPv.of5 ty ⟨.inl (by rw [f1]; decide), fun i a b => ?_⟩, fun _ => ?_⟩ (fun _ => by rw [f2]; decide) (fun z => absurd z (by decide))
      · exact ⟨pl.1, pl.2, f1, f2⟩
      · rw [f4] at b
        exact absurd b (by clear H R h0 r0 md r1 mg fi; grind)
      · rw [f2, f3, f4, f5]
        obtain ⟨S, W, tp, -⟩ := h0.1.2.2.2.2.2
        refine ⟨⟨by decide, by decide, ?_, by decide⟩, fun i a b => absurd b (by clear H R h0 r0 md r1 mg fi; grind), fun i a b => absurd b (by clear H R h0 r0 md r1 mg fi; grind)⟩
        rw [i32_le]
        have : ((0 : Int32) + 0).toInt = 0 := rfl
        omega
