/-! The class: what a coroutine holds is reached. -/
/-- a coroutine's variables -/
def cOp (s : S1) (c y : Int32) : Prop := cLv false s y 8 ∧ cLk s y = c
/-- its chain of variables -/
def cCn (s : S1) (c : Int32) : Prop := Ls (cOp s c) (fun y => (cPl s y).toInt) (cNx s) (oNo s c) ∧ ∀ y, cOp s c y → 0 ≤ cPl s y ∧ cPl s y < 4000
theorem reachC1_ok {E : Int32 → Prop} {s0 s : S1} (h : MI E s0 s) (c : Int32) (hu : 0 ≤ oU s0 c ∧ oU s0 c ≤ 4000)
    (h2 : ∀ i, 0 ≤ i → i < oU s0 c → cV (cLv false s0) (oRk s0 c i) (oRv s0 c i)) :
    ok (oW M_He_reachFromCoroutine_L12 (c, 0)) s (fun e s' => e = c ∧ MI E s0 s' ∧ cMk s s' ∧ ∀ i, 0 ≤ i → i < oU s0 c → cV (cLv true s') (oRk s0 c i) (oRv s0 c i)) := by
  refine ok_W (fun y s1 => y.1 = c ∧ (0 ≤ y.2 ∧ y.2 ≤ oU s0 c) ∧ MI E s0 s1 ∧ cMk s s1 ∧ ∀ i, 0 ≤ i → i < y.2 → cV (cLv true s1) (oRk s0 c i) (oRv s0 c i)) (fun y _ => (oU s0 c - y.2).toNatClampNeg) ?_ _ _ ⟨rfl, ⟨by show (0 : Int32) ≤ 0; decide, hu.1⟩, h, .refl s, fun i b d => absurd d (by dsimp only; clear h h2; grind)⟩
  rintro ⟨c', i⟩ s1 ⟨rfl, hi, hm, hs, hv⟩
  dsimp only at hi hv hu h2
  have hk := hm.1
  simp only [M_He_reachFromCoroutine_L12, ok_B, ok_C, ok_R, ok_L, ok_K, ok_GI, ok_GL, ok_PI, ok_PL, ok_AI, ok_AL, ok_SI, ok_SL, ok_Pr, ok_CI, cmp_lt, cmp_le, cmp_gt, cmp_ge, cmp_eq, nar0, nar1, Sum.elim_inl, Sum.elim_inr]
  simp only [hk.I 18949 (by decide), hk.A 149 (by decide), hk.B 150]
  refine ⟨fun d => ⟨by trivial, hm, hs, fun j b e => hv j b ?_⟩, fun d => ⟨?_, ?_, ?_⟩⟩
  · clear h h2 hv hm hs hk
    grind
  · clear h h2 hv hm hs hk
    grind
  · clear h h2 hv hm hs hk
    grind
  · have hv0 := h2 i hi.1 (by clear h h2 hv hm hs hk; grind)
    refine ok_mono (reachV_ok hm _ _ hv0) ?_
    rintro - s2 ⟨m2, k2, v2⟩
    refine ⟨⟨by trivial, ?_, m2, hs.trans k2, fun j b e => ?_⟩, ?_⟩
    · clear h h2 hv hm hs hk v2 m2 k2 hv0
      grind
    · by_cases q : j < i
      · exact (hv j b q).mk k2
      · have : j = i := by
          clear h h2 hv hm hs hk v2 m2 k2 hv0
          grind
        rw [this]
        exact v2
    · clear h h2 hv hm hs hk v2 m2 k2 hv0
      exact clamp_lt (by grind) (by grind)
theorem reachC2_ok {E : Int32 → Prop} {s0 s : S1} (h : MI E s0 s) (c : Int32) (hu : 0 ≤ oD s0 c ∧ oD s0 c ≤ 200)
    (h2 : ∀ j, 0 ≤ j → j < oD s0 c → (mFn s0 (c * 200 + j) < 0 ∨ cLv false s0 (mFn s0 (c * 200 + j)) 6 ∨ cLv false s0 (mFn s0 (c * 200 + j)) 9) ∧ cV (cLv false s0) (mJk s0 (c * 200 + j)) (mJv s0 (c * 200 + j))) :
    ok (oW M_He_reachFromCoroutine_L44 (c, 0)) s (fun e s' => e = c ∧ MI E s0 s' ∧ cMk s s' ∧ ∀ j, 0 ≤ j → j < oD s0 c → (mFn s0 (c * 200 + j) < 0 ∨ cLv true s' (mFn s0 (c * 200 + j)) 6 ∨ cLv true s' (mFn s0 (c * 200 + j)) 9) ∧ cV (cLv true s') (mJk s0 (c * 200 + j)) (mJv s0 (c * 200 + j))) := by
  refine ok_W (fun y s1 => y.1 = c ∧ (0 ≤ y.2 ∧ y.2 ≤ oD s0 c) ∧ MI E s0 s1 ∧ cMk s s1 ∧ ∀ j, 0 ≤ j → j < y.2 → (mFn s0 (c * 200 + j) < 0 ∨ cLv true s1 (mFn s0 (c * 200 + j)) 6 ∨ cLv true s1 (mFn s0 (c * 200 + j)) 9) ∧ cV (cLv true s1) (mJk s0 (c * 200 + j)) (mJv s0 (c * 200 + j))) (fun y _ => (oD s0 c - y.2).toNatClampNeg) ?_ _ _ ⟨rfl, ⟨by show (0 : Int32) ≤ 0; decide, hu.1⟩, h, .refl s, fun i b d => absurd d (by dsimp only; clear h h2; grind)⟩
  rintro ⟨c', i⟩ s1 ⟨rfl, hi, hm, hs, hv⟩
  dsimp only at hi hv hu h2
  have hk := hm.1
  simp only [M_He_reachFromCoroutine_L44, ok_B, ok_C, ok_R, ok_L, ok_K, ok_GI, ok_GL, ok_PI, ok_PL, ok_AI, ok_AL, ok_SI, ok_SL, ok_Pr, ok_CI, cmp_lt, cmp_le, cmp_gt, cmp_ge, cmp_eq, nar0, nar1, Sum.elim_inl, Sum.elim_inr]
  simp only [hk.I 18948 (by decide), hk.I 19457 (by decide)]
  refine ⟨fun d => ⟨by trivial, hm, hs, fun j b e => hv j b ?_⟩, fun d => ⟨?_, ?_⟩⟩
  · clear h h2 hv hm hs hk
    grind
  · clear h h2 hv hm hs hk
    grind
  · have hv0 := h2 i hi.1 (by clear h h2 hv hm hs hk; grind)
    refine ok_mono (reachL_ok hm 6 _ (by decide) (hv0.1.imp id (fun q => q.elim (fun q => q.r59 (by decide) (by decide)) (fun q => q.r59 (by decide) (by decide))))) ?_
    rintro - s2 ⟨m2, k2, v2⟩
    have hk2 := m2.1
    simp only [hk2.I 19462 (by decide), hk2.L 19463]
    refine ⟨?_, ?_, ?_⟩
    · clear h h2 hv hm hs hk hk2 v2 m2 k2 hv0
      grind
    · clear h h2 hv hm hs hk hk2 v2 m2 k2 hv0
      grind
    refine ok_mono (reachV_ok m2 _ _ hv0.2) ?_
    rintro - s3 ⟨m3, k3, v3⟩
    refine ⟨⟨by trivial, ?_, m3, hs.trans (k2.trans k3), fun j b e => ?_⟩, ?_⟩
    · clear h h2 hv hm hs hk hk2 v2 m2 k2 hv0 v3 m3 k3
      grind
    · by_cases q : j < i
      · have := hv j b q
        refine ⟨?_, (this.2.mk k2).mk k3⟩
        rcases this.1 with w | w | w
        · exact .inl w
        · exact .inr (.inl ((w.mk k2).mk k3))
        · exact .inr (.inr ((w.mk k2).mk k3))
      · have : j = i := by
          clear h h2 hv hm hs hk hk2 v2 m2 k2 hv0 v3 m3 k3
          grind
        rw [this]
        refine ⟨?_, v3⟩
        rcases hv0.1 with w | w | w
        · exact .inl w
        · have l2 := w.mk m3.1
          exact .inr (.inl ⟨l2.1, l2.2.1, fun _ => k3.2.2.2.2 _ (v2 w.1.1)⟩)
        · have l2 := w.mk m3.1
          exact .inr (.inr ⟨l2.1, l2.2.1, fun _ => k3.2.2.2.2 _ (v2 w.1.1)⟩)
    · clear h h2 hv hm hs hk hk2 v2 m2 k2 hv0 v3 m3 k3
      exact clamp_lt (by grind) (by grind)
theorem reachC3_ok {E : Int32 → Prop} {s0 s : S1} (h : MI E s0 s) (c : Int32) (hc : cCn s0 c) (hN : cNr s0) :
    ok (oW M_He_reachFromCoroutine_L103 (oNo s0 c, 0)) s (fun _ s' => MI E s0 s' ∧ cMk s s' ∧ ∀ y, cOp s0 c y → cLv true s' y 8) := by
  obtain ⟨⟨l1, l2, l3, l4, l5⟩, hb'⟩ := hc
  dsimp only at l2 l3 l4 l5
  have e0 : (0 : Int32).toInt = 0 := rfl
  have e4 : (4000 : Int32).toInt = 4000 := rfl
  have e1 : (1 : Int32).toInt = 1 := rfl
  have hb : ∀ y, cOp s0 c y → 0 ≤ (cPl s0 y).toInt ∧ (cPl s0 y).toInt < 4000 := fun y a => by
    have := hb' y a
    rw [i32_le, i32_lt] at this
    omega
  clear hb'
  refine ok_W (fun y s1 => (0 ≤ y.1 → cOp s0 c y.1 ∧ y.2.toInt + (cPl s0 y.1).toInt ≤ 3999) ∧ (0 ≤ y.2.toInt ∧ y.2.toInt ≤ 4000) ∧ MI E s0 s1 ∧ cMk s s1 ∧ ∀ z, cOp s0 c z → (0 ≤ y.1 → (cPl s0 y.1).toInt < (cPl s0 z).toInt) → cLv true s1 z 8) (fun y _ => (4000 - y.2.toInt).toNat) ?_ _ _ ⟨fun a => ⟨l1 a, ?_⟩, ⟨by dsimp only; omega, by dsimp only; omega⟩, h, .refl s, fun z a b => ?_⟩
  · rintro ⟨x, n⟩ s1 ⟨hx, hn, hm, hs, hv⟩
    dsimp only at hx hn hv
    have hk := hm.1
    simp only [M_He_reachFromCoroutine_L103, ok_B, ok_C, ok_R, ok_L, ok_K, ok_GI, ok_GL, ok_PI, ok_PL, ok_AI, ok_AL, ok_SI, ok_SL, ok_Pr, ok_CI, cmp_lt, cmp_le, cmp_gt, cmp_ge, cmp_eq, nar0, nar1, Sum.elim_inl, Sum.elim_inr, ok_PzT]
    refine ⟨fun d => ⟨hm, hs, fun y a => hv y a (fun b => absurd b ?_)⟩, fun d => ⟨fun e => ?_, fun e => ?_⟩⟩
    · rw [i32_lt] at d
      rw [i32_le]
      omega
    · have x0 : 0 ≤ x := by
        rw [i32_lt] at d
        rw [i32_le]
        omega
      have := hx x0
      have b := hb x this.1
      rw [i32_le] at e
      omega
    · have x0 : 0 ≤ x := by
        rw [i32_lt] at d
        rw [i32_le]
        omega
      obtain ⟨ox, kx⟩ := hx x0
      have bx := hb x ox
      have en : (n + 1).toInt = n.toInt + 1 := by
        rw [ktI_add] <;> omega
      refine ok_mono (reachL_ok hm 8 x (by decide) (.inr (ox.1.r59 (by decide) (by decide)))) ?_
      rintro - s2 ⟨m2, k2, v2⟩
      have hk2 := m2.1
      simp only [hk2.I 18565 (by decide)]
      refine ⟨m2.2.1.2 x x0 (by have := ox.1.1.2; unfold cN at this ⊢; rw [hk2.I 14209 (by decide)]; exact this), ⟨fun a => ?_, ?_, m2, hs.trans k2, fun z a b => ?_⟩, ?_⟩
      · have q := l3 x ox a
        have bq := hb _ q.1
        refine ⟨q.1, ?_⟩
        have q2 := q.2
        show (n + 1).toInt + (cPl s0 (cNx s0 x)).toInt ≤ 3999
        omega
      · rw [en]
        rw [i32_le] at e
        omega
      · by_cases q : z = x
        · subst q
          have l2' := ox.1.mk m2.1
          exact ⟨l2'.1, l2'.2.1, fun _ => v2 x0⟩
        · by_cases w : (cPl s0 x).toInt < (cPl s0 z).toInt
          · exact (hv z a (fun _ => w)).mk k2
          · have ne : (cPl s0 z).toInt ≠ (cPl s0 x).toInt := fun f => q (l5 z x a ox f)
            have r := l4 z x a ox (by omega)
            have r2 : (cPl s0 (cNx s0 x)).toInt < (cPl s0 z).toInt := b r.1
            have r3 := r.2
            omega
      · rw [en]
        rw [i32_le] at e
        omega
  · have := hb _ (l1 a)
    dsimp only
    omega
  · have := l2 z a
    have r := b this.1
    dsimp only at r
    omega
theorem reachCo_ok {E : Int32 → Prop} {s0 s : S1} (h : MI E s0 s) (x : Int32) (hN : cNr s0) (ht : cTy s0 x = 7) (hp : cPv (cLv false s0) s0 x) (hc : cCn s0 (cLk s0 x)) :
    ok (M_He_reachFromCoroutine (cLk s0 x)) s (fun _ s' => MI E s0 s' ∧ cMk s s' ∧ cPv (cLv true s') s' x) := by
  obtain ⟨p1, p2, h1, ⟨h2, h3⟩, ⟨h4, h5⟩, h6⟩ := hp.2.2.2.1 ht
  have hk := h.1
  simp only [M_He_reachFromCoroutine, ok_B, ok_C, ok_R, ok_L, ok_K, ok_GI, ok_GL, ok_PI, ok_PL, ok_AI, ok_AL, ok_SI, ok_SL, ok_Pr, ok_CI, cmp_lt, cmp_le, cmp_gt, cmp_ge, cmp_eq, nar0, nar1, Sum.elim_inl, Sum.elim_inr]
  rw [hk.L 18953]
  refine ok_mono (reachV_ok h 6 _ h1) ?_
  rintro - s2 ⟨m2, k2, v2⟩
  refine ok_mono (reachC1_ok m2 _ h2 h3) ?_
  rintro e1 s3 ⟨rfl, m3, k3, v3⟩
  refine ok_mono (reachC2_ok m3 _ h4 h5) ?_
  rintro e2 s4 ⟨rfl, m4, k4, v4⟩
  rw [m4.1.I 18954 (by decide)]
  refine ok_mono (reachC3_ok m4 _ hc hN) ?_
  rintro - s5 ⟨m5, k5, v5⟩
  refine ⟨m5, k2.trans (k3.trans (k4.trans k5)), (cPv.st m5.1).2 (cPv.of7 ht ⟨p1, p2, ((v2.mk k3).mk k4).mk k5, ⟨h2, fun i a b => ((v3 i a b).mk k4).mk k5⟩, ⟨h4, fun j a b => ⟨?_, (v4 j a b).2.mk k5⟩⟩, fun y a b => v5 y ⟨a, b⟩⟩)⟩
  rcases (v4 j a b).1 with w | w | w
  · exact .inl w
  · exact .inr (.inl (w.mk k5))
  · exact .inr (.inr (w.mk k5))
