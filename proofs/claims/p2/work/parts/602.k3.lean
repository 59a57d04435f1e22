/-! The class: what a thing holds is reached. -/
/-- a table's shape -/
def cTs (s : S1) (x : Int32) : Prop := cTy s x = 5 → ((0 ≤ cS0 s x ∧ cS0 s x ≤ 50000) ∧ (0 ≤ cR s x ∧ cR s x ≤ 40000) ∧ cS0 s x + cR s x ≤ cTop s ∧ (0 ≤ cE s x ∧ cE s x ≤ cR s x ∧ (cR s x = 0 → cS0 s x = 0))) ∧ (∀ i, 0 ≤ i → i < cR s x → -1 ≤ cHd s (cS0 s x + i) ∧ cHd s (cS0 s x + i) < cE s x) ∧ ∀ i, 0 ≤ i → i < cE s x → -1 ≤ cCh s (cS0 s x + i) ∧ cCh s (cS0 s x + i) < cE s x
theorem cPv.of4 {L : Int32 → Int32 → Prop} {s : S1} {x : Int32} (h : cTy s x = 4) (a : cBf s x = 1) : cPv L s x :=
  ⟨fun _ => a, fun e => absurd (h.symm.trans e) (by decide), fun e => absurd (h.symm.trans e) (by decide), fun e => absurd (h.symm.trans e) (by decide), fun e => absurd (h.symm.trans e) (by decide), fun e => absurd (h.symm.trans e) (by decide)⟩
theorem cPv.of5 {L : Int32 → Int32 → Prop} {s : S1} {x : Int32} (h : cTy s x = 5) (a : (cMt s x < 0 ∨ L (cMt s x) 5) ∧ ∀ i, 0 ≤ i → i < cE s x → cV L (cKk s (cS0 s x + i)) (cKv s (cS0 s x + i)) ∧ cV L (cVk s (cS0 s x + i)) (cVv s (cS0 s x + i))) : cPv L s x :=
  ⟨fun e => absurd (h.symm.trans e) (by decide), fun _ => a, fun e => absurd (h.symm.trans e) (by decide), fun e => absurd (h.symm.trans e) (by decide), fun e => absurd (h.symm.trans e) (by decide), fun e => absurd (h.symm.trans e) (by decide)⟩
theorem cPv.of6 {L : Int32 → Int32 → Prop} {s : S1} {x : Int32} (h : cTy s x = 6) (a : pP s (cLk s x) ∧ cUf s x = 1 ∧ (0 ≤ cUc s (cLk s x) ∧ cUc s (cLk s x) ≤ cUl s x) ∧ ∀ i, 0 ≤ i → i < cUc s (cLk s x) → L (cUp s x i) 8) : cPv L s x :=
  ⟨fun e => absurd (h.symm.trans e) (by decide), fun e => absurd (h.symm.trans e) (by decide), fun _ => a, fun e => absurd (h.symm.trans e) (by decide), fun e => absurd (h.symm.trans e) (by decide), fun e => absurd (h.symm.trans e) (by decide)⟩
theorem cPv.of7 {L : Int32 → Int32 → Prop} {s : S1} {x : Int32} (h : cTy s x = 7) (a : pC s (cLk s x) ∧ oSl s (cLk s x) = x ∧ cCo L s (cLk s x)) : cPv L s x :=
  ⟨fun e => absurd (h.symm.trans e) (by decide), fun e => absurd (h.symm.trans e) (by decide), fun e => absurd (h.symm.trans e) (by decide), fun _ => a, fun e => absurd (h.symm.trans e) (by decide), fun e => absurd (h.symm.trans e) (by decide)⟩
theorem cPv.of8 {L : Int32 → Int32 → Prop} {s : S1} {x : Int32} (h : cTy s x = 8) (a : (cLk s x < 0 ∧ cV L (cCk s x) (cCv s x)) ∨ (pC s (cLk s x) ∧ (0 ≤ cPl s x ∧ cPl s x < 4000) ∧ cV L (oRk s (cLk s x) (cPl s x)) (oRv s (cLk s x) (cPl s x)))) : cPv L s x :=
  ⟨fun e => absurd (h.symm.trans e) (by decide), fun e => absurd (h.symm.trans e) (by decide), fun e => absurd (h.symm.trans e) (by decide), fun e => absurd (h.symm.trans e) (by decide), fun _ => a, fun e => absurd (h.symm.trans e) (by decide)⟩
theorem cPv.of9 {L : Int32 → Int32 → Prop} {s : S1} {x : Int32} (h : cTy s x = 9) (a : L (cLk s x) 7) : cPv L s x :=
  ⟨fun e => absurd (h.symm.trans e) (by decide), fun e => absurd (h.symm.trans e) (by decide), fun e => absurd (h.symm.trans e) (by decide), fun e => absurd (h.symm.trans e) (by decide), fun e => absurd (h.symm.trans e) (by decide), fun _ => a⟩
theorem cPv.of0 {L : Int32 → Int32 → Prop} {s : S1} {x : Int32} (h : cTy s x = 0) : cPv L s x :=
  ⟨fun e => absurd (h.symm.trans e) (by decide), fun e => absurd (h.symm.trans e) (by decide), fun e => absurd (h.symm.trans e) (by decide), fun e => absurd (h.symm.trans e) (by decide), fun e => absurd (h.symm.trans e) (by decide), fun e => absurd (h.symm.trans e) (by decide)⟩
theorem lt_add32 {a b i : Int32} (ha : 0 ≤ a ∧ a ≤ 50000) (hb : 0 ≤ b ∧ b ≤ 50000) (h1 : a ≤ i) (h2 : i < a + b) : (0 ≤ i - a ∧ i - a < b) ∧ a + (i - a) = i := by
  refine ⟨⟨?_, ?_⟩, ?_⟩
  · grind
  · grind
  · grind
theorem succ_in {a b i : Int32} (ha : 0 ≤ a ∧ a ≤ 50000) (hb : 0 ≤ b ∧ b ≤ 40000) (hi : a ≤ i ∧ i ≤ a + b) (c : ¬ a + b ≤ i) : a ≤ i + 1 ∧ i + 1 ≤ a + b := by
  have e0 : (0 : Int32).toInt = 0 := rfl
  have e1 : (1 : Int32).toInt = 1 := rfl
  have e4 : (40000 : Int32).toInt = 40000 := rfl
  have e5 : (50000 : Int32).toInt = 50000 := rfl
  rw [i32_le, i32_le] at ha hb hi
  rw [i32_le] at c
  have eb : (a + b).toInt = a.toInt + b.toInt := by
    rw [ktI_add] <;> omega
  have ei : (i + 1).toInt = i.toInt + 1 := by
    rw [ktI_add] <;> omega
  rw [i32_le, i32_le]
  omega
/-- a piece of the pool is reached -/
theorem reachT_ok {E : Int32 → Prop} {s0 s : S1} (h : MI E s0 s) (x : Int32) (h1 : (0 ≤ cS0 s0 x ∧ cS0 s0 x ≤ 50000) ∧ (0 ≤ cE s0 x ∧ cE s0 x ≤ 40000) ∧ cS0 s0 x + cE s0 x ≤ 50000)
    (h2 : ∀ i, 0 ≤ i → i < cE s0 x → cV (cLv false s0) (cKk s0 (cS0 s0 x + i)) (cKv s0 (cS0 s0 x + i)) ∧ cV (cLv false s0) (cVk s0 (cS0 s0 x + i)) (cVv s0 (cS0 s0 x + i))) :
    ok (oW M_He_reachFrom_L55 (x, cS0 s0 x)) s (fun _ s' => MI E s0 s' ∧ cMk s s' ∧ ∀ i, 0 ≤ i → i < cE s0 x → cV (cLv true s') (cKk s0 (cS0 s0 x + i)) (cKv s0 (cS0 s0 x + i)) ∧ cV (cLv true s') (cVk s0 (cS0 s0 x + i)) (cVv s0 (cS0 s0 x + i))) := by
  obtain ⟨a1, a2, a3⟩ := h1
  refine ok_W (fun y s1 => y.1 = x ∧ (cS0 s0 x ≤ y.2 ∧ y.2 ≤ cS0 s0 x + cE s0 x) ∧ MI E s0 s1 ∧ cMk s s1 ∧ ∀ i, 0 ≤ i → cS0 s0 x + i < y.2 → i < cE s0 x → cV (cLv true s1) (cKk s0 (cS0 s0 x + i)) (cKv s0 (cS0 s0 x + i)) ∧ cV (cLv true s1) (cVk s0 (cS0 s0 x + i)) (cVv s0 (cS0 s0 x + i))) (fun y _ => (cS0 s0 x + cE s0 x - y.2).toNatClampNeg) ?_ _ _ ⟨rfl, ⟨Int32.le_refl _, by dsimp only; clear h h2; grind⟩, h, .refl s, fun i b c d => absurd c (by dsimp only; clear h h2; grind)⟩
  rintro ⟨x', i⟩ s1 ⟨rfl, hi, hm, hs, hv⟩
  dsimp only at hi hv a1 a2 a3 h2
  have hk := hm.1
  simp only [M_He_reachFrom_L55, ok_B, ok_C, ok_R, ok_L, ok_K, ok_GI, ok_GL, ok_PI, ok_PL, ok_AI, ok_AL, ok_SI, ok_SL, ok_Pr, ok_CI, cmp_lt, cmp_le, cmp_gt, cmp_ge, cmp_eq, nar0, nar1, Sum.elim_inl, Sum.elim_inr]
  simp only [hk.I 18571 (by decide), hk.I 18573 (by decide), hk.A 121 (by decide), hk.B 122]
  refine ⟨fun c => ⟨hm, hs, fun j b d => hv j b ?_ d⟩, fun c => ⟨?_, ?_, ?_⟩⟩
  · clear h h2 hv hm hs hk
    grind
  · clear h h2 hv hm hs hk
    grind
  · clear h h2 hv hm hs hk
    grind
  · have lt := lt_add32 a1 ⟨a2.1, by clear h h2 hv hm hs hk; grind⟩ hi.1 (by clear h h2 hv hm hs hk; grind)
    have hv0 := h2 (i - cS0 s0 x') lt.1.1 lt.1.2
    rw [lt.2] at hv0
    refine ok_mono (reachV_ok hm _ _ hv0.1) ?_
    rintro - s2 ⟨m2, k2, v2⟩
    have hk2 := m2.1
    simp only [hk2.A 123 (by decide), hk2.B 124]
    refine ⟨?_, ?_, ?_⟩
    · clear h h2 hv hm hs hk v2 m2 k2 hv0 hk2
      grind
    · clear h h2 hv hm hs hk v2 m2 k2 hv0 hk2
      grind
    refine ok_mono (reachV_ok m2 _ _ hv0.2) ?_
    rintro - s3 ⟨m3, k3, v3⟩
    refine ⟨⟨by trivial, ?_, m3, hs.trans (k2.trans k3), fun j b d e => ?_⟩, ?_⟩
    · change ¬ cS0 s0 x' + cE s0 x' ≤ i at c
      clear h h2 hv hm hs hk v2 m2 k2 hv0 hk2 v3 m3 k3 lt
      exact succ_in a1 a2 hi c
    · by_cases q : cS0 s0 x' + j < i
      · have := hv j b q e
        exact ⟨(this.1.mk k2).mk k3, (this.2.mk k2).mk k3⟩
      · have : cS0 s0 x' + j = i := by
          clear h h2 hv hm hs hk v2 m2 k2 hv0 hk2 v3 m3 k3
          grind
        rw [this]
        exact ⟨v2.mk k3, v3⟩
    · clear h h2 hv hm hs hk v2 m2 k2 hv0 hk2 v3 m3 k3
      exact clamp_lt (by grind) (by grind)
/-- a function's variables are reached -/
theorem reachU_ok {E : Int32 → Prop} {s0 s : S1} (h : MI E s0 s) (x n : Int32) (hu : cUf s0 x = 1) (hn : 0 ≤ n ∧ n ≤ cUl s0 x)
    (h2 : ∀ i, 0 ≤ i → i < n → cLv false s0 (cUp s0 x i) 8) :
    ok (oW M_He_reachFrom_L142 (x, n, 0)) s (fun _ s' => MI E s0 s' ∧ cMk s s' ∧ ∀ i, 0 ≤ i → i < n → cLv true s' (cUp s0 x i) 8) := by
  refine ok_W (fun y s1 => (y.1 = x ∧ y.2.1 = n) ∧ (0 ≤ y.2.2 ∧ y.2.2 ≤ n) ∧ MI E s0 s1 ∧ cMk s s1 ∧ ∀ i, 0 ≤ i → i < y.2.2 → cLv true s1 (cUp s0 x i) 8) (fun y _ => (n - y.2.2).toNatClampNeg) ?_ _ _ ⟨⟨rfl, rfl⟩, ⟨by show (0 : Int32) ≤ 0; decide, hn.1⟩, h, .refl s, fun i b c => absurd c (by dsimp only; clear h h2; grind)⟩
  rintro ⟨x', n', i⟩ s1 ⟨⟨rfl, rfl⟩, hi, hm, hs, hv⟩
  dsimp only at hi hv hn h2
  have hk := hm.1
  simp only [M_He_reachFrom_L142, ok_B, ok_C, ok_R, ok_L, ok_K, ok_GI, ok_GL, ok_PI, ok_PL, ok_AI, ok_AL, ok_SI, ok_SL, ok_Pr, ok_CI, cmp_lt, cmp_le, cmp_gt, cmp_ge, cmp_eq, nar0, nar1, Sum.elim_inl, Sum.elim_inr, ok_Ln]
  have el : Int32.ofNat (lnS s1 147 x') = cUl s0 x' := by
    unfold lnS
    rw [if_pos (by decide)]
    show Int32.ofNat (gI s1 18942 x').toNatClampNeg = _
    rw [hk.I 18942 (by decide)]
    exact ofNat_clamp (by clear h h2 hv hm hs hk; grind)
  simp only [hk.I 18943 (by decide), hk.A 147 (by decide), el]
  refine ⟨fun c => ⟨hm, hs, fun j b d => hv j b ?_⟩, fun c => ⟨hu, ?_, ?_⟩⟩
  · clear h h2 hv hm hs hk el
    grind
  · clear h h2 hv hm hs hk el
    grind
  · have lv := h2 i hi.1 (by clear h h2 hv hm hs hk el; grind)
    refine ok_mono (reachL_ok hm 8 _ (by decide) (.inr (lv.r59 (by decide) (by decide)))) ?_
    rintro - s2 ⟨m2, k2, v2⟩
    refine ⟨⟨⟨by trivial, by trivial⟩, ?_, m2, hs.trans k2, fun j b d => ?_⟩, ?_⟩
    · clear h h2 hv hm hs hk el v2 m2 k2 lv
      grind
    · by_cases q : j < i
      · exact (hv j b q).mk k2
      · have : j = i := by
          clear h h2 hv hm hs hk el v2 m2 k2 lv
          grind
        rw [this]
        have l2 := (lv.mk m2.1)
        exact ⟨l2.1, l2.2.1, fun _ => v2 lv.1.1⟩
    · clear h h2 hv hm hs hk el v2 m2 k2 lv
      exact clamp_lt (by grind) (by grind)
theorem reachFrom_ok {E : Int32 → Prop} {s0 s : S1} (h : MI E s0 s) (x : Int32) (hr : 0 ≤ x ∧ x < cN s0) (hp : cPv (cLv false s0) s0 x) (ht : cTs s0 x) (htop : cTop s0 ≤ 50000) (hty : cTy s0 x = 5 ∨ cTy s0 x = 6 ∨ cTy s0 x = 8 ∨ cTy s0 x = 9) :
    ok (M_He_reachFrom x) s (fun _ s' => MI E s0 s' ∧ cMk s s' ∧ cPv (cLv true s') s' x) := by
  have hk := h.1
  simp only [M_He_reachFrom, ok_B, ok_C, ok_R, ok_L, ok_K, ok_GI, ok_GL, ok_PI, ok_PL, ok_AI, ok_AL, ok_SI, ok_SL, ok_Pr, ok_CI, cmp_lt, cmp_le, cmp_gt, cmp_ge, cmp_eq, nar0, nar1, Sum.elim_inl, Sum.elim_inr, ok_PzP, ok_PzC]
  simp only [hk.I 18560 (by decide), hk.I 18564 (by decide), hk.I 18574 (by decide), hk.I 18435 (by decide), hk.I 18566 (by decide), hk.I 18567 (by decide), hk.L 18568, hk.A 149 (by decide), hk.B 150]
  refine ⟨fun c => ?_, fun c => ⟨fun d => ?_, fun d => ⟨fun e => ?_, fun e => ?_⟩⟩⟩
  · have c' : cTy s0 x = 5 := c
    obtain ⟨m0, h5⟩ := hp.2.1 c'
    obtain ⟨⟨t1, t2, t3, t4⟩, -, -⟩ := ht c'
    refine ok_mono (reachL_ok h 5 _ (by decide) (m0.imp id (fun q => q.r59 (by decide) (by decide)))) ?_
    rintro - s2 ⟨m2, k2, v2⟩
    have hk2 := m2.1
    simp only [hk2.I 18571 (by decide)]
    refine ok_mono (reachT_ok m2 x ⟨t1, ⟨t4.1, by clear h hp ht h5 m2 k2 v2 hk hk2 m0; grind⟩, ?_⟩ h5) ?_
    · clear h hp ht h5 m2 k2 v2 hk hk2 m0
      grind
    · rintro - s3 ⟨m3, k3, v3⟩
      refine ⟨m3, k2.trans k3, (cPv.st m3.1).2 (cPv.of5 c' ⟨?_, v3⟩)⟩
      rcases m0 with q | q
      · exact .inl q
      · right
        have l2 := q.mk m3.1
        exact ⟨l2.1, l2.2.1, fun _ => k3.2.2.2.2 _ (v2 q.1.1)⟩
  · have d' : cTy s0 x = 6 := d
    obtain ⟨h1, h2, h3, h4⟩ := hp.2.2.1 d'
    refine ⟨?_, ?_⟩
    · unfold pP at h1 ⊢
      rw [hk.I 18559 (by decide)]
      exact h1
    · refine ok_mono (reachU_ok h x _ h2 h3 h4) ?_
      rintro - s3 ⟨m3, k3, v3⟩
      exact ⟨m3, k3, (cPv.st m3.1).2 (cPv.of6 d' ⟨h1, h2, h3, v3⟩)⟩
  · have e' : cTy s0 x = 9 := e
    have h9 := hp.2.2.2.2.2 e'
    refine ok_mono (reachL_ok h 7 _ (by decide) (.inr (h9.r59 (by decide) (by decide)))) ?_
    rintro - s3 ⟨m3, k3, v3⟩
    refine ⟨m3, k3, (cPv.st m3.1).2 (cPv.of9 e' ?_)⟩
    have l2 := h9.mk m3.1
    exact ⟨l2.1, l2.2.1, fun _ => v3 h9.1.1⟩
  · have e' : cTy s0 x = 8 := by
      clear h hp ht hk
      grind
    have h8 := hp.2.2.2.2.1 e'
    refine ⟨fun l => ?_, fun l => ?_⟩
    · have h8' := h8.resolve_left (fun q => absurd q.1 (by clear h hp ht hk h8; grind))
      obtain ⟨p1, p2, p3⟩ := h8'
      refine ⟨?_, p2, p2, ?_⟩
      · unfold pC at p1 ⊢
        rw [hk.I 19071 (by decide)]
        exact p1
      · refine ok_mono (reachV_ok h _ _ p3) ?_
        rintro - s3 ⟨m3, k3, v3⟩
        exact ⟨m3, k3, (cPv.st m3.1).2 (cPv.of8 e' (.inr ⟨p1, p2, v3⟩))⟩
    · have h8' := h8.resolve_right (fun q => absurd q.1.1.1 (by clear h hp ht hk h8; grind))
      refine ok_mono (reachV_ok h _ _ h8'.2) ?_
      rintro - s3 ⟨m3, k3, v3⟩
      exact ⟨m3, k3, (cPv.st m3.1).2 (cPv.of8 e' (.inl ⟨h8'.1, v3⟩))⟩
