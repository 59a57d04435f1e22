/-! The class: the sweep's loop. -/
theorem cCm_one {s t : S1} {c : Int32} (hc : 0 ≤ c ∧ c < 32) (ef : ∀ i, gI t 19071 i = gI s 19071 i) (e1 : ∀ i, i ≠ c → oSl t i = oSl s i) (h1 : gI s 19071 c = 1) (h2 : 0 ≤ oSl s c) (h3 : oSl t c < 0) : cCm s = cCm t + 1 := by
  unfold cCm
  have ex := ofNat_clamp hc.1
  have lx : c.toNatClampNeg < 32 := clamp_ltN (n := 32) hc.2 (by decide)
  rw [kcountP_one (fun n => decide (gI t 19071 (Int32.ofNat n) = 1 ∧ 0 ≤ oSl t (Int32.ofNat n))) (fun n => decide (gI s 19071 (Int32.ofNat n) = 1 ∧ 0 ≤ oSl s (Int32.ofNat n))) c.toNatClampNeg ?_ ?_ 32 ?_, if_pos lx]
  · simp only [ex, decide_eq_false_iff_not]
    rintro ⟨-, w⟩
    exact absurd w (by grind)
  · simp only [ex, decide_eq_true_eq]
    exact ⟨h1, h2⟩
  · intro i hi ne
    have : Int32.ofNat i ≠ c := fun q => ne (by
      rw [← q]
      have := Int32.toInt_ofNat_of_lt (n := i) (by omega)
      unfold Int32.toNatClampNeg
      omega)
    simp only [ef, e1 _ this]
/-- a coroutine goes -/
theorem cSw.coro {s2 s s3 s5 t : S1} {x c : Int32} (H : cHI s2) (Hm : ∀ y, 0 ≤ y → y < cN s2 → cRe s2 y ≠ 0 → cPv (cLv true s2) s2 y) (h : cSw s2 x s) (hn : cNr s) (hx : 0 ≤ x ∧ x < cN s) (hm : cRe s2 x = 0) (h7 : cTy s2 x = 7)
    (hc : pC s2 c) (ec : cLk s2 x = c) (eo : oSl s c = x) (hb : ∀ y, ((0 ≤ y ∧ y < cN s2) ∧ cTy s2 y = 8) → cLk s y = c → 0 ≤ (cPl s y).toInt ∧ (cPl s y).toInt < 4000)
    (h3 : cCl (fun y => (0 ≤ y ∧ y < cN s2) ∧ cTy s2 y = 8) c 0 s s3) (I5 : ∀ f j, f ≠ 18950 → gI s5 f j = gI s3 f j) (e5 : ∀ i, oSl s5 i = if i = c then -1 else oSl s3 i) (L5 : ∀ f j, gL s5 f j = gL s3 f j) (A5 : ∀ a j k, a ≠ 114 → gA s5 a j k = gA s3 a j k) (B5 : ∀ a j k, gB s5 a j k = gB s3 a j k)
    (t5 : ∀ j, cTl s5 j = if j = 11 then cTl s3 11 - 1 else cTl s3 j) (hf : cFt x s5 t) : cSw s2 (x + 1) t := by
  obtain ⟨f1, f2, f3, f4, f5, f6, f7, f8⟩ := hf
  obtain ⟨g1, g2, g3, g4, g5, g6, g7⟩ := h3
  have e0 : (0 : Int32).toInt = 0 := rfl
  have cm1 : c ≠ -1 := fun q => by
    have := hc.1.1
    rw [q] at this
    exact absurd this (by decide)
  have eI : ∀ f j, f ≠ 18560 ∧ f ≠ 14211 ∧ f ≠ 18564 ∧ f ≠ 18567 ∧ f ≠ 18950 ∧ f ≠ 18954 → gI t f j = gI s f j := fun f j q => (f1 f j ⟨q.1, q.2.1⟩).trans ((I5 f j q.2.2.2.2.1).trans (g1 f j ⟨q.2.2.1, q.2.2.2.1, q.2.2.2.2.2⟩))
  have eA : ∀ a j k, a ≠ 113 ∧ a ≠ 114 → gA t a j k = gA s a j k := fun a j k q => (f3 a j k q).trans ((A5 a j k q.2).trans (g3 a j k))
  have ety : ∀ y, cTy t y = if y = x then 0 else cTy s y := fun y => by
    rw [f5]
    have : cTy s5 y = cTy s y := (I5 _ _ (by decide)).trans (g1 _ _ (by decide))
    rw [this]
  have efc : cFc s5 = cFc s := (I5 _ _ (by decide)).trans (g1 _ _ (by decide))
  have efr : ∀ i, cFr s5 i = cFr s i := fun i => (A5 _ _ _ (by decide)).trans (g3 _ _ _)
  have etl : ∀ j, cTl t j = if j = 3 then cTl s 3 - 1 else if j = 11 then cTl s 11 - 1 else cTl s j := fun j => by
    have q : ∀ j, cTl s3 j = cTl s j := fun j => g3 _ _ _
    rw [f8]
    by_cases a : j = 3
    · rw [if_pos a, if_pos a, t5, if_neg (by decide), q]
    · rw [if_neg a, if_neg a, t5]
      by_cases b : j = 11
      · rw [if_pos b, if_pos b, q]
      · rw [if_neg b, if_neg b, q]
  have elk : ∀ y, cLk t y = cLk s3 y := fun y => (f1 _ _ (by decide)).trans (I5 _ _ (by decide))
  have eck : ∀ y, cCk t y = cCk s3 y := fun y => (f1 _ _ (by decide)).trans (I5 _ _ (by decide))
  have ecv : ∀ y, cCv t y = cCv s3 y := fun y => (f2 _ _).trans (L5 _ _)
  have esl : ∀ i, oSl t i = if i = c then -1 else oSl s i := fun i => by
    have q : oSl t i = oSl s5 i := f1 _ _ (by decide)
    rw [q, e5]
    by_cases w : i = c
    · rw [if_pos w, if_pos w]
    · rw [if_neg w, if_neg w]
      exact g1 _ _ (by decide)
  have eno : ∀ i, i ≠ c → oNo t i = oNo s i := fun i w => by
    have q : oNo t i = oNo s5 i := f1 _ _ (by decide)
    have q2 : oNo s5 i = oNo s3 i := I5 _ _ (by decide)
    rw [q, q2]
    exact g5 i w
  have enx : ∀ y, cNx t y = cNx s y := fun y => eI _ _ (by decide)
  have epl : ∀ y, cPl s y = cPl s2 y := fun y => h.I _ _ (by decide)
  have en : cN s = cN s2 := h.I _ _ (by decide)
  have unl : ∀ y, ((0 ≤ y ∧ y < cN s2) ∧ cTy s2 y = 8) → cLk s y = c → cLk s2 y = c := fun y ty q => by
    rcases h.vr y with ⟨w, -, -⟩ | ⟨-, -, -, w, -⟩
    · rw [← w]
      exact q
    · exact absurd (q.symm.trans w) cm1
  have o7 : ∀ c', 0 ≤ oSl s c' → oSl s c' = x → c' = c ∨ ¬ pC s2 c' := fun c' l q => by
    by_cases p : pC s2 c'
    · left
      have w : oSl s2 c' = x := by
        rcases h.sl c' with w | w
        · rw [← w]
          exact q
        · rw [w.1] at l
          exact absurd l (by decide)
      have v := (H.2.2.2.2.1.1 c' p (by rw [w]; exact hx.1)).2.1
      rw [w, ec] at v
      exact v.symm
    · exact .inr p
  refine h.fin hn hx hm (by rw [h7]; decide) (fun f j q => eI f j ⟨q.1, q.2.1, q.2.2.2.1, q.2.2.2.2.1, q.2.2.2.2.2.1, q.2.2.2.2.2.2⟩) (fun f j q => (f2 f j).trans ((L5 f j).trans (g2 f j q))) (fun a j k q => eA a j k ⟨q.1, q.2.1⟩) (fun a j k => (f4 a j k).trans ((B5 a j k).trans (g4 a j k))) (fun j q => ?_) ety (by rw [f6, efc]) (fun i => by rw [f7, efc, efr]) (by rw [etl, if_pos rfl]) ?_ ?_ (fun y => ?_) (fun y q => enx y) (fun i => ?_) (fun c' p l => ?_) (fun c' p l y r ty8 => ?_) ?_ (fun y => ?_) (fun c' l => ?_)
  · rw [etl, if_neg q.1, if_neg q.2.2]
  · refine h.bs.congr (fun y => ?_) (fun y _ => eI _ _ (by decide)) (fun y _ => eI _ _ (by decide)) (fun y _ => enx y) (fun b => eA _ _ _ (by decide))
    rw [cLv_f, cLv_f, ety]
    have n2 : cN t = cN s := eI _ _ (by decide)
    rw [n2]
    by_cases q : y = x
    · rw [if_pos q, q, ty_at h, h7]
      simp
    · rw [if_neg q]
  · refine h.po.congr (eI _ _ (by decide)) (fun p => eA _ _ _ (by decide)) (fun y => eI _ _ (by decide)) (fun y => eI _ _ (by decide)) (fun y => ?_) (by rw [etl, if_neg (by decide), if_neg (by decide)])
    rw [cLv_f, cLv_f, ety]
    have n2 : cN t = cN s := eI _ _ (by decide)
    rw [n2]
    by_cases q : y = x
    · rw [if_pos q, q, ty_at h, h7]
      simp
    · rw [if_neg q]
  · rw [elk, eck, ecv]
    rcases g6 y with ⟨w1, w2, w3, -⟩ | ⟨w1, w2, w3, w4, w5, w6⟩
    · rw [w1, w2, w3]
      exact h.vr y
    · have u := unl y w1 w2
      have k1 : oRk s c (cPl s y) = oRk s2 c (cPl s2 y) := by
        rw [epl]
        exact h.A _ _ _ (by decide)
      have k2 : oRv s c (cPl s y) = oRv s2 c (cPl s2 y) := by
        rw [epl]
        exact h.B _ _ _
      refine .inr ⟨w1.1, w1.2, by rw [u]; exact hc.1.1, w4, fun mk => ?_, by rw [w5, u, k1], by rw [w6, u, k2]⟩
      have v := (Hm y w1.1.1 w1.1.2 mk).2.2.2.2.1 w1.2
      have v2 := v.resolve_left (fun z => by
        have := z.1
        rw [u] at this
        exact absurd hc.1.1 (by clear v h H Hm; grind))
      have v3 := v2.2.2
      rw [u] at v3
      rw [w5, w6, k1, k2]
      exact v3
  · rw [esl]
    by_cases q : i = c
    · rw [if_pos q]
      subst q
      right
      have w : oSl s2 i = x := by
        rcases h.sl i with w | w
        · rw [← w]
          exact eo
        · exact absurd (eo.symm.trans w.1) (fun z => by rw [z] at hx; exact absurd hx.1 (by decide))
      rw [w]
      refine ⟨rfl, hm, ?_⟩
      have := (hn.2 x hx.1 hx.2).1.2
      clear h H Hm f1 f2 f3 f4 f5 f6 f7 f8 g1 g2 g3 g4 g5 g6 g7 eI eA ety efr etl elk eck ecv esl eno enx unl o7
      grind
    · rw [if_neg q]
      refine (h.sl i).imp id (fun w => ⟨w.1, w.2.1, ?_⟩)
      have := w.2.2
      have := (hn.2 x hx.1 hx.2).1.2
      clear h H Hm f1 f2 f3 f4 f5 f6 f7 f8 g1 g2 g3 g4 g5 g6 g7 eI eA ety efr etl elk eck ecv esl eno enx unl o7
      grind
  · rw [esl] at l ⊢
    by_cases q : c' = c
    · rw [if_pos q] at l
      exact absurd l (by decide)
    · rw [if_neg q] at l ⊢
      have w := h.co c' p l
      refine ⟨fun z => ?_, w.1, w.2.congr (fun y => ?_) (fun _ _ => rfl) (fun _ _ => rfl) (eno c' q)⟩
      · rcases o7 c' l z with v | v
        · exact q v
        · exact v p
      · rw [elk]
        rcases g6 y with ⟨w1, -, -, -⟩ | ⟨w1, w2, w3, w4, w5, w6⟩
        · rw [w1]
        · rw [w4, w2]
          constructor
          · rintro ⟨-, z⟩
            have := p.1.1
            rw [← z] at this
            exact absurd this (by decide)
          · rintro ⟨-, z⟩
            exact absurd z.symm q
  · rw [elk]
    rw [esl] at l
    rcases g6 y with ⟨w1, -, -, w4⟩ | ⟨w1, w2, w3, w4, w5, w6⟩
    · rw [w1]
      by_cases q : c' = c
      · subst q
        intro z
        have := hb y ⟨r, ty8⟩ z
        exact w4 ⟨⟨r, ty8⟩, z, by rw [e0]; exact this.1⟩
      · rw [if_neg q] at l
        exact h.cl c' p l y r ty8
    · rw [w4]
      intro z
      have := p.1.1
      rw [← z] at this
      exact absurd this (by decide)
  · have p1 : gI s 19071 c = 1 := by
      rw [h.I _ _ (by decide)]
      exact hc.2
    have k := cCm_one (s := s) (t := t) hc.1 (fun i => eI _ _ (by decide)) (fun i q => by rw [esl, if_neg q]) p1 (by rw [eo]; exact hx.1) (by rw [esl, if_pos rfl]; decide)
    have kk := h.cm
    have le : cCm s ≤ 32 := by
      unfold cCm
      refine Nat.le_trans (List.countP_le_length) ?_
      simp
    have e1 : (1 : Int32).toInt = 1 := rfl
    rw [etl, if_neg (by decide), if_pos rfl, ktI_sub (by omega)]
    omega
  · rw [elk]
    rcases g6 y with ⟨w1, -, -, -⟩ | ⟨w1, w2, w3, w4, w5, w6⟩
    · rw [w1]
      rcases h.vo y with v | v
      · exact .inl v
      · right
        rw [esl]
        by_cases q : cLk s2 y = c
        · rw [if_pos q]
          decide
        · rw [if_neg q]
          exact v
    · right
      rw [unl y w1 w2, esl, if_pos rfl]
      decide
  · rw [esl] at l
    by_cases q : c' = c
    · rw [if_pos q] at l
      exact absurd l (by decide)
    · rw [if_neg q] at l
      rw [eno c' q]
      exact h.no c' l
theorem sweep_ok {s2 : S1} (H : cHI s2) (Hm : ∀ y, 0 ≤ y → y < cN s2 → cRe s2 y ≠ 0 → cPv (cLv true s2) s2 y) : ok M_He_sweep s2 (fun _ s' => cSw s2 (cN s2) s') := by
  simp only [M_He_sweep, ok_B, ok_C, ok_R, ok_L, ok_K, ok_GI, ok_GL, ok_PI, ok_PL, ok_AI, ok_AL, ok_SI, ok_SL, ok_Pr, ok_CI, cmp_lt, cmp_le, cmp_gt, cmp_ge, cmp_eq, nar0, nar1, Sum.elim_inl, Sum.elim_inr]
  have n4 := H.1.1
  refine ok_W (fun i s => (0 ≤ i ∧ i ≤ cN s2) ∧ cSw s2 i s) (fun i _ => (cN s2 - i).toNatClampNeg) ?_ _ _ ⟨⟨by decide, n4.1⟩, cSw.start H⟩
  rintro x s ⟨hi, h⟩
  have en : cN s = cN s2 := h.I _ _ (by decide)
  have hn : cNr s := by
    unfold cNr pT
    rw [en]
    simp only [h.I 18687 _ (by decide)]
    exact H.1
  simp only [M_He_sweep_L2, M_He_sweep_j148, ok_B, ok_C, ok_R, ok_L, ok_K, ok_GI, ok_GL, ok_PI, ok_PL, ok_AI, ok_AL, ok_SI, ok_SL, ok_Pr, ok_CI, cmp_lt, cmp_le, cmp_gt, cmp_ge, cmp_eq, nar0, nar1, Sum.elim_inl, Sum.elim_inr, ok_PzT, ok_PzC]
  refine ⟨fun d => ?_, fun d => ?_⟩
  · have : x = cN s2 := by
      change cN s ≤ x at d
      rw [en] at d
      clear h H Hm
      grind
    rw [← this]
    exact h
  have lx : x < cN s2 := by
    change ¬ cN s ≤ x at d
    rw [en] at d
    clear h H Hm
    grind
  have hx : 0 ≤ x ∧ x < cN s := ⟨hi.1, by rw [en]; exact lx⟩
  have px := hn.2 x hx.1 hx.2
  have ms : (cN s2 - (x + 1)).toNatClampNeg < (cN s2 - x).toNatClampNeg := by
    clear h H Hm hn
    exact clamp_lt (by grind) (by grind)
  have ii : 0 ≤ x + 1 ∧ x + 1 ≤ cN s2 := by
    clear h H Hm hn
    grind
  have tx : gI s 18560 x = cTy s2 x := ty_at h
  have mx : gI s 18562 x = cRe s2 x := h.I _ _ (by decide)
  have th := H.2.1 x hx.1 lx
  rw [tx, mx]
  refine ⟨px, fun e => ⟨⟨ii, h.skip px.1 (.inl e)⟩, ms⟩, fun e => ⟨fun m => ?_, fun m => ⟨⟨ii, h.skip px.1 (.inr m)⟩, ms⟩⟩⟩
  have fc : 0 ≤ cFc s ∧ cFc s < 4000 := by
    have := h.fl.lt hn hx (by rw [show cTy s x = cTy s2 x from tx]; exact e)
    refine ⟨h.fl.1.1, ?_⟩
    have := hn.1.2
    clear h H Hm hn
    grind
  have ne : ∀ (t : S1) (u : Int32), cTy s2 x ≠ u → u ≠ 0 → cN t = cN s → (∀ y, cTy t y = if y = x then 0 else cTy s y) → ∀ y, cLv false t y u ↔ cLv false s y u := fun t u q u0 e1 e2 y => by
    rw [cLv_f, cLv_f, e1, e2]
    by_cases w : y = x
    · rw [if_pos w, w, show cTy s x = cTy s2 x from tx]
      constructor
      · exact fun z => absurd z.2.symm u0
      · exact fun z => absurd z.2 q
    · rw [if_neg w]
  refine ⟨fun e4 => ?_, fun e4 => ⟨fun e5 => ?_, fun e5 => ⟨fun e7 => ?_, fun e7 => ?_⟩⟩⟩
  · have l4 : cLv false s x 4 := cLv_f.2 ⟨hx, tx.trans e4⟩
    refine ok_mono (dropFrom_ok hn l4 h.bs) ?_
    rintro - s3 ⟨d1, d2, d3, d4, d5, d6⟩
    have efc : cFc s3 = cFc s := d1 _ _ (by decide)
    refine sweep113_ok (by rw [efc]; exact fc) fun t ft => ⟨⟨ii, h.plain hn hx m e (by rw [e4]; decide) ft d1 d2 (fun a j k q => d3 a j k q.2.1) d4 (fun j _ => d3 _ _ _ (by decide)) (fun y q => ?_) ?_ ?_⟩, ms⟩
    · by_cases z : cTy s y = 4
      · rw [h.ty] at z
        by_cases v : (0 ≤ y ∧ y < x) ∧ cRe s2 y = 0
        · rw [if_pos v] at z
          exact absurd z (by decide)
        · rw [if_neg v] at z
          exact absurd z q
      · exact d5 y z
    · intro b b0 b1
      have n3 : cN t = cN s := (ft.1 _ _ (by decide)).trans (d1 _ _ (by decide))
      have ty3 : ∀ y, cTy t y = if y = x then 0 else cTy s y := fun y => by
        rw [ft.2.2.2.2.1, show cTy s3 y = cTy s y from d1 _ _ (by decide)]
      refine (d6 b b0 b1).congr (fun y => ?_) (fun y _ => ?_) (fun y _ => ft.1 _ _ (by decide)) (ft.2.2.1 _ _ _ (by decide))
      · unfold cBm
        have ep : cPl t y = cPl s y := (ft.1 _ _ (by decide)).trans (d1 _ _ (by decide))
        rw [cLv_f, cLv_f, n3, ty3, ep]
        by_cases w : y = x
        · rw [if_pos w]
          simp [w]
        · rw [if_neg w]
          simp [w]
      · have ep : cNu t y = cNu s y := (ft.1 _ _ (by decide)).trans (d1 _ _ (by decide))
        rw [ep]
    · refine h.po.congr ((ft.1 _ _ (by decide)).trans (d1 _ _ (by decide))) (fun p => (ft.2.2.1 _ _ _ (by decide)).trans (d3 _ _ _ (by decide))) (fun y => (ft.1 _ _ (by decide)).trans (d1 _ _ (by decide))) (fun y => (ft.1 _ _ (by decide)).trans (d1 _ _ (by decide))) (ne t 5 (by rw [e4]; decide) (by decide) ((ft.1 _ _ (by decide)).trans (d1 _ _ (by decide))) (fun y => by
          rw [ft.2.2.2.2.1, show cTy s3 y = cTy s y from d1 _ _ (by decide)])) ?_
      rw [ft.2.2.2.2.2.2.2, if_neg (by decide)]
      exact d3 _ _ _ (by decide)
  · have l5 : cLv false s x 5 := cLv_f.2 ⟨hx, tx.trans e5⟩
    have ts := (th.2.2.1 e5).1
    have eR : cR s x = cR s2 x := h.I _ _ (by decide)
    have eS : cS0 s x = cS0 s2 x := h.I _ _ (by decide)
    have t6 := h.po.tl
    have e0 : (0 : Int32).toInt = 0 := rfl
    have q5 : (50000 : Int32).toInt = 50000 := rfl
    have q4 : (40000 : Int32).toInt = 40000 := rfl
    have rr : 0 ≤ (cR s x).toInt ∧ (cR s x).toInt ≤ 50000 := by
      have := ts.2.1
      rw [i32_le, i32_le, ← eR] at this
      omega
    simp only [M_Ta_release, ok_B, ok_C, ok_R, ok_L, ok_K, ok_GI, ok_GL, ok_PI, ok_PL, ok_AI, ok_AL, ok_SI, ok_SL, ok_Pr, ok_CI, cmp_lt, cmp_le, cmp_gt, cmp_ge, cmp_eq, nar0, nar1, Sum.elim_inl, Sum.elim_inr]
    refine ⟨fun z => ?_, fun z => ?_⟩
    · have z' : (cR s x).toInt = 0 := by
        change cR s x ≤ 0 at z
        rw [i32_le] at z
        omega
      refine sweep113_ok fc fun t ft => ⟨⟨ii, h.plain hn hx m e (by rw [e5]; decide) ft (fun _ _ _ => rfl) (fun _ _ => rfl) (fun _ _ _ _ => rfl) (fun _ _ _ => rfl) (fun _ _ => rfl) (fun _ _ => rfl) ?_ ?_⟩, ms⟩
      · exact h.bs.congr (ne t 4 e4 (by decide) (ft.1 _ _ (by decide)) ft.2.2.2.2.1) (fun y _ => ft.1 _ _ (by decide)) (fun y _ => ft.1 _ _ (by decide)) (fun y _ => ft.1 _ _ (by decide)) (fun b => ft.2.2.1 _ _ _ (by decide))
      · refine h.po.free l5 rr (ft.1 _ _ (by decide)) ft.2.2.2.2.1 (fun y => ft.1 _ _ (by decide)) (fun y => ft.1 _ _ (by decide)) (ft.1 _ _ (by decide)) (fun p => ?_) ?_
        · rw [if_neg (fun w => by omega)]
          exact ft.2.2.1 _ _ _ (by decide)
        · rw [ft.2.2.2.2.2.2.2, if_neg (by decide), z']
          omega
    · have z' : 0 < (cR s x).toInt := by
        change ¬ cR s x ≤ 0 at z
        rw [i32_le] at z
        omega
      have rs : 0 ≤ cS0 s x ∧ cS0 s x < 50000 := by
        have b1 := ts.1
        have b2 := ts.2.1
        have b3 := ts.2.2.1
        have b4 := H.2.2.2.2.2
        obtain ⟨S, W, w, -⟩ := b4
        rw [← eR] at b2 b3
        rw [← eS] at b1 b3
        rw [i32_le, i32_le] at b1 b2
        rw [i32_le, ktI_add (by omega)] at b3
        rw [i32_le, i32_lt]
        omega
      refine ⟨rs, by decide, by decide, ?_⟩
      have g6 : gA (sA s 127 0 (gI s 18571 x) (-gI s 18572 x)) 114 0 6 = cTl s 6 := by
        rw [gA_sA, if_neg (fun w => absurd w.1 (by decide))]
      rw [g6]
      have d1 : ∀ f j, gI (sA (sA s 127 0 (gI s 18571 x) (-gI s 18572 x)) 114 0 6 (cTl s 6 - gI (sA s 127 0 (gI s 18571 x) (-gI s 18572 x)) 18572 x)) f j = gI s f j := fun _ _ => rfl
      have d3 : ∀ a j k, a ≠ 114 ∧ a ≠ 127 → gA (sA (sA s 127 0 (gI s 18571 x) (-gI s 18572 x)) 114 0 6 (cTl s 6 - gI (sA s 127 0 (gI s 18571 x) (-gI s 18572 x)) 18572 x)) a j k = gA s a j k := fun a j k q => by
        rw [gA_sA, if_neg (fun w => q.1 w.1), gA_sA, if_neg (fun w => q.2 w.1)]
      have d6 : ∀ j, cTl (sA (sA s 127 0 (gI s 18571 x) (-gI s 18572 x)) 114 0 6 (cTl s 6 - gI (sA s 127 0 (gI s 18571 x) (-gI s 18572 x)) 18572 x)) j = if j = 6 then cTl s 6 - cR s x else cTl s j := fun j => by
        unfold cTl
        rw [gA_sA]
        by_cases q : j = 6
        · rw [if_pos ⟨rfl, rfl, q⟩, if_pos q]
          rfl
        · rw [if_neg (fun w => q w.2.2), if_neg q, gA_sA, if_neg (fun w => absurd w.1 (by decide))]
      have d7 : ∀ p, cOw (sA (sA s 127 0 (gI s 18571 x) (-gI s 18572 x)) 114 0 6 (cTl s 6 - gI (sA s 127 0 (gI s 18571 x) (-gI s 18572 x)) 18572 x)) p = if p = cS0 s x then -cR s x else cOw s p := fun p => by
        unfold cOw
        rw [gA_sA, if_neg (fun w => absurd w.1 (by decide)), gA_sA]
        by_cases q : p = cS0 s x
        · rw [if_pos ⟨rfl, rfl, q⟩, if_pos q]
        · rw [if_neg (fun w => q w.2.2), if_neg q]
      have d2 : ∀ f j, gL (sA (sA s 127 0 (gI s 18571 x) (-gI s 18572 x)) 114 0 6 (cTl s 6 - gI (sA s 127 0 (gI s 18571 x) (-gI s 18572 x)) 18572 x)) f j = gL s f j := fun _ _ => rfl
      have d4 : ∀ f j k, gB (sA (sA s 127 0 (gI s 18571 x) (-gI s 18572 x)) 114 0 6 (cTl s 6 - gI (sA s 127 0 (gI s 18571 x) (-gI s 18572 x)) 18572 x)) f j k = gB s f j k := fun _ _ _ => rfl
      generalize sA (sA s 127 0 (gI s 18571 x) (-gI s 18572 x)) 114 0 6 (cTl s 6 - gI (sA s 127 0 (gI s 18571 x) (-gI s 18572 x)) 18572 x) = s3 at d1 d2 d3 d4 d6 d7
      have efc : cFc s3 = cFc s := d1 _ _
      refine sweep113_ok (by rw [efc]; exact fc) fun t ft => ⟨⟨ii, h.plain hn hx m e (by rw [e5]; decide) ft (fun f j _ => d1 f j) d2 (fun a j k q => d3 a j k ⟨q.1, q.2.2⟩) d4 (fun j q => by rw [d6, if_neg q]) (fun y _ => d1 _ _) ?_ ?_⟩, ms⟩
      · exact h.bs.congr (ne t 4 e4 (by decide) ((ft.1 _ _ (by decide)).trans (d1 _ _)) (fun y => by rw [ft.2.2.2.2.1, show cTy s3 y = cTy s y from d1 _ _])) (fun y _ => (ft.1 _ _ (by decide)).trans (d1 _ _)) (fun y _ => (ft.1 _ _ (by decide)).trans (d1 _ _)) (fun y _ => (ft.1 _ _ (by decide)).trans (d1 _ _)) (fun b => (ft.2.2.1 _ _ _ (by decide)).trans (d3 _ _ _ (by decide)))
      · refine h.po.free l5 rr ((ft.1 _ _ (by decide)).trans (d1 _ _)) (fun y => by rw [ft.2.2.2.2.1, show cTy s3 y = cTy s y from d1 _ _]) (fun y => (ft.1 _ _ (by decide)).trans (d1 _ _)) (fun y => (ft.1 _ _ (by decide)).trans (d1 _ _)) ((ft.1 _ _ (by decide)).trans (d1 _ _)) (fun p => ?_) ?_
        · have : cOw t p = cOw s3 p := ft.2.2.1 _ _ _ (by decide)
          rw [this, d7]
          simp [z']
        · rw [ft.2.2.2.2.2.2.2, if_neg (by decide), d6, if_pos rfl, ktI_sub (by omega)]
  · obtain ⟨p1, p2, -⟩ := th.2.1.2.2.2.1 e7
    have elk : cLk s x = cLk s2 x := by
      rcases h.vr x with w | w
      · exact w.1
      · exact absurd (w.2.1.symm.trans e7) (by decide)
    have eo : oSl s (cLk s2 x) = x := by
      rcases h.sl (cLk s2 x) with w | w
      · rw [w]
        exact p2
      · rw [p2] at w
        exact absurd w.2.2 (by clear h H Hm hn th; grind)
    have hco := h.co _ p1 (by rw [eo]; exact hx.1)
    generalize hcc : cLk s2 x = c at *
    have hb : ∀ y, ((0 ≤ y ∧ y < cN s2) ∧ cTy s2 y = 8) → cLk s y = c → 0 ≤ (cPl s y).toInt ∧ (cPl s y).toInt < 4000 := fun y ty q => by
      have w : cLk s2 y = c := by
        rcases h.vr y with ⟨w, -, -⟩ | ⟨-, -, -, w, -⟩
        · rw [← w]
          exact q
        · have := p1.1.1
          rw [← q, w] at this
          exact absurd this (by decide)
      have v := (H.2.1 y ty.1.1 ty.1.2).2.1.2.2.2.2.1 ty.2
      have v2 := v.resolve_left (fun z => by
        have := z.1
        rw [w] at this
        have := p1.1.1
        clear v h H Hm hn th hco
        grind)
      have v3 := v2.2.1
      have epl : cPl s y = cPl s2 y := h.I _ _ (by decide)
      rw [epl]
      rw [i32_le, i32_lt] at v3
      have e0 : (0 : Int32).toInt = 0 := rfl
      have e4 : (4000 : Int32).toInt = 4000 := rfl
      omega
    have pc : pC s c := by
      unfold pC at p1 ⊢
      rw [h.I _ _ (by decide)]
      exact p1
    rw [show gI s 18564 x = c from elk]
    refine ⟨pc, ok_mono (closeFrom_ok (fun y => (0 ≤ y ∧ y < cN s2) ∧ cTy s2 y = 8) p1.1.1 (fun y ty => hn.2 y ty.1.1 (by rw [en]; exact ty.1.2)) ?_ hb) ?_⟩
    · refine hco.2.congr (fun y => Iff.rfl) (fun y _ => ?_) (fun y q => ?_) rfl
      · have epl : cPl s y = cPl s2 y := h.I _ _ (by decide)
        rw [epl]
      · exact h.nx y (by rw [q.1.2]; decide)
    · rintro - s3 h3
      have e3 : gI s3 18564 x = c := by
        rcases h3.2.2.2.2.2.1 x with w | w
        · exact w.1.trans elk
        · exact absurd (w.1.2.symm.trans e7) (by decide)
      have pc3 : pC s3 c := by
        unfold pC at pc ⊢
        rw [h3.1 _ _ (by decide)]
        exact pc
      rw [e3]
      refine ⟨pc3, by decide, by decide, ?_⟩
      have efc : cFc s3 = cFc s := h3.1 _ _ (by decide)
      refine sweep113_ok ?_ fun t ft => ⟨⟨ii, cSw.coro (s5 := sA (sI s3 18950 c (-1)) 114 0 11 (gA (sI s3 18950 c (-1)) 114 0 11 - 1)) H Hm h hn hx m e7 p1 hcc eo hb h3 (fun f j q => ?_) (fun i => ?_) (fun _ _ => rfl) (fun a j k q => ?_) (fun _ _ _ => rfl) (fun j => ?_) ft⟩, ms⟩
      · have : cFc (sA (sI s3 18950 c (-1)) 114 0 11 (gA (sI s3 18950 c (-1)) 114 0 11 - 1)) = cFc s3 := by
          unfold cFc
          rw [gI_sA, gI_sI, if_neg (fun w => absurd w.1 (by decide))]
        rw [this, efc]
        exact fc
      · rw [gI_sA, gI_sI, if_neg (fun w => q w.1)]
      · unfold oSl
        rw [gI_sA, gI_sI]
        by_cases q : i = c
        · rw [if_pos ⟨rfl, q⟩, if_pos q]
        · rw [if_neg (fun w => q w.2), if_neg q]
      · rw [gA_sA, if_neg (fun w => q w.1)]
        rfl
      · unfold cTl
        rw [gA_sA]
        by_cases q : j = 11
        · rw [if_pos ⟨rfl, rfl, q⟩, if_pos q]
          rfl
        · rw [if_neg (fun w => q w.2.2), if_neg q]
          rfl
  · refine sweep113_ok fc fun t ft => ⟨⟨ii, h.plain hn hx m e e7 ft (fun _ _ _ => rfl) (fun _ _ => rfl) (fun _ _ _ _ => rfl) (fun _ _ _ => rfl) (fun _ _ => rfl) (fun _ _ => rfl) ?_ ?_⟩, ms⟩
    · exact h.bs.congr (ne t 4 e4 (by decide) (ft.1 _ _ (by decide)) ft.2.2.2.2.1) (fun y _ => ft.1 _ _ (by decide)) (fun y _ => ft.1 _ _ (by decide)) (fun y _ => ft.1 _ _ (by decide)) (fun b => ft.2.2.1 _ _ _ (by decide))
    · refine h.po.congr (ft.1 _ _ (by decide)) (fun p => ft.2.2.1 _ _ _ (by decide)) (fun y => ft.1 _ _ (by decide)) (fun y => ft.1 _ _ (by decide)) (ne t 5 e5 (by decide) (ft.1 _ _ (by decide)) ft.2.2.2.2.1) ?_
      rw [ft.2.2.2.2.2.2.2, if_neg (by decide)]
