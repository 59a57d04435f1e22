/-! Going over a table; the collector called. -/
theorem next_num {f n b k : Int32} (hf : 0 ≤ f ∧ f ≤ 300000) (hn : 0 ≤ n) (hb : f + n ≤ 300000 ∧ n ≤ 300000) : (0 ≤ f + n ∧ f + n ≤ 300000 ∧ f ≤ f + n) ∧ (f ≤ k → k < f + n → (0 ≤ k ∧ k < 300000) ∧ f ≤ k + 1 ∧ k + 1 ≤ f + n ∧ (f + n - (k + 1)).toNatClampNeg < (f + n - k).toNatClampNeg) := by
  have c0 : (0 : Int32).toInt = 0 := rfl
  have c1 : (300000 : Int32).toInt = 300000 := rfl
  have c2 : (1 : Int32).toInt = 1 := rfl
  simp only [i32_le, i32_lt, c0, c1] at *
  have y1 := tI_add (a := f) (b := n) (by omega)
  refine ⟨by omega, fun h1 h2 => ?_⟩
  have y2 := tI_add (a := k) (b := 1) (by omega)
  have y3 := tI_sub (a := f + n) (b := k + 1) (by omega)
  have y4 := tI_sub (a := f + n) (b := k) (by omega)
  refine ⟨by omega, by omega, by omega, ?_⟩
  unfold Int32.toNatClampNeg
  omega
theorem ok.ht {α : Type} {f : M α} {s : S1} {Q : α → S1 → Prop} (h : ok f s Q) : ht f s Q := by
  obtain ⟨a, s', e, q⟩ := ok_out h
  rw [ht_some e]
  exact q
theorem next71_bo (s : S1) (t k : Int32) (h : q_Bi s) (ht : Lv false s t 5) (hk : a_first s t ≤ k ∧ k ≤ a_first s t + a_third s t) : ok (M_Mo_next_j71 t k) s (fun _ s' => Bo s s') := by
  obtain ⟨hr, _, hh, ha⟩ := h
  have hg := hr.1
  have hz := hr.2.1
  obtain ⟨b1, b2, b3, b4, b5, b6, r1, r2, r3, r4, r5, r6⟩ := hg.tb ht
  have tv := ((hg.1.1.1.2.2 _ ht.1 ht.2.1).2.1 ht.2.2.1).2
  have fn : a_first s t + a_third s t ≤ 300000 := by
    have q := tI_add (a := a_first s t) (b := a_second s t) (by
      have c0 : (0 : Int32).toInt = 0 := rfl
      have c1 : (300000 : Int32).toInt = 300000 := rfl
      simp only [i32_le, c0, c1] at b2 b3
      omega)
    have c0 : (0 : Int32).toInt = 0 := rfl
    have c1 : (300000 : Int32).toInt = 300000 := rfl
    simp only [i32_le, c0, c1] at b2 b3 b4 b5 ⊢
    have q2 := tI_add (a := a_first s t) (b := a_third s t) (by omega)
    omega
  have nn := fun k => next_num (k := k) (b := 0) b2 b5.1 ⟨fn, Int32.le_trans b5.2 b3.2⟩
  simp only [M_Mo_next_j71, ok_B, ok_C, ok_R, ok_L, ok_K, ok_GI, ok_GL, ok_PI, ok_PL, ok_AI, ok_AL, ok_SI, ok_SL, ok_Pr, ok_CI, cmp_lt, cmp_le, cmp_gt, cmp_ge, cmp_eq, nar0, nar1, Sum.elim_inl, Sum.elim_inr]
  refine ⟨b1, b1, ok_mono (ok_W (Q := fun y s' => s' = s ∧ y.2 = a_first s t + a_third s t ∧ a_first s t ≤ y.1 ∧ y.1 ≤ a_first s t + a_third s t) (fun x s' => s' = s ∧ x.2 = a_first s t + a_third s t ∧ a_first s t ≤ x.1 ∧ x.1 ≤ a_first s t + a_third s t) (fun x _ => (a_first s t + a_third s t - x.1).toNatClampNeg) ?_ (k, a_first s t + a_third s t) s ⟨rfl, rfl, hk⟩) ?_⟩
  · rintro ⟨x, e⟩ s1 ⟨es, e2, x1, x2⟩
    dsimp only at e2 x1 x2
    subst es
    rw [e2]
    simp only [M_Mo_next_L85, ok_B, ok_C, ok_R, ok_L, ok_K, ok_GI, ok_GL, ok_PI, ok_PL, ok_AI, ok_AL, ok_SI, ok_SL, ok_Pr, ok_CI, cmp_lt, cmp_le, cmp_gt, cmp_ge, cmp_eq, nar0, nar1, Sum.elim_inl, Sum.elim_inr]
    refine ⟨fun c => ⟨by trivial, by trivial, x1, x2⟩, fun c => ?_⟩
    obtain ⟨m1, m2, m3, m4⟩ := (nn x).2 x1 (Int32.not_le.mp c)
    exact ⟨r2, m1, fun _ => ⟨⟨by trivial, by trivial, m2, m3⟩, m4⟩, fun _ => ⟨by trivial, by trivial, x1, x2⟩⟩
  · rintro ⟨x, e⟩ s1 ⟨es, e2, x1, x2⟩
    dsimp only at e2 x1 x2
    subst es
    rw [e2]
    simp only [M_Mo_next_j105, ok_B, ok_C, ok_R, ok_L, ok_K, ok_GI, ok_GL, ok_PI, ok_PL, ok_AI, ok_AL, ok_SI, ok_SL, ok_Pr, ok_CI, cmp_lt, cmp_le, cmp_gt, cmp_ge, cmp_eq, nar0, nar1, Sum.elim_inl, Sum.elim_inr]
    refine ⟨fun c => ok_mono (give_bo s1 0 0 hg hz hh (Or.inl ⟨by decide, by decide⟩)) fun _ _ w => w.1, fun c => ?_⟩
    have xl : x < a_first s1 t + a_third s1 t := Int32.lt_of_le_of_ne x2 c
    obtain ⟨m1, -⟩ := (nn x).2 x1 xl
    obtain ⟨v1, v2⟩ := tv x x1 xl
    refine ⟨r1, m1, r3, m1, ok_mono ((give_bo s1 _ _ hg hz hh v1).and (q_give_ok s1 _ _ hg v1).ht) fun _ s2 ⟨⟨b, t2, n2⟩, s0, ag0, _, es0⟩ => ?_⟩
    have rm := b.1.1.1.1.1.1
    have n2' : gI s2 1282 0 = 1 := n2
    refine ⟨rm.2.1, m1, rm.2.2.2.1, m1, ?_⟩
    have w2 : Vl false s2 (gA s2 70 0 x) (gB s2 72 0 x) := by
      have e70 : gA s2 70 0 x = gA s1 70 0 x := by
        rw [es0, gA_sI]
        exact ag0.2.2.2.1 70 0 x (by decide)
      have e72 : gB s2 72 0 x = gB s1 72 0 x := by
        rw [es0, gB_sI]
        exact ag0.2.2.2.2 72 0 x (by decide)
      rw [e70, e72]
      have w3 := (Vl.hs ag0.h10).mpr v2
      rw [es0]
      unfold Vl Lv at *
      simp only [f_used, a_sort, a_marked, gI_sI, gI_sL, gI_sA, gI_sB, gI_sAf, gI_sBf, gL_sI, gL_sL, gL_sA, gL_sB, gL_sAf, gL_sBf, gA_sI, gA_sL, gA_sA, gA_sB, gA_sAf, gA_sBf, gB_sI, gB_sL, gB_sA, gB_sB, gB_sAf, gB_sBf, Nat.reduceEqDiff, Nat.reduceMul, Nat.reduceAdd, false_and, true_and, and_true, and_false, if_true, if_false] at *
      exact w3
    refine ok_mono (add10_ok s2 _ _ b.1.1 w2 (by rw [n2']; decide)) fun _ s3 ⟨ag, n3⟩ => ⟨b.1.trans (ag.rx (Or.inr (Or.inl rfl)) b.1.2.1), (ag.2.1 2050 0 (by decide)).trans b.2.1, Or.inr ⟨(ag.2.1 73 0 (by decide)).trans t2, ?_⟩⟩
    show gI s3 1282 0 ≤ 250
    rw [n3, n2']
    decide
theorem collect_rx (s : S1) (h : RI true s) : ok M_Mo_collection s (fun _ s' => Rx s s' ∧ gI s' 2050 0 = gI s 2050 0) := by
  obtain ⟨r1, r2⟩ := h.1.1.2 h.2.1
  refine ok_mono (gc_ok s (Hp.mk h.1.1.1 r1 r2)) fun _ s' ⟨hp, hg⟩ => ⟨?_, hg.I 2050 (by decide) 0⟩
  exact (Nx.gcx h.1 ⟨hp.q, fun _ => ⟨hp.2.2.2.2.2.2.1, hp.2.2.2.2.2.2.2⟩⟩ hg.x ⟨Or.inl (hg.I 73 (by decide) 0), fun z => absurd h.2.1 z⟩).rx h.2.1
theorem next_bo (s : S1) (h : q_Bi s) : ok M_Mo_next s (fun _ s' => Bo s s') := by
  have h0 := h
  obtain ⟨hr, _, hh, ha⟩ := h
  have hg := hr.1
  have hz := hr.2.1
  simp only [M_Mo_next, ok_B, ok_C, ok_R, ok_L, ok_K, ok_GI, ok_GL, ok_PI, ok_PL, ok_AI, ok_AL, ok_SI, ok_SL, ok_Pr, ok_CI, cmp_lt, cmp_le, cmp_gt, cmp_ge, cmp_eq, nar0, nar1, Sum.elim_inl, Sum.elim_inr]
  refine ok_mono (is_ok s 0 5 hg (by decide)) fun v s1 ⟨c1, c2, es⟩ => ?_
  subst es
  refine ⟨fun _ => raise_bo s1 2 hg hz hh, fun c => ok_mono (av_ok s1 0 hg (by decide)) fun v2 s2 ⟨e2, es⟩ => ?_⟩
  subst es
  have vl := ar_vl (j := 0) hg (by decide)
  rw [c2 c, ← e2] at vl
  have l5 := vl.to (by decide) (by decide)
  have tb := hg.tb l5
  have c0 : (0 : Int32).toInt = 0 := rfl
  have c1' : (300000 : Int32).toInt = 300000 := rfl
  have c2' : (1 : Int32).toInt = 1 := rfl
  have nm : a_first s2 v2.toInt32 ≤ a_first s2 v2.toInt32 + a_third s2 v2.toInt32 ∧ ∀ r, a_first s2 v2.toInt32 ≤ r → r < a_first s2 v2.toInt32 + a_third s2 v2.toInt32 → r < 300000 → 0 ≤ r → a_first s2 v2.toInt32 ≤ r + 1 ∧ r + 1 ≤ a_first s2 v2.toInt32 + a_third s2 v2.toInt32 := by
    obtain ⟨b1, b2, b3, b4, b5, -⟩ := tb
    clear l5 vl hr hg h0 c1 c2 e2
    generalize a_first s2 v2.toInt32 = f at *
    generalize a_third s2 v2.toInt32 = n at *
    generalize a_second s2 v2.toInt32 = m at *
    simp only [i32_le, i32_lt, c0, c1'] at *
    have q2 := tI_add (a := f) (b := n) (by omega)
    refine ⟨by omega, fun r a b c d => ?_⟩
    have q3 := tI_add (a := r) (b := 1) (by omega)
    omega
  refine ⟨l5.b hg, ok_mono (is_ok s2 1 0 hg (by decide)) fun v3 s3 ⟨_, _, es⟩ => ?_⟩
  subst es
  refine ⟨fun _ => ok_mono (ak_ok s3 1 hg (by decide)) fun k4 s4 ⟨e4, es⟩ => ?_, fun _ => next71_bo s3 _ _ h0 l5 ⟨Int32.le_refl _, nm.1⟩⟩
  subst es
  refine ok_mono (av_ok s4 1 hg (by decide)) fun k5 s5 ⟨e5, es⟩ => ?_
  subst es
  refine ok_mono (entry_ok s5 v2.toInt32 k4 k5 tb) fun r s6 ⟨es, hr6⟩ => ?_
  subst es
  refine ⟨fun d => ?_, fun _ => raise_bo s6 6 hg hz hh⟩
  rcases hr6 with e | e
  · rw [e] at d
    exact absurd d (by decide)
  · exact next71_bo s6 _ _ h0 l5 (nm.2 r e.1.1 e.1.2 e.2.1.2 e.2.1.1)
