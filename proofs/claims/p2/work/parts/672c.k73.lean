/-! The class: joinOn. -/
theorem joinOn_ok {s : S1} {n : Nat × Nat} (h : St6 s n) : ok (M_St_joinOn n) s (fun r t => So t r.2) := by
  obtain ⟨W, F, h1, t6, h2, h3, o⟩ := h
  have wt := top_wt W F h2 h3
  obtain ⟨⟨w1, w2⟩, w3, w4⟩ := wt
  have e1 : (1 : Int32).toInt = 1 := rfl
  simp only [M_St_joinOn, ok_B, ok_C, ok_R, ok_L, ok_K, ok_GI, ok_GL, ok_PI, ok_PL, ok_AI, ok_AL, ok_SI, ok_SL, ok_CI, cmp_lt, cmp_le, cmp_gt, cmp_ge, cmp_eq, nar0, nar1, Sum.elim_inl, Sum.elim_inr, ok_PzT, ok_PzC, ok_PzP, ok_PrC, ok_PrP, ok_PrF, ok_PrN, ok_Ln, ok_CL, ok_Nw, ok_S, ok_Ks, ok_Nz]
  refine ok_mono (decode_ok W F.weak h1 h2 h3 w1 (by
    change (fPc s (tF s)).toInt ≤ _
    omega)) ?_
  rintro - s1 ⟨x1, I1, T1⟩
  have et1 : tF s1 = tF s := tF_eq (fun f j q => I1 f j (by unfold sdI; omega))
  have p1 : gI s1 19461 (tF s1) = gI s 19461 (tF s) := by
    rw [et1]
    exact I1 _ _ (by unfold sdI; decide)
  have j1' : gI s1 19464 (tF s1) = gI s 19464 (tF s) := by
    rw [et1]
    exact I1 _ _ (by unfold sdI; decide)
  have ja := w4 o
  change (dB (dW s (fPr s (tF s)) (gI s 19461 (tF s) - 1))).toInt - 1 ≤ (gI s 19464 (tF s)).toInt ∧ (gI s 19464 (tF s)).toInt < (dC (dW s (fPr s (tF s)) (gI s 19461 (tF s) - 1))).toInt at ja
  generalize dW s (fPr s (tF s)) (gI s 19461 (tF s) - 1) = w at x1 o ja
  have hpi : gI s 19461 (tF s) = (gI s 19461 (tF s) - 1) + 1 := by
    have em : (gI s 19461 (tF s) - 1).toInt = (gI s 19461 (tF s)).toInt - 1 := by
      change 1 ≤ (gI s 19461 (tF s)).toInt at w1
      have := Int32.toInt_lt (gI s 19461 (tF s))
      rw [ktI_sub] <;> omega
    refine toInt_inj ?_
    have pc := x1.tp.2.2.1.2.2.2.2.2.2.1
    have hb := x1.2.2.2.2.2.2.2.1
    rw [ktI_add] <;> omega
  generalize gI s 19461 (tF s) - 1 = i at x1 hpi
  rw [hpi] at p1
  have j1 : jst s1 n i w := by
    refine ⟨x1, p1, (I1 _ _ (by unfold sdI; decide)).trans t6, ?_⟩
    unfold jrg
    rw [j1']
    exact ja
  have pf := x1.tp.2.2.2.2.1
  rw [x1.2.2.2.2.2.1.2.1, j1']
  refine ⟨pf, ?_⟩
  clear p1 hpi w1 w2 w3 w4 h1 h2 h3 t6 W F T1 I1 et1 j1'
  refine ok_mono (joinL_ok j1 o ja.1 ja.2) ?_
  have o' := opI o
  have k29 : (29 : Int32).toInt = 29 := rfl
  have fin : ∀ t m e, jst t m i w → ok (M_Ma_fail e) t (fun _ u => Ix u m i w ∧ gI u 16396 0 = 5 ∧ cV (cLv false u) (gI u 16399 0) (gL u 16400 0)) := fun t m e j => by
    refine ok_mono (fail_ok e t) ?_
    rintro - u ⟨f, k⟩
    obtain ⟨b1, b2, b3⟩ := f.oi k j.1
    refine ⟨b1, f.2.2.2, ?_⟩
    rw [k]
    exact cV.lit (by decide)
  rintro (⟨l, m⟩ | ⟨v, m⟩ | m) t q
  · obtain ⟨j, l0, l1⟩ := q
    dsimp only at j l0 l1
    have x := j.1
    have wn := x.wn.2.2.2.2.2.2.2.2.2.2.2.2.1 (by omega)
    have dBi := dB_in w
    have hx := x.xr (r := l) (by omega) (by omega)
    have pf := x.tp.2.2.2.2.1
    have j95 : ∀ u, Ix u m i w → (gI u 16396 0 = 1 ∧ gI u 19461 (tF u) = i + 1 ∧ jrg u w ∧ cV (cLv false u) (gI u 16397 0) (gL u 16398 0)) ∨ (gI u 16396 0 = 5 ∧ cV (cLv false u) (gI u 16399 0) (gL u 16400 0)) → ok (M_St_joinOn_j95 m) u (fun r t => So t r.2) := fun u xu hu => by
      simp only [M_St_joinOn_j95, ok_B, ok_C, ok_R, ok_L, ok_K, ok_GI, ok_GL, ok_PI, ok_PL, ok_AI, ok_AL, ok_SI, ok_SL, ok_CI, cmp_lt, cmp_le, cmp_gt, cmp_ge, cmp_eq, nar0, nar1, Sum.elim_inl, Sum.elim_inr, ok_PzT, ok_PzC, ok_PzP, ok_PrC, ok_PrP, ok_PrF, ok_PrN, ok_Ln, ok_CL, ok_Nw, ok_S, ok_Ks, ok_Nz]
      refine ok_mono (forget_ok xu) ?_
      rintro - y ⟨xy, ly, Iy, Ly⟩
      rcases hu with ⟨q1, q2, q3, q4⟩ | ⟨q1, q2⟩
      · refine .inr (.inl ⟨xy.w, j_wt xy ?_ o ?_, xy.2.2.1, (Iy _ _ (by decide)).trans q1, ?_⟩)
        · rw [ly.etF, Iy _ _ (by decide)]
          exact q2
        · unfold jrg
          rw [ly.etF, Iy _ _ (by decide)]
          exact q3
        · rw [ly.lv', Iy _ _ (by decide), Ly _ _ (by decide)]
          exact q4
      · refine .inr (.inr (.inr (.inl ⟨xy.w, xy.fr, xy.2.2.1, (Iy _ _ (by decide)).trans q1, ?_⟩)))
        rw [ly.lv', Iy _ _ (by decide), Ly _ _ (by decide)]
        exact q2
    simp only [Sum.elim_inl, Sum.elim_inr, M_St_joinOn_j54, ok_B, ok_C, ok_R, ok_L, ok_K, ok_GI, ok_GL, ok_PI, ok_PL, ok_AI, ok_AL, ok_SI, ok_SL, ok_CI, cmp_lt, cmp_le, cmp_gt, cmp_ge, cmp_eq, nar0, nar1, Sum.elim_inl, Sum.elim_inr, ok_PzT, ok_PzC, ok_PzP, ok_PrC, ok_PrP, ok_PrF, ok_PrN, ok_Ln, ok_CL, ok_Nw, ok_S, ok_Ks, ok_Nz]
    rw [ok_kO x hx, ok_vO x hx, x.2.2.2.2.2.1.2.1]
    refine ⟨pf, pf, ?_⟩
    refine ok_mono (either_ok x.w.hi (by decide) (x.kv0 hx) x.jv) ?_
    rintro r u q
    rcases q with ⟨r0, eu⟩ | ⟨r1, ce, -⟩
    · subst eu
      refine ⟨fun _ => ?_, fun z => absurd r0 z⟩
      refine ok_mono (fin _ _ 3 j) ?_
      rintro - y ⟨b1, b2, b3⟩
      exact j95 y b1 (.inr ⟨b2, b3⟩)
    · refine ⟨fun z => by rw [z] at r1; exact absurd r1 (by decide), fun _ => ?_⟩
      obtain ⟨b1, ⟨b2, b3, -⟩, -⟩ := ce.oi x (by unfold dCl; omega)
      refine j95 u b1 (.inl ⟨ce.2.2.2.2.1, b2.trans j.2.1, ?_, by rw [ce.lw.lv']; exact ce.2.2.2.2.2.1⟩)
      unfold jrg
      rw [b3]
      exact j.2.2.2
  · simp only [Sum.elim_inl, Sum.elim_inr, ok_B, ok_C, ok_R, ok_L, ok_K, ok_GI, ok_GL, ok_PI, ok_PL, ok_AI, ok_AL, ok_SI, ok_SL, ok_CI, cmp_lt, cmp_le, cmp_gt, cmp_ge, cmp_eq, nar0, nar1, Sum.elim_inl, Sum.elim_inr, ok_PzT, ok_PzC, ok_PzP, ok_PrC, ok_PrP, ok_PrF, ok_PrN, ok_Ln, ok_CL, ok_Nw, ok_S, ok_Ks, ok_Nz]
    refine ok_mono (fin t m (-v) q) ?_
    rintro - y ⟨b1, b2, b3⟩
    exact .inr (.inr (.inr (.inl ⟨b1.w, b1.fr, b1.2.2.1, b2, b3⟩)))
  · have j : jst t m i w := q
    have x := j.1
    have wn := x.wn.2.2.2.2.2.2.2.2.2.2.2.2.1 (by omega)
    have dAi := dA_in w
    have pf := x.tp.2.2.2.2.1
    simp only [Sum.elim_inl, Sum.elim_inr, ok_B, ok_C, ok_R, ok_L, ok_K, ok_GI, ok_GL, ok_PI, ok_PL, ok_AI, ok_AL, ok_SI, ok_SL, ok_CI, cmp_lt, cmp_le, cmp_gt, cmp_ge, cmp_eq, nar0, nar1, Sum.elim_inl, Sum.elim_inr, ok_PzT, ok_PzC, ok_PzP, ok_PrC, ok_PrP, ok_PrF, ok_PrN, ok_Ln, ok_CL, ok_Nw, ok_S, ok_Ks, ok_Nz]
    rw [x.2.2.2.2.2.1.2.1, x.o.2.1]
    refine ⟨pf, pf, ?_⟩
    refine ok_mono (set_ok x dAi.1 wn.1 x.jv) ?_
    rintro - u st
    refine ok_mono (forget_ok st.1) ?_
    rintro - y ⟨xy, ly, Iy, Ly⟩
    have I2 : ∀ f j, f ≠ 16396 → gI (sI y 16396 0 0) f j = gI y f j := fun f j q => by rw [gI_sI, if_neg (fun z => q z.1)]
    have x2 : Ix (sI y 16396 0 0) m i w := misc_ix xy (fun f j q => I2 f j (fun z => q (by rw [z]; unfold miI; decide))) (fun _ _ _ => rfl) rfl
    refine .inl (next_st x2 ?_ (by rw [gI_sI, if_pos ⟨rfl, rfl⟩]) (by omega) (fun z => absurd z (noMk (by omega) (by omega))))
    rw [tF_eq (fun f j q => I2 f j (by omega)), I2 _ _ (by decide), ly.etF, Iy _ _ (by decide), tF_eq (fun f j _ => st.2.1 f j), st.2.1]
    exact j.2.1
