/-! The class: a step. -/
theorem qFr.tight {s : S1} {n : Nat × Nat} (W : cW s n) (F : qFr false s) (h : 1 ≤ (oD s (mCur s)).toInt → fWh s (tF s) = 0 → qWt s (tF s)) : qFr true s := by
  intro c a
  obtain ⟨q, fr⟩ := F c a
  refine ⟨q, fun j j0 j1 => ?_⟩
  obtain ⟨w1, w2, w3, w4⟩ := fr j j0 j1
  refine ⟨w1, w2, w3, fun z => ⟨(w4 z).1, (w4 z).2.1, (w4 z).2.2.1, fun _ => ?_⟩⟩
  by_cases k : j.toInt + 1 < (oD s c).toInt ∨ c ≠ mCur s
  · exact (w4 z).2.2.2 (k.elim .inl (fun y => .inr (.inl y)))
  · have ec : c = mCur s := Decidable.byContradiction fun y => k (.inr y)
    subst ec
    have k1 : ¬ j.toInt + 1 < (oD s (mCur s)).toInt := fun y => k (.inl y)
    have e1 : (1 : Int32).toInt = 1 := rfl
    have e0 : (0 : Int32).toInt = 0 := rfl
    have d := W.dd _ W.cur
    rw [i32_le] at j0
    rw [i32_lt] at j1
    have em : (oD s (mCur s) - 1).toInt = (oD s (mCur s)).toInt - 1 := by rw [ktI_sub] <;> omega
    have ej : j = oD s (mCur s) - 1 := toInt_inj (by omega)
    have et : mCur s * 200 + j = tF s := by rw [ej]; rfl
    rw [et] at z ⊢
    exact h (by omega) z
def St0 (s : S1) (n : Nat × Nat) : Prop := cW s n ∧ qFr false s ∧ gI s 18951 (mCur s) = 1 ∧ gI s 16396 0 = 0 ∧ 1 ≤ (oD s (mCur s)).toInt ∧ fWh s (tF s) = 0 ∧ (0 ≤ (gI s 19461 (tF s)).toInt ∧ (gI s 19461 (tF s)).toInt < pNi s (fPr s (tF s))) ∧ (dUs (dW s (fPr s (tF s)) (gI s 19461 (tF s))) → 0 ≤ (gI s 16390 0).toInt ∧ (gI s 16390 0).toInt ≤ pNr s (fPr s (tF s)))
def St5 (s : S1) (n : Nat × Nat) : Prop := cW s n ∧ qFr false s ∧ gI s 18951 (mCur s) = 1 ∧ gI s 16396 0 = 5 ∧ cV (cLv false s) (gI s 16399 0) (gL s 16400 0)
def St6 (s : S1) (n : Nat × Nat) : Prop := cW s n ∧ qFr true s ∧ gI s 18951 (mCur s) = 1 ∧ gI s 16396 0 = 6 ∧ 1 ≤ (oD s (mCur s)).toInt ∧ fWh s (tF s) = 0 ∧ dO (dW s (fPr s (tF s)) (gI s 19461 (tF s) - 1)) = 29
def So (s : S1) (n : Nat × Nat) : Prop := St0 s n ∨ St1 s n ∨ St3 s n ∨ St5 s n ∨ St6 s n
theorem pcp {s : S1} {n : Nat × Nat} {i w : Int32} (x : Ix s n i w) : (i + 1).toInt = i.toInt + 1 ∧ i + 1 - 1 = i := by
  have e1 : (1 : Int32).toInt = 1 := rfl
  have h := x.2.2.2.2.2.2.2.1
  have pc := x.tp.2.2.1.2.2.2.2.2.2.1
  have a : (i + 1).toInt = i.toInt + 1 := by rw [ktI_add] <;> omega
  exact ⟨a, toInt_inj (by rw [ktI_sub, a] <;> omega)⟩
/-- the next instruction follows -/
theorem next_st {t : S1} {n : Nat × Nat} {i w : Int32} (x : Ix t n i w) (pc : gI t 19461 (tF t) = i + 1) (t0 : gI t 16396 0 = 0) (ho : (dO w).toInt ≠ 30 ∧ (dO w).toInt ≠ 37 ∧ (dO w).toInt ≠ 38) (hm : dMk w → 0 ≤ (gI t 16390 0).toInt ∧ (gI t 16390 0).toInt ≤ pNr t (fPr t (tF t))) : St0 t n := by
  obtain ⟨e1, e2⟩ := pcp x
  have h := x.2.2.2.2.2.2.2.1
  have wf := x.wf.1
  rw [x.2.2.2.2.2.2.2.2] at wf
  have lt : i.toInt + 1 < pNi t (fPr t (tF t)) := Decidable.byContradiction fun z => by
    rcases wf z with y | y | y
    · exact ho.1 (opI y)
    · exact ho.2.1 (opI y)
    · exact ho.2.2 (opI y)
  refine ⟨x.w, x.fr, x.2.2.1, t0, x.2.2.2.1, x.2.2.2.2.1, ⟨by rw [pc, e1]; omega, by rw [pc, e1]; exact lt⟩, fun u => ?_⟩
  rw [pc] at u
  have wf1 := x.tp.2.2.1.2.2.2.2.2.2.2.2.1 (i + 1) (by omega) (by omega)
  have mk := (wf1.2.2.1 u).2
  rw [e2, x.2.2.2.2.2.2.2.2] at mk
  exact hm mk
theorem oi_so {s t : S1} {n m : Nat × Nat} {i w : Int32} (o : Oi s m i w t) (pc : gI s 19461 (tF s) = i + 1) (t0 : gI s 16396 0 = 0) (ho : (dO w).toInt ≠ 30 ∧ (dO w).toInt ≠ 37 ∧ (dO w).toInt ≠ 38 ∨ gI t 16396 0 ≠ 0) (h29 : (dO w).toInt ≠ 29) (hm : dMk w → gI t 16396 0 ≠ 0) : So t m := by
  obtain ⟨x, ⟨p1, -, -⟩, e⟩ := o
  have pt := p1.trans pc
  rcases e with e | ⟨e, cl, cv⟩ | ⟨e, cv⟩
  · rw [t0] at e
    refine .inl (next_st x pt e (ho.resolve_right (fun z => z e)) (fun z => absurd e (hm z)))
  · refine .inr (.inl ⟨x.w, ?_, x.2.2.1, e, cv⟩)
    refine x.fr.tight x.w (fun _ _ => ?_)
    obtain ⟨e1, e2⟩ := pcp x
    have h := x.2.2.2.2.2.2.2.1
    have wf := x.wf.1
    rw [x.2.2.2.2.2.2.2.2] at wf
    have lt : i.toInt + 1 < pNi t (fPr t (tF t)) := Decidable.byContradiction fun z => by
      unfold dCl at cl
      rcases wf z with y | y | y
      · have := opI y
        have k : (30 : Int32).toInt = 30 := rfl
        omega
      · have := opI y
        have k : (37 : Int32).toInt = 37 := rfl
        omega
      · have := opI y
        have k : (38 : Int32).toInt = 38 := rfl
        omega
    unfold qWt
    rw [show fPc t (tF t) = i + 1 from pt, e2, x.2.2.2.2.2.2.2.2, e1]
    exact ⟨⟨by omega, lt⟩, cl, fun z => absurd (opI z) h29⟩
  · exact .inr (.inr (.inr (.inl ⟨x.w, x.fr, x.2.2.1, e, cv⟩)))
theorem gs_so {t : S1} {n : Nat × Nat} {i w : Int32} (x : Ix t n i w) (t0 : gI t 16396 0 = 0) (g : dGs t (fPr t (tF t)) (gI t 19461 (tF t))) : So t n := .inl ⟨x.w, x.fr, x.2.2.1, t0, x.2.2.2.1, x.2.2.2.2.1, ⟨g.1, g.2.1⟩, fun u => absurd u g.2.2⟩
theorem os_so {s t : S1} {n m : Nat × Nat} {i w : Int32} (o : Os s m i w t) (pc : gI s 19461 (tF s) = i + 1) (t0 : gI s 16396 0 = 0) (ho : (dO w).toInt ≠ 30 ∧ (dO w).toInt ≠ 37 ∧ (dO w).toInt ≠ 38) (h29 : (dO w).toInt ≠ 29) (hm : ¬ dMk w) : So t m := by
  rcases o with o | o
  · exact oi_so (n := n) o pc t0 (.inl ho) h29 (fun z => absurd z hm)
  · exact gs_so o.1 (o.2.1.trans t0) o.2.2
theorem noMk {w : Int32} (h1 : (dO w).toInt ≠ 36) (h2 : (dO w).toInt ≠ 45) : ¬ dMk w := by
  rintro (z | z)
  · exact h1 (opI z.1)
  · exact h2 (opI z.1)
theorem op30_ok {s : S1} {n : Nat × Nat} {i w : Int32} (x : Ix s n i w) (hp : gI s 19461 (tF s) = i + 1) (t0 : gI s 16396 0 = 0) (o : dO w = 30) : ok M_St_branch s (fun _ t => So t n) := by
  obtain ⟨o1, o2, o3, o4, o5⟩ := x.o
  obtain ⟨a1, a2, a3, a4⟩ := x.2.2.2.2.2.1
  have e30 : (30 : Int32).toInt = 30 := rfl
  simp only [M_St_branch, ok_B, ok_C, ok_R, ok_L, ok_K, ok_GI, ok_GL, ok_PI, ok_PL, ok_AI, ok_AL, ok_SI, ok_SL, ok_CI, cmp_lt, cmp_le, cmp_gt, cmp_ge, cmp_eq, nar0, nar1, Sum.elim_inl, Sum.elim_inr, ok_PzT, ok_PzC, ok_PzP, ok_PrC, ok_PrP, ok_PrF, ok_PrN, ok_Ln, ok_CL, ok_Nw, ok_S, ok_Ks, ok_Nz]
  rw [o1]
  refine ⟨fun _ => ?_, fun z => absurd o z⟩
  have j73 : ∀ t, Ix t n i w → gI t 16396 0 = 0 → gI t 19461 (tF t) = i + 1 → ok M_St_branch_j73 t (fun _ t => So t n) := fun t xt tt pt => by
    simp only [M_St_branch_j73, M_St_jump, ok_B, ok_C, ok_R, ok_L, ok_K, ok_GI, ok_GL, ok_PI, ok_PL, ok_AI, ok_AL, ok_SI, ok_SL, ok_CI, cmp_lt, cmp_le, cmp_gt, cmp_ge, cmp_eq, nar0, nar1, Sum.elim_inl, Sum.elim_inr, ok_PzT, ok_PzC, ok_PzP, ok_PrC, ok_PrP, ok_PrF, ok_PrN, ok_Ln, ok_CL, ok_Nw, ok_S, ok_Ks, ok_Nz]
    have gt := xt.wn.2.2.2.2.2.2.2.2.2.2.2.2.2.1 ((opI o).trans e30)
    obtain ⟨b1, b2, b3, b4⟩ := xt.2.2.2.2.2.1
    rw [b2, pt, xt.o.2.2.2.2]
    refine ⟨xt.tp.2.2.2.2.1, ?_⟩
    rcases skip_os xt gt with q | q
    · obtain ⟨l, xp⟩ := pc_ix xt (i + 1 + (dX w - 131071))
      refine gs_so xp ?_ ?_
      · rw [gI_sI, if_neg (fun y => absurd y.1 (by decide))]
        exact tt
      · rw [l.pk.gs, l.etF, show fPr (sI t 19461 (tF t) (i + 1 + (dX w - 131071))) (tF t) = fPr t (tF t) from l.i _ (by unfold lwX; decide) _, gI_sI, if_pos ⟨rfl, rfl⟩]
        exact gt
    · exact gs_so q.1 (q.2.1.trans tt) q.2.2
  refine ⟨fun _ => j73 s x t0 hp, fun _ => ⟨by rw [a1]; exact x.w.cur.1, ?_⟩⟩
  rw [a1]
  refine ok_mono (close_ok _ x.w x.fr x.w.cur) ?_
  rintro - t cl
  have ot := cl.1.oi x
  exact j73 t ot.1 (cl.1.tu.trans t0) (ot.2.1.1.trans hp)
theorem disp_ok {s : S1} {n : Nat × Nat} {i w : Int32} (x : Ix s n i w) (hp : gI s 19461 (tF s) = i + 1) (t0 : gI s 16396 0 = 0) (hu : dUs w → 0 ≤ (gI s 16390 0).toInt ∧ (gI s 16390 0).toInt ≤ pNr s (fPr s (tF s))) :
    (dO w = 8 → ok (M_St_write (vKd s (uV s (dA w))) (vVl s (uV s (dA w)))) s (fun _ t => So t n)) ∧ (dO w = 10 → ok (M_St_write (kO s (gI s 16521 0)) (vO s (gI s 16521 0))) s (fun _ t => So t n)) ∧ (dO w = 11 → ok (M_St_newTable n) s (fun r t => So t r.2)) ∧ (dO w = 43 → ok M_St_setList s (fun _ t => So t n)) ∧ (dO w = 44 → ok (M_St_makeClosure n) s (fun r t => So t r.2)) := by
  have z8 : (8 : Int32).toInt = 8 := rfl
  have z10 : (10 : Int32).toInt = 10 := rfl
  have z11 : (11 : Int32).toInt = 11 := rfl
  have z43 : (43 : Int32).toInt = 43 := rfl
  have z44 : (44 : Int32).toInt = 44 := rfl
  have fin : ∀ t m, Oi s m i w t → (dO w).toInt ≠ 30 ∧ (dO w).toInt ≠ 37 ∧ (dO w).toInt ≠ 38 → (dO w).toInt ≠ 29 → (dO w).toInt ≠ 36 → (dO w).toInt ≠ 45 → So t m := fun t m o h1 h2 h3 h4 => oi_so (n := n) o hp t0 (.inl h1) h2 (fun z => absurd z (noMk h3 h4))
  refine ⟨fun o => ?_, fun o => ?_, fun o => ?_, fun o => ?_, fun o => ?_⟩
  · have o' := opI o
    refine ok_mono (op8_ok x o') ?_
    rintro - t ot
    exact fin t n ot (by omega) (by omega) (by omega) (by omega)
  · have o' := opI o
    refine ok_mono (op10_ok x o') ?_
    rintro - t ot
    exact fin t n ot (by omega) (by omega) (by omega) (by omega)
  · have o' := opI o
    refine ok_mono (newTable_ok x o') ?_
    rintro r t ot
    exact fin t r.2 ot (by omega) (by omega) (by omega) (by omega)
  · have o' := opI o
    refine ok_mono (setList_ok x o' (fun b => hu ⟨.inr (.inr (.inr o)), b⟩)) ?_
    rintro - t ot
    exact fin t n ot (by omega) (by omega) (by omega) (by omega)
  · have o' := opI o
    refine ok_mono (stClosure_ok x o') ?_
    rintro r t ot
    exact fin t r.2 ot (by omega) (by omega) (by omega) (by omega)
theorem oj_so {s t : S1} {n : Nat × Nat} {i w : Int32} (o : Oj s n i w t) (pc : gI s 19461 (tF s) = i + 1) (h29 : (dO w).toInt = 29) : So t n := by
  obtain ⟨x, p1, e, ja⟩ := o
  have pt := p1.trans pc
  obtain ⟨e1, e2⟩ := pcp x
  have h := x.2.2.2.2.2.2.2.1
  have wf := x.wf.1
  rw [x.2.2.2.2.2.2.2.2] at wf
  have dCi := dC_in w
  have k1 : (1 : Int32).toInt = 1 := rfl
  have lt : i.toInt + 1 < pNi t (fPr t (tF t)) := Decidable.byContradiction fun z => by
    rcases wf z with y | y | y
    · have := opI y
      have k : (30 : Int32).toInt = 30 := rfl
      omega
    · have := opI y
      have k : (37 : Int32).toInt = 37 := rfl
      omega
    · have := opI y
      have k : (38 : Int32).toInt = 38 := rfl
      omega
  have c29 := x.wn.2.2.2.2.2.2.2.2.2.2.2.2.1 h29
  have ed : (dC w - 1).toInt = (dC w).toInt - 1 := by rw [ktI_sub] <;> omega
  have o29 : dO w = 29 := toInt_inj h29
  have q : qWt t (tF t) := by
    unfold qWt fJa
    rw [show fPc t (tF t) = i + 1 from pt, e2, x.2.2.2.2.2.2.2.2, e1, ja, ed]
    exact ⟨⟨by omega, lt⟩, by unfold dCl; omega, fun _ => ⟨by omega, by omega⟩⟩
  refine .inr (.inr (.inr (.inr ⟨x.w, x.fr.tight x.w (fun _ _ => q), x.2.2.1, e, x.2.2.2.1, x.2.2.2.2.1, ?_⟩)))
  rw [pt, e2, x.2.2.2.2.2.2.2.2]
  exact o29
theorem step_ok {s : S1} {n : Nat × Nat} (h : St0 s n) : ok (M_St_step n) s (fun r t => So t r.2) := by
  obtain ⟨W, F, h1, t0, h2, h3, ⟨p0, p1⟩, hu⟩ := h
  have ac := W.cur
  obtain ⟨pf, r, rl⟩ := pT_of W h2
  obtain ⟨u1, u2, u3, -⟩ := W.tp F h2 h3
  have pn := u3.2.2.2.2.2.2.1
  have e1 : (1 : Int32).toInt = 1 := rfl
  have e0 : (0 : Int32).toInt = 0 := rfl
  have ep : (gI s 19461 (tF s) + 1).toInt = (gI s 19461 (tF s)).toInt + 1 := by rw [ktI_add] <;> omega
  have eT : gI s 16395 0 * 200 + (gI s 18948 (gI s 16395 0) - 1) = tF s := rfl
  simp only [M_St_step, M_Co_top, ok_B, ok_C, ok_R, ok_L, ok_K, ok_GI, ok_GL, ok_PI, ok_PL, ok_AI, ok_AL, ok_SI, ok_SL, ok_CI, cmp_lt, cmp_le, cmp_gt, cmp_ge, cmp_eq, nar0, nar1, Sum.elim_inl, Sum.elim_inr, ok_PzT, ok_PzC, ok_PzP, ok_PrC, ok_PrP, ok_PrF, ok_PrN, ok_Ln, ok_CL, ok_Nw, ok_S, ok_Ks, ok_Nz]
  simp only [gI_sI, gI_sL, gI_sA, gI_sB, gI_sAf, gI_sBf, gL_sI, gL_sL, gL_sA, gL_sB, gL_sAf, gL_sBf, gA_sI, gA_sL, gA_sA, gA_sB, gA_sAf, gA_sBf, gB_sI, gB_sL, gB_sA, gB_sB, gB_sAf, gB_sBf, Nat.reduceEqDiff, Nat.reduceMul, Nat.reduceAdd, false_and, true_and, and_true, and_false, if_true, if_false, eT]
  refine ⟨⟨ac.1.1, by simp only [gI_sI, gI_sL, gI_sA, gI_sB, gI_sAf, gI_sBf, gL_sI, gL_sL, gL_sA, gL_sB, gL_sAf, gL_sBf, gA_sI, gA_sL, gA_sA, gA_sB, gA_sAf, gA_sBf, gB_sI, gB_sL, gB_sA, gB_sB, gB_sAf, gB_sBf, Nat.reduceEqDiff, Nat.reduceMul, Nat.reduceAdd, false_and, true_and, and_true, and_false, if_true, if_false]; exact ac.1.2⟩, r, ⟨pf.1, by simp only [gI_sI, gI_sL, gI_sA, gI_sB, gI_sAf, gI_sBf, gL_sI, gL_sL, gL_sA, gL_sB, gL_sAf, gL_sBf, gA_sI, gA_sL, gA_sA, gA_sB, gA_sAf, gA_sBf, gB_sI, gB_sL, gB_sA, gB_sB, gB_sAf, gB_sBf, Nat.reduceEqDiff, Nat.reduceMul, Nat.reduceAdd, false_and, true_and, and_true, and_false, if_true, if_false]; exact pf.2⟩, ?_⟩
  generalize hs1 : sI (sI s 16393 0 (gI s 16393 0 + 1)) 19461 (tF s) (gI s 19461 (tF s) + 1) = s1
  have g1 : ∀ f j, f ≠ 16393 ∧ f ≠ 19461 → gI s1 f j = gI s f j := fun f j q => by
    rw [← hs1, gI_sI, if_neg (fun z => q.2 z.1), gI_sI, if_neg (fun z => q.1 z.1)]
  have g2 : gI s1 19461 (tF s) = gI s 19461 (tF s) + 1 := by
    rw [← hs1, gI_sI, if_pos ⟨rfl, rfl⟩]
  have g3 : ∀ j, j ≠ tF s → gI s1 19461 j = gI s 19461 j := fun j q => by
    rw [← hs1, gI_sI, if_neg (fun z => q z.2), gI_sI, if_neg (fun z => absurd z.1 (by decide))]
  have g4 : s1.2 = s.2 := by rw [← hs1]; rfl
  clear hs1
  have L : ∀ f j, gL s1 f j = gL s f j := fun f j => by
    show s1.2.1 f j = s.2.1 f j
    rw [g4]
  have l : lw false s s1 := by
    refine ⟨fun f j q => g1 f j (by unfold lwX at q; omega), fun j q => ⟨g3 j (fun z => ?_), g1 _ _ (by decide)⟩, fun j _ => ⟨g1 _ _ (by decide), L _ _⟩, fun f j _ => L f j, fun a j k _ => ?_, fun j k _ => ?_, fun a j k _ => ?_, fun j k _ => ?_⟩
    · rcases q with q | q
      · exact absurd q (by decide)
      · exact q ⟨h2, z⟩
    · show s1.2.2.1 a j k = s.2.2.1 a j k
      rw [g4]
    · show s1.2.2.1 _ j k = s.2.2.1 _ j k
      rw [g4]
    · show s1.2.2.2 a j k = s.2.2.2 a j k
      rw [g4]
    · show s1.2.2.2 _ j k = s.2.2.2 _ j k
      rw [g4]
  obtain ⟨q1, q2, q3, q4⟩ := l.pure W (by rw [g4]) (fun f j q => g1 f j (by omega)) (fun j => L _ _)
  have W1 := l.w W F q1 q2 q3 q4
  have F1 := l.fr W F (fun z => absurd z (by decide))
  have et := l.etF
  have fp1 : fPr s1 (tF s) = fPr s (tF s) := g1 _ _ (by decide)
  refine ok_mono (decode_ok W1 F1 (by rw [l.cur, g1 18951 _ (by decide)]; exact h1) (by rw [l.cur, l.dep]; exact h2) (by rw [et, show fWh s1 (tF s) = fWh s (tF s) from g1 _ _ (by decide)]; exact h3) (by rw [et, g2, ep]; omega) (by rw [et, g2, ep, fp1]; show _ ≤ (gI s1 18439 _).toInt; rw [g1 18439 _ (by decide)]; show _ ≤ pNi s (fPr s (tF s)); omega)) ?_
  rintro - s2 ⟨x0, I2, T2⟩
  have ei : gI s1 19461 (tF s1) - 1 = gI s 19461 (tF s) := by
    rw [et, g2]
    exact toInt_inj (by rw [ktI_sub, ep] <;> omega)
  rw [ei, et, fp1] at x0
  have ew : dW s1 (fPr s (tF s)) (gI s 19461 (tF s)) = dW s (fPr s (tF s)) (gI s 19461 (tF s)) := l.pk.w _ _
  rw [ew] at x0
  generalize hi : gI s 19461 (tF s) = i at x0 hu ep g2 p0 p1 ei
  generalize hw : dW s (fPr s (tF s)) i = w at x0 hu
  have e2 : tF s2 = tF s := (tF_eq (fun f j q => I2 f j (by unfold sdI; omega))).trans et
  have hp : gI s2 19461 (tF s2) = i + 1 := by
    rw [e2, I2 _ _ (by unfold sdI; decide)]
    exact g2
  have t2 : gI s2 16396 0 = 0 := by
    rw [I2 _ _ (by unfold sdI; decide), g1 _ _ (by decide)]
    exact t0
  have hu2 : dUs w → 0 ≤ (gI s2 16390 0).toInt ∧ (gI s2 16390 0).toInt ≤ pNr s2 (fPr s2 (tF s2)) := fun z => by
    rw [I2 16390 _ (by unfold sdI; decide), g1 16390 _ (by decide), e2, show fPr s2 (tF s) = fPr s (tF s) from (I2 _ _ (by unfold sdI; decide)).trans fp1]
    unfold pNr
    rw [I2 18434 _ (by unfold sdI; decide), g1 18434 _ (by decide)]
    exact hu z
  clear hu
  have D := disp_ok x0 hp t2 hu2
  have oo := x0.o
  have H := x0.w.hi
  have dOi := dO_in w
  have wl := x0.wn.2.2.2.2.2.2.2.2.2.2.2.2.2.2.2.2.2.2.2.2.2.2.2.2.2.2.2
  rw [oo.1]
  refine ⟨fun o => ?_, fun n8' => ⟨fun o => ?_, fun n10 => ⟨fun o => D.2.2.1 o, fun n11 => ⟨fun o => D.2.2.2.1 o, fun n43 => ⟨fun o => D.2.2.2.2 o, fun n44 => ?_⟩⟩⟩⟩⟩
  · have h8 := x0.wn.2.2.2.2.2.2.2.1 (opI o)
    obtain ⟨v8, -⟩ := x0.uv (dA_in w).1 h8.1
    rw [oo.2.1, ok_uV x0 (dA_in w).1 h8.1, ok_vK H v8, oo.2.1, ok_uV x0 (dA_in w).1 h8.1, ok_vV H v8]
    exact D.1 o
  · have h10 := x0.wn.2.2.2.2.2.2.2.2.1 (opI o)
    rw [ok_kO x0 (x0.xA h10.1), ok_vO x0 (x0.xA h10.1)]
    exact D.2.1 o
  · have m8 : (dO w).toInt ≠ 8 := fun z => n8' (toInt_inj z)
    have m10 : (dO w).toInt ≠ 10 := fun z => n10 (toInt_inj z)
    have m11 : (dO w).toInt ≠ 11 := fun z => n11 (toInt_inj z)
    have m43 : (dO w).toInt ≠ 43 := fun z => n43 (toInt_inj z)
    have m44 : (dO w).toInt ≠ 44 := fun z => n44 (toInt_inj z)
    have k12 : (12 : Int32).toInt = 12 := rfl
    have k24 : (24 : Int32).toInt = 24 := rfl
    have k29 : (29 : Int32).toInt = 29 := rfl
    have k35 : (35 : Int32).toInt = 35 := rfl
    have k38 : (38 : Int32).toInt = 38 := rfl
    have fin : ∀ t m, Oi s2 m i w t → (dO w).toInt ≠ 30 ∧ (dO w).toInt ≠ 37 ∧ (dO w).toInt ≠ 38 → (dO w).toInt ≠ 29 → (dO w).toInt ≠ 36 → (dO w).toInt ≠ 45 → So t m := fun t m o h1 h2 h3 h4 => oi_so (n := n) o hp t2 (.inl h1) h2 (fun z => absurd z (noMk h3 h4))
    have fis : ∀ t, Os s2 n i w t → (dO w).toInt ≠ 30 ∧ (dO w).toInt ≠ 37 ∧ (dO w).toInt ≠ 38 → (dO w).toInt ≠ 29 → (dO w).toInt ≠ 36 → (dO w).toInt ≠ 45 → So t n := fun t o h1 h2 h3 h4 => os_so (n := n) o hp t2 h1 h2 (noMk h3 h4)
    have cr : (36 ≤ (dO w).toInt ∧ (dO w).toInt ≤ 38 ∨ (dO w).toInt = 41) → ok (M_St_step_j255 n) s2 (fun r t => So t r.2) := fun ho => by
      simp only [M_St_step_j255, ok_B, ok_C, ok_R, ok_L, ok_K, ok_GI, ok_GL, ok_PI, ok_PL, ok_AI, ok_AL, ok_SI, ok_SL, ok_CI, cmp_lt, cmp_le, cmp_gt, cmp_ge, cmp_eq, nar0, nar1, Sum.elim_inl, Sum.elim_inr, ok_PzT, ok_PzC, ok_PzP, ok_PrC, ok_PrP, ok_PrF, ok_PrN, ok_Ln, ok_CL, ok_Nw, ok_S, ok_Ks, ok_Nz]
      refine ok_mono (callRet_ok x0 ho (fun b z => hu2 ⟨?_, b⟩)) ?_
      · rcases ho with ho | ho
        · rcases Int.lt_or_le (dO w).toInt 37 with y | y
          · exact .inl (toInt_inj (show (dO w).toInt = 36 by omega))
          · rcases Int.lt_or_le (dO w).toInt 38 with y' | y'
            · exact .inr (.inl (toInt_inj (show (dO w).toInt = 37 by omega)))
            · exact .inr (.inr (.inl (toInt_inj (show (dO w).toInt = 38 by omega))))
        · exact absurd ho z
      · rintro - t (q | q | q)
        · have nz : gI t 16396 0 ≠ 0 := fun z => by
            rcases q.2 with y | y
            · rw [y] at z
              exact absurd z (by decide)
            · rw [y] at z
              exact absurd z (by decide)
          exact oi_so (n := n) q.1 hp t2 (.inr nz) (by omega) (fun _ => nz)
        · exact .inr (.inl q.2)
        · exact .inr (.inr (.inl q.2))
    refine ⟨fun c => ?_, fun c => ?_⟩
    · rw [i32_lt] at c
      refine ⟨fun c2 => ?_, fun c2 => ?_⟩
      · rw [i32_lt] at c2
        refine ⟨fun c3 => ?_, fun c3 => ?_⟩
        · rw [i32_lt] at c3
          refine ⟨fun c4 => ?_, fun c4 => ?_⟩
          · rw [i32_lt] at c4
            refine ⟨fun c5 => cr (.inl ⟨by omega, by rw [i32_le] at c5; omega⟩), fun c5 => ?_⟩
            rw [i32_le] at c5
            refine ⟨fun c6 => cr (.inr (opI c6)), fun c6 => ?_⟩
            have m41 : (dO w).toInt ≠ 41 := fun z => c6 (toInt_inj z)
            refine ok_mono (loopTake_ok x0 hp (by omega)) ?_
            rintro - t (q | q)
            · exact fis t q.2 (by omega) (by omega) (by omega) q.1
            · rcases q.2 with y | y
              · refine oi_so (n := n) y.2 hp t2 (.inl (by omega)) (by omega) (fun z => ?_)
                rcases z with z | z
                · have := opI z.1
                  have k36 : (36 : Int32).toInt = 36 := rfl
                  omega
                · exact absurd z.2 y.1
              · obtain ⟨xo, po, to, oo'⟩ := y.2
                refine .inl (next_st xo (po.trans hp) (to.trans t2) (by omega) (fun _ => ?_))
                have ha := (xo.wn.2.2.2.2.2.2.2.2.2.2.2.2.2.2.2.2.2.2.2.2.2.2.2.2.2.2.1 q.1).1
                have := dA_in w
                rw [oo']
                omega
          · rw [i32_lt] at c4
            by_cases o30 : dO w = 30
            · exact op30_ok x0 hp t2 o30
            · have m30 : (dO w).toInt ≠ 30 := fun z => o30 (toInt_inj z)
              refine ok_mono (branch_ok x0 hp (by omega)) ?_
              rintro - t ot
              exact fis t ot (by omega) (by omega) (by omega) (by omega)
        · rw [i32_lt] at c3
          refine ok_mono (reckonOne_ok x0 (by omega)) ?_
          rintro - t (q | q)
          · exact fin t n q.2 (by omega) q.1 (by omega) (by omega)
          · exact oj_so q.2 hp q.1
      · rw [i32_lt] at c2
        refine ok_mono (reckon_ok x0 (by omega)) ?_
        rintro - t ot
        exact fin t n ot (by omega) (by omega) (by omega) (by omega)
    · rw [i32_lt] at c
      have ho : dO w = 0 ∨ dO w = 1 ∨ dO w = 3 ∨ dO w = 4 ∨ dO w = 5 ∨ dO w = 6 ∨ dO w = 7 ∨ dO w = 9 ∨ dO w = 12 := by
        have cases : (dO w).toInt = 0 ∨ (dO w).toInt = 1 ∨ (dO w).toInt = 3 ∨ (dO w).toInt = 4 ∨ (dO w).toInt = 5 ∨ (dO w).toInt = 6 ∨ (dO w).toInt = 7 ∨ (dO w).toInt = 9 ∨ (dO w).toInt = 12 := by omega
        rcases cases with z | z | z | z | z | z | z | z | z
        · exact .inl (toInt_inj z)
        · exact .inr (.inl (toInt_inj z))
        · exact .inr (.inr (.inl (toInt_inj z)))
        · exact .inr (.inr (.inr (.inl (toInt_inj z))))
        · exact .inr (.inr (.inr (.inr (.inl (toInt_inj z)))))
        · exact .inr (.inr (.inr (.inr (.inr (.inl (toInt_inj z))))))
        · exact .inr (.inr (.inr (.inr (.inr (.inr (.inl (toInt_inj z)))))))
        · exact .inr (.inr (.inr (.inr (.inr (.inr (.inr (.inl (toInt_inj z))))))))
        · exact .inr (.inr (.inr (.inr (.inr (.inr (.inr (.inr (toInt_inj z))))))))
      refine ok_mono (move_ok x0 hp ho) ?_
      rintro - t ot
      exact fis t ot (by omega) (by omega) (by omega) (by omega)
