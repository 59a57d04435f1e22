/-! The class: rows beside an instruction; loops; further arguments. -/
theorem cRx.lw {r : Nat} {s t : S1} (hr : r = 132 ∨ r = 135 ∨ r = 138 ∨ r = 141) (h : cRx r s t) : lw true s t := by
  refine ⟨fun f j q => h.1 f j (by unfold lwX at q; omega), fun j _ => ⟨h.1 _ _ (by omega), h.1 _ _ (by omega)⟩, fun j _ => ⟨h.1 _ _ (by omega), h.2.1 _ _⟩, fun f j _ => h.2.1 f j, fun a j k q => h.2.2.1 a j k (by omega), fun j k _ => h.2.2.1 _ j k (by omega), fun a j k q => h.2.2.2 a j k (by omega), fun j k _ => h.2.2.2 _ j k (by omega)⟩
theorem cRx.kept {r : Nat} {s t : S1} {n : Nat × Nat} (hr : r = 132 ∨ r = 135 ∨ r = 138 ∨ r = 141) (h : cRx r s t) (W : cW s n) (row : r ≠ 135 → cRow (cLv false s) t r) : rgV t ∧ cRow (cLv false s) t 132 ∧ cRow (cLv false s) t 138 ∧ cRow (cLv false s) t 141 := by
  have k := cRx.lw hr h
  have co := (W.hi.dep W.cur).1
  have oth : ∀ q, (q = 132 ∨ q = 138 ∨ q = 141) → cRow (cLv false s) s q → cRow (cLv false s) t q := fun q hq c => by
    by_cases z : q = r
    · rw [z]
      exact row (by omega)
    · exact c.up (fun _ _ w => w) (h.1 _ _ (by omega)) (fun j => h.2.2.1 _ _ _ (by omega)) (fun j => h.2.2.2 _ _ _ (by omega))
  refine ⟨⟨fun i i0 i1 => ?_, fun o => ?_⟩, oth _ (by decide) W.args, oth _ (by decide) W.opn, oth _ (by decide) W.last⟩
  · rw [k.cur, k.usd] at i1
    rw [k.cur, k.lv', show oRk t (mCur s) i = oRk s (mCur s) i from h.2.2.1 _ _ _ (by omega), show oRv t (mCur s) i = oRv s (mCur s) i from h.2.2.2 _ _ _ (by omega)]
    exact co.2.1.2 i i0 i1
  · rw [k.cur, k.dep] at o
    rw [k.etF, k.lv', show mJk t (tF s) = mJk s (tF s) from h.1 _ _ (by omega), show mJv t (tF s) = mJv s (tF s) from h.2.1 _ _]
    obtain ⟨j, j0, j1, -, -, e'⟩ := tF_of W o
    rw [e']
    exact (co.2.2.1.2 j j0 j1).2
theorem cRx.ix {r : Nat} {s t : S1} {n : Nat × Nat} {i w : Int32} (hr : r = 132 ∨ r = 135 ∨ r = 138 ∨ r = 141) (h : cRx r s t) (x : Ix s n i w) (row : r ≠ 135 → cRow (cLv false s) t r) : Ix t n i w := by
  obtain ⟨p1, p2, p3, p4⟩ := cRx.kept hr h x.w row
  exact x.lw (cRx.lw hr h) p1 p2 p3 p4
theorem cRx.oi {r : Nat} {s t : S1} {n : Nat × Nat} {i w : Int32} (hr : r = 132 ∨ r = 135 ∨ r = 138 ∨ r = 141) (h : cRx r s t) (x : Ix s n i w) (row : r ≠ 135 → cRow (cLv false s) t r) : Oi s n i w t := by
  refine ⟨cRx.ix hr h x row, ?_, .inl (h.1 _ _ (by omega))⟩
  rw [(cRx.lw hr h).etF]
  exact ⟨h.1 _ _ (by omega), h.1 _ _ (by omega), h.1 _ _ (by omega)⟩
/-- a joining begins -/
def Oj (s : S1) (n : Nat × Nat) (i w : Int32) (t : S1) : Prop := Ix t n i w ∧ gI t 19461 (tF t) = gI s 19461 (tF s) ∧ gI t 16396 0 = 6 ∧ gI t 19464 (tF t) = dC w - 1
theorem reckonOne_ok {s : S1} {n : Nat × Nat} {i w : Int32} (x : Ix s n i w) (ho : 25 ≤ (dO w).toInt ∧ (dO w).toInt ≤ 29) : ok M_St_reckonOne s (fun _ t => ((dO w).toInt ≠ 29 ∧ Oi s n i w t) ∨ ((dO w).toInt = 29 ∧ Oj s n i w t)) := by
  have H := x.w.hi
  obtain ⟨o1, o2, o3, o4, o5⟩ := x.o
  obtain ⟨a1, a2, a3, a4⟩ := x.2.2.2.2.2.1
  have wn := x.wn
  have dAi := dA_in w
  have pf := x.tp.2.2.2.2.1
  have e12 : (12 : Int32).toInt = 12 := rfl
  simp only [M_St_reckonOne, ok_B, ok_C, ok_R, ok_L, ok_K, ok_GI, ok_GL, ok_PI, ok_PL, ok_AI, ok_AL, ok_SI, ok_SL, ok_CI, cmp_lt, cmp_le, cmp_gt, cmp_ge, cmp_eq, nar0, nar1, Sum.elim_inl, Sum.elim_inr, ok_PzT, ok_PzC, ok_PzP, ok_PrC, ok_PrP, ok_PrF, ok_PrN, ok_Ln, ok_CL, ok_Nw, ok_S, ok_Ks, ok_Nz]
  rw [o1]
  refine ⟨fun o => ?_, fun n7 => ⟨fun o => ?_, fun n8' => ⟨fun o => ?_, fun n9 => ?_⟩⟩⟩
  · have h := wn.1 (.inr (.inr (.inr (.inl (opI o)))))
    rw [ok_iT x (x.xB h.2), o2]
    have j53 : ∀ k : Int32, 0 ≤ k ∧ k ≤ 3 → ok (M_St_reckonOne_j53 k (dA w)) s (fun _ t => ((dO w).toInt ≠ 29 ∧ Oi s n i w t) ∨ ((dO w).toInt = 29 ∧ Oj s n i w t)) := fun k hk => by
      simp only [M_St_reckonOne_j53, ok_B, ok_C, ok_R, ok_L, ok_K, ok_GI, ok_GL, ok_PI, ok_PL, ok_AI, ok_AL, ok_SI, ok_SL, ok_CI, cmp_lt, cmp_le, cmp_gt, cmp_ge, cmp_eq, nar0, nar1, Sum.elim_inl, Sum.elim_inr, ok_PzT, ok_PzC, ok_PzP, ok_PrC, ok_PrP, ok_PrF, ok_PrN, ok_Ln, ok_CL, ok_Nw, ok_S, ok_Ks, ok_Nz]
      refine ok_mono (set_ok x dAi.1 h.1 (cV.lit hk)) ?_
      rintro - t st
      exact .inl ⟨by rw [opI o]; decide, st.oi⟩
    exact ⟨fun _ => j53 2 (by decide), fun _ => j53 1 (by decide)⟩
  · refine ok_mono (measure_ok x (opI o)) ?_
    rintro - t ot
    exact .inl ⟨by rw [opI o]; decide, ot⟩
  · have h := wn.2.2.2.2.2.2.2.2.2.2.2.2.1 (opI o)
    have hC := x.xC h.2.2
    have kC := x.kv0 hC
    have nc : ¬ 256 ≤ gI s 16523 0 := fun z => by
      rw [o4, i32_le] at z
      have e : (256 : Int32).toInt = 256 := rfl
      have := x.nr
      omega
    obtain ⟨b1, b2, -⟩ := (x.place hC).2 nc
    unfold kO vO at kC
    rw [if_neg nc, if_neg nc] at kC
    have pfs : ∀ T : S1, (∀ j, gI T 19583 j = gI s 19583 j) → pF T (tF s) := fun T h => ⟨pf.1, (h _).trans pf.2⟩
    have fin : ∀ T : S1, (∀ f j, gI T f j = if f = 16396 ∧ j = 0 then 6 else if f = 19464 ∧ j = tF s then gI s 16523 0 - 1 else if f = 19462 ∧ j = tF s then gA s 149 (gI s 16516 0) (gI s 16519 0 + gI s 16523 0) else gI s f j) → (∀ f j, gL T f j = if f = 19463 ∧ j = tF s then gB s 150 (gI s 16516 0) (gI s 16519 0 + gI s 16523 0) else gL s f j) → T.2.2 = s.2.2 → Oj s n i w T := fun T TI TL T2 => by
      have tq : tQ s (tF s) := ⟨x.2.2.2.1, rfl⟩
      have eA : ∀ a j q, gA T a j q = gA s a j q := fun a j q => by
        show T.2.2.1 a j q = s.2.2.1 a j q
        rw [T2]
      have eB : ∀ a j q, gB T a j q = gB s a j q := fun a j q => by
        show T.2.2.2 a j q = s.2.2.2 a j q
        rw [T2]
      have I : ∀ f j, f ≠ 16396 ∧ f ≠ 19464 ∧ f ≠ 19462 → gI T f j = gI s f j := fun f j q => by rw [TI, if_neg (fun z => q.1 z.1), if_neg (fun z => q.2.1 z.1), if_neg (fun z => q.2.2 z.1)]
      have l : lw false s T := by
        refine ⟨fun f j q => I f j (by unfold lwX at q; omega), fun j q => ⟨I _ _ (by decide), ?_⟩, fun j q => ⟨?_, ?_⟩, fun f j q => ?_, fun a j k _ => eA a j k, fun j k _ => eA _ j k, fun a j k _ => eB a j k, fun j k _ => eB _ j k⟩
        · have nq : j ≠ tF s := fun z => by
            rcases q with q | q
            · exact absurd q (by decide)
            · exact q (z ▸ tq)
          rw [TI, if_neg (fun z => absurd z.1 (by decide)), if_neg (fun z => nq z.2), if_neg (fun z => absurd z.1 (by decide))]
        · have nq : j ≠ tF s := fun z => q (z ▸ tq)
          rw [TI, if_neg (fun z => absurd z.1 (by decide)), if_neg (fun z => absurd z.1 (by decide)), if_neg (fun z => nq z.2)]
        · have nq : j ≠ tF s := fun z => q (z ▸ tq)
          rw [TL, if_neg (fun z => nq z.2)]
        · rw [TL, if_neg (fun z => q.2.2 z.1)]
      have W := x.w
      have co := (W.hi.dep W.cur).1
      have row : ∀ r, r = 132 ∨ r = 138 ∨ r = 141 → cRow (cLv false s) s r → cRow (cLv false s) T r := fun r hr z => z.up (fun _ _ q => q) (I _ _ (by omega)) (fun j => eA _ _ _) (fun j => eB _ _ _)
      refine ⟨x.lw l ⟨fun j j0 j1 => ?_, fun _ => ?_⟩ (row _ (by decide) W.args) (row _ (by decide) W.opn) (row _ (by decide) W.last), ?_, ?_, ?_⟩
      · rw [l.cur, l.usd] at j1
        rw [l.cur, l.lv', show oRk T (mCur s) j = oRk s (mCur s) j from eA _ _ _, show oRv T (mCur s) j = oRv s (mCur s) j from eB _ _ _]
        exact co.2.1.2 j j0 j1
      · have e1 : mJk T (tF s) = gA s 149 (gI s 16516 0) (gI s 16519 0 + gI s 16523 0) := by
          show gI T 19462 (tF s) = _
          rw [TI, if_neg (fun z => absurd z.1 (by decide)), if_neg (fun z => absurd z.1 (by decide)), if_pos ⟨rfl, rfl⟩]
        have e2 : mJv T (tF s) = gB s 150 (gI s 16516 0) (gI s 16519 0 + gI s 16523 0) := by
          show gL T 19463 (tF s) = _
          rw [TL, if_pos ⟨rfl, rfl⟩]
        rw [l.etF, l.lv', e1, e2]
        exact kC
      · rw [l.etF]
        exact I _ _ (by decide)
      · rw [TI, if_pos ⟨rfl, rfl⟩]
      · rw [l.etF, TI, if_neg (fun z => absurd z.1 (by decide)), if_pos ⟨rfl, rfl⟩, o4]
    simp only [M_St_kindOf, M_St_valueOf, ok_B, ok_C, ok_R, ok_L, ok_K, ok_GI, ok_GL, ok_PI, ok_PL, ok_AI, ok_AL, ok_SI, ok_SL, ok_CI, cmp_lt, cmp_le, cmp_gt, cmp_ge, cmp_eq, nar0, nar1, Sum.elim_inl, Sum.elim_inr, ok_PzT, ok_PzC, ok_PzP, ok_PrC, ok_PrP, ok_PrF, ok_PrN, ok_Ln, ok_CL, ok_Nw, ok_S, ok_Ks, ok_Nz]
    simp only [gI_sI, gI_sL, gI_sA, gI_sB, gI_sAf, gI_sBf, gL_sI, gL_sL, gL_sA, gL_sB, gL_sAf, gL_sBf, gA_sI, gA_sL, gA_sA, gA_sB, gA_sAf, gA_sBf, gB_sI, gB_sL, gB_sA, gB_sB, gB_sAf, gB_sBf, Nat.reduceEqDiff, Nat.reduceMul, Nat.reduceAdd, false_and, true_and, and_true, and_false, if_true, if_false, a2]
    refine ⟨pf, fun c => absurd c nc, fun _ => ⟨b1, b2, pfs _ (fun j => ?_), fun c => absurd c nc, fun _ => ⟨?_, b2, pfs _ (fun j => ?_), .inr ⟨opI o, fin _ (fun f j => ?_) (fun f j => ?_) rfl⟩⟩⟩⟩
    · simp only [gI_sI, gI_sL, gI_sA, gI_sB, gI_sAf, gI_sBf, gL_sI, gL_sL, gL_sA, gL_sB, gL_sAf, gL_sBf, gA_sI, gA_sL, gA_sA, gA_sB, gA_sAf, gA_sBf, gB_sI, gB_sL, gB_sA, gB_sB, gB_sAf, gB_sBf, Nat.reduceEqDiff, Nat.reduceMul, Nat.reduceAdd, false_and, true_and, and_true, and_false, if_true, if_false]
    · exact ⟨b1.1, by simp only [gI_sI, gI_sL, gI_sA, gI_sB, gI_sAf, gI_sBf, gL_sI, gL_sL, gL_sA, gL_sB, gL_sAf, gL_sBf, gA_sI, gA_sL, gA_sA, gA_sB, gA_sAf, gA_sBf, gB_sI, gB_sL, gB_sA, gB_sB, gB_sAf, gB_sBf, Nat.reduceEqDiff, Nat.reduceMul, Nat.reduceAdd, false_and, true_and, and_true, and_false, if_true, if_false]; exact b1.2⟩
    · simp only [gI_sI, gI_sL, gI_sA, gI_sB, gI_sAf, gI_sBf, gL_sI, gL_sL, gL_sA, gL_sB, gL_sAf, gL_sBf, gA_sI, gA_sL, gA_sA, gA_sB, gA_sAf, gA_sBf, gB_sI, gB_sL, gB_sA, gB_sB, gB_sAf, gB_sBf, Nat.reduceEqDiff, Nat.reduceMul, Nat.reduceAdd, false_and, true_and, and_true, and_false, if_true, if_false]
    · simp only [gI_sI, gI_sL]
    · simp only [gL_sI, gL_sL]
  · have ho' : (dO w).toInt = 25 ∨ (dO w).toInt = 26 := by
      have m7 : (dO w).toInt ≠ 27 := fun z => n7 (toInt_inj z)
      have m8 : (dO w).toInt ≠ 28 := fun z => n8' (toInt_inj z)
      have m9 : (dO w).toInt ≠ 29 := fun z => n9 (toInt_inj z)
      omega
    have h := wn.1 (by omega)
    have kB := x.kv0 (x.xB h.2)
    rw [ok_kO x (x.xB h.2)]
    have j173 : ∀ v, ok (M_St_reckonOne_j173 v 3 (dA w)) s (fun _ t => ((dO w).toInt ≠ 29 ∧ Oi s n i w t) ∨ ((dO w).toInt = 29 ∧ Oj s n i w t)) := fun v => by
      simp only [M_St_reckonOne_j173, ok_B, ok_C, ok_R, ok_L, ok_K, ok_GI, ok_GL, ok_PI, ok_PL, ok_AI, ok_AL, ok_SI, ok_SL, ok_CI, cmp_lt, cmp_le, cmp_gt, cmp_ge, cmp_eq, nar0, nar1, Sum.elim_inl, Sum.elim_inr, ok_PzT, ok_PzC, ok_PzP, ok_PrC, ok_PrP, ok_PrF, ok_PrN, ok_Ln, ok_CL, ok_Nw, ok_S, ok_Ks, ok_Nz]
      refine ok_mono (set_ok x dAi.1 h.1 (cV.lit (by decide))) ?_
      rintro - t st
      exact .inl ⟨by omega, st.oi⟩
    refine ⟨fun _ => ⟨fun _ => ?_, fun _ => ?_⟩, fun _ => ?_⟩
    · rw [ok_vO x (x.xB h.2), o2]
      exact j173 _
    · rw [ok_vO x (x.xB h.2), o2]
      exact j173 _
    · have e : (dO w - 12).toInt = (dO w).toInt - 12 := by rw [ktI_sub] <;> omega
      rw [ok_kO x (x.xB h.2), ok_vO x (x.xB h.2), ok_kO x (x.xB h.2), ok_vO x (x.xB h.2), o1]
      refine ok_mono (either_ok H (by omega) kB kB) ?_
      rintro r t e
      refine ⟨fun r0 => ?_, fun r0 => .inl ⟨by omega, e.oi x (by unfold dCl; omega) r0⟩⟩
      rcases e with e | e
      · rw [e.2]
        refine ok_mono (failI_ok 3 x) ?_
        rintro - u ou
        exact .inl ⟨by omega, ou⟩
      · rw [e.1] at r0
        exact absurd r0 (by decide)
def hlQ (s : S1) (n : Nat × Nat) (i w r : Int32) (t : S1) : Prop := (r = 1 ∧ t = s) ∨ (r = 0 ∧ Oi s n i w t)
theorem hasLoop_ok {s : S1} {n : Nat × Nat} {i w : Int32} (x : Ix s n i w) (hA : (dA w).toInt + 3 < pNr s (fPr s (tF s))) : ok M_St_hasLoopNumbers s (hlQ s n i w) := by
  have dAi := dA_in w
  have e1 : (1 : Int32).toInt = 1 := rfl
  have e2 : (2 : Int32).toInt = 2 := rfl
  have a1 : (dA w + 1).toInt = (dA w).toInt + 1 := by rw [ktI_add] <;> omega
  have a2 : (dA w + 2).toInt = (dA w).toInt + 2 := by rw [ktI_add] <;> omega
  have j42 : ok M_St_hasLoopNumbers_j42 s (hlQ s n i w) := by
    simp only [M_St_hasLoopNumbers_j42, ok_B, ok_C, ok_R, ok_L, ok_K, ok_GI, ok_GL, ok_PI, ok_PL, ok_AI, ok_AL, ok_SI, ok_SL, ok_CI, cmp_lt, cmp_le, cmp_gt, cmp_ge, cmp_eq, nar0, nar1, Sum.elim_inl, Sum.elim_inr, ok_PzT, ok_PzC, ok_PzP, ok_PrC, ok_PrP, ok_PrF, ok_PrN, ok_Ln, ok_CL, ok_Nw, ok_S, ok_Ks, ok_Nz]
    refine ok_mono (failI_ok 3 x) ?_
    rintro - t ot
    exact .inr ⟨rfl, ot⟩
  simp only [M_St_hasLoopNumbers, ok_B, ok_C, ok_R, ok_L, ok_K, ok_GI, ok_GL, ok_PI, ok_PL, ok_AI, ok_AL, ok_SI, ok_SL, ok_CI, cmp_lt, cmp_le, cmp_gt, cmp_ge, cmp_eq, nar0, nar1, Sum.elim_inl, Sum.elim_inr, ok_PzT, ok_PzC, ok_PzP, ok_PrC, ok_PrP, ok_PrF, ok_PrN, ok_Ln, ok_CL, ok_Nw, ok_S, ok_Ks, ok_Nz]
  rw [x.o.2.1, ok_kO x (x.xr dAi.1 (by omega))]
  refine ⟨fun _ => ?_, fun _ => j42⟩
  rw [x.o.2.1, ok_kO x (x.xr (by omega) (by omega))]
  refine ⟨fun _ => ?_, fun _ => j42⟩
  rw [x.o.2.1, ok_kO x (x.xr (by omega) (by omega))]
  exact ⟨fun _ => .inl ⟨rfl, rfl⟩, fun _ => j42⟩
/-- a register is set where the frame goes on -/
theorem Os.set {s t u : S1} {n : Nat × Nat} {i w r k : Int32} {v : Int64} (a : Os s n i w t) (tt : gI t 16396 0 = gI s 16396 0) (st : stQ t n i w r k v u) : Os s n i w u := by
  rcases a with a | a
  · exact .inl (a.trans tt st.oi)
  · have et : tF u = tF t := by
      unfold tF mCur oD
      rw [st.2.1, st.2.1]
    have pk : cPk t u := ⟨fun f j _ => st.2.1 f j, fun a j k z => st.2.2.2.1 a j k (by omega)⟩
    refine .inr ⟨st.1, (st.2.1 _ _).trans a.2.1, ?_⟩
    rw [pk.gs, et, show fPr u (tF t) = fPr t (tF t) from st.2.1 _ _, st.2.1]
    exact a.2.2
theorem jump2_ok {s : S1} {n : Nat × Nat} {i w : Int32} (x : Ix s n i w) (hp : gI s 19461 (tF s) = i + 1) (g : dGs s (fPr s (tF s)) (i + 1 + (dX w - 131071))) : ok M_St_jump s (fun _ t => Os s n i w t ∧ gI t 16396 0 = gI s 16396 0 ∧ Ix t n i w) := by
  obtain ⟨a1, a2, a3, a4⟩ := x.2.2.2.2.2.1
  simp only [M_St_jump, ok_B, ok_C, ok_R, ok_L, ok_K, ok_GI, ok_GL, ok_PI, ok_PL, ok_AI, ok_AL, ok_SI, ok_SL, ok_CI, cmp_lt, cmp_le, cmp_gt, cmp_ge, cmp_eq, nar0, nar1, Sum.elim_inl, Sum.elim_inr, ok_PzT, ok_PzC, ok_PzP, ok_PrC, ok_PrP, ok_PrF, ok_PrN, ok_Ln, ok_CL, ok_Nw, ok_S, ok_Ks, ok_Nz]
  rw [a2, hp, x.o.2.2.2.2]
  refine ⟨x.tp.2.2.2.2.1, skip_os x g, ?_, (pc_ix x _).2⟩
  rw [gI_sI, if_neg (fun y => absurd y.1 (by decide))]
theorem loop_ok {s : S1} {n : Nat × Nat} {i w : Int32} (x : Ix s n i w) (hp : gI s 19461 (tF s) = i + 1) (o : (dO w).toInt = 39) : ok M_St_loop s (fun _ t => Os s n i w t) := by
  have h := x.wn.2.2.2.2.2.2.2.2.2.2.2.2.2.2.2.2.2.2.2.2.1 o
  have dAi := dA_in w
  have e1 : (1 : Int32).toInt = 1 := rfl
  have e2 : (2 : Int32).toInt = 2 := rfl
  have e3 : (3 : Int32).toInt = 3 := rfl
  have a1 : (dA w + 1).toInt = (dA w).toInt + 1 := by rw [ktI_add] <;> omega
  have a2 : (dA w + 2).toInt = (dA w).toInt + 2 := by rw [ktI_add] <;> omega
  have a3 : (dA w + 3).toInt = (dA w).toInt + 3 := by rw [ktI_add] <;> omega
  simp only [M_St_loop, ok_B, ok_C, ok_R, ok_L, ok_K, ok_GI, ok_GL, ok_PI, ok_PL, ok_AI, ok_AL, ok_SI, ok_SL, ok_CI, cmp_lt, cmp_le, cmp_gt, cmp_ge, cmp_eq, nar0, nar1, Sum.elim_inl, Sum.elim_inr, ok_PzT, ok_PzC, ok_PzP, ok_PrC, ok_PrP, ok_PrF, ok_PrN, ok_Ln, ok_CL, ok_Nw, ok_S, ok_Ks, ok_Nz]
  refine ok_mono (hasLoop_ok x h.1) ?_
  rintro r t q
  refine ⟨fun r0 => ?_, fun r0 => ?_⟩
  · rcases q with q | q
    · rw [q.1] at r0
      exact absurd r0 (by decide)
    · exact .inl q.2
  · have et : t = s := by
      rcases q with q | q
      · exact q.2
      · exact absurd q.1 r0
    subst et
    rw [x.o.2.1, ok_vO x (x.xr (by omega) (by omega)), x.o.2.1, ok_vO x (x.xr dAi.1 (by omega)), x.o.2.1, ok_vO x (x.xr (by omega) (by omega)), x.o.2.1]
    refine ok_mono (set_ok x dAi.1 (by omega) (cV.lit (by decide))) ?_
    rintro - u st
    have xu := st.1
    have hu := xu.wn.2.2.2.2.2.2.2.2.2.2.2.2.2.2.2.2.2.2.2.2.1 o
    have eu : tF u = tF t := by
      unfold tF mCur oD
      rw [st.2.1, st.2.1]
    have pu : gI u 19461 (tF u) = i + 1 := by
      rw [eu, st.2.1]
      exact hp
    have j75 : ∀ v, ok (M_St_loop_j75 v) u (fun _ t' => Os t n i w t') := fun v => by
      simp only [M_St_loop_j75, ok_B, ok_C, ok_R, ok_L, ok_K, ok_GI, ok_GL, ok_PI, ok_PL, ok_AI, ok_AL, ok_SI, ok_SL, ok_CI, cmp_lt, cmp_le, cmp_gt, cmp_ge, cmp_eq, nar0, nar1, Sum.elim_inl, Sum.elim_inr, ok_PzT, ok_PzC, ok_PzP, ok_PrC, ok_PrP, ok_PrF, ok_PrN, ok_Ln, ok_CL, ok_Nw, ok_S, ok_Ks, ok_Nz]
      refine ok_mono (jump2_ok xu pu hu.2) ?_
      rintro - u2 ⟨o2, t2, x2⟩
      have h2 := x2.wn.2.2.2.2.2.2.2.2.2.2.2.2.2.2.2.2.2.2.2.2.1 o
      rw [x2.o.2.1]
      refine ok_mono (set_ok x2 (by omega) (by omega) (cV.lit (by decide))) ?_
      rintro - u3 st3
      exact Os.trans st.oi (st.2.1 _ _) (o2.set t2 st3)
    exact ⟨fun _ => ⟨fun _ => .inl st.oi, fun _ => j75 _⟩, fun _ => ⟨fun _ => .inl st.oi, fun _ => j75 _⟩⟩
