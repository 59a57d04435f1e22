/-! The class: a call's results come to its instruction. -/
def St4 (s : S1) (n : Nat × Nat) : Prop := cW s n ∧ qFr true s ∧ gI s 18951 (mCur s) = 1 ∧ gI s 16396 0 = 4 ∧ cRow (cLv false s) s 135 ∧ 1 ≤ (oD s (mCur s)).toInt ∧ fWh s (tF s) = 0
theorem top_wt {s : S1} {n : Nat × Nat} (W : cW s n) (F : qFr true s) (h : 1 ≤ (oD s (mCur s)).toInt) (l : fWh s (tF s) = 0) : qWt s (tF s) := by
  obtain ⟨j, j0, j1, j2, j3, e⟩ := tF_of W h
  have q := ((F _ W.cur).2 j j0 j1).2.2.2
  rw [← e] at q
  exact (q l).2.2.2 (.inr (.inr rfl))
theorem setAll_ok {s : S1} {n : Nat × Nat} {i w a m : Int32} (x : Ix s n i w) (row : cRow (cLv false s) s 135) (a0 : 0 ≤ a.toInt ∧ a.toInt ≤ 1000) (hm : m.toInt ≤ 1000 ∧ a.toInt + m.toInt ≤ pNr s (fPr s (tF s))) : ok (M_St_setAll a m) s (fun _ t => Ix t n i w ∧ ∀ f j, gI t f j = gI s f j) := by
  have e0 : (0 : Int32).toInt = 0 := rfl
  have e1 : (1 : Int32).toInt = 1 := rfl
  have nr := x.nr
  simp only [M_St_setAll, ok_B, ok_C, ok_R, ok_L, ok_K, ok_GI, ok_GL, ok_PI, ok_PL, ok_AI, ok_AL, ok_SI, ok_SL, ok_CI, cmp_lt, cmp_le, cmp_gt, cmp_ge, cmp_eq, nar0, nar1, Sum.elim_inl, Sum.elim_inr, ok_PzT, ok_PzC, ok_PzP, ok_PrC, ok_PrP, ok_PrF, ok_PrN, ok_Ln, ok_CL, ok_Nw, ok_S, ok_Ks, ok_Nz]
  refine ok_W (fun y t => (y.1 = a ∧ y.2.1 = m) ∧ (0 ≤ y.2.2.toInt ∧ y.2.2.toInt ≤ 1000) ∧ Ix t n i w ∧ (∀ f j, gI t f j = gI s f j) ∧ (∀ j, gA t 136 0 j = gA s 136 0 j) ∧ ∀ j, gB t 137 0 j = gB s 137 0 j) (fun y _ => (m.toInt - y.2.2.toInt).toNat) ?_ (a, m, 0) s ⟨⟨rfl, rfl⟩, ⟨Int.le_refl _, by dsimp only; omega⟩, x, fun _ _ => rfl, fun _ => rfl, fun _ => rfl⟩
  rintro ⟨a', m', k⟩ t ⟨⟨q1, q2⟩, ⟨k0, k1⟩, xt, gt, gA', gB'⟩
  dsimp only at q1 q2 k0 k1
  subst q1 q2
  have lv : cLv false t = cLv false s := by
    funext y u
    rw [cLv_f, cLv_f, show cN t = cN s from gt _ _, show cTy t y = cTy s y from gt _ _]
  have rt : cRow (cLv false t) t 135 := by
    rw [lv]
    exact row.up (fun _ _ q => q) (gt _ _) (fun j => gA' j) (fun j => gB' j)
  have rn := rt.n
  simp only [M_St_setAll_L2, ok_B, ok_C, ok_R, ok_L, ok_K, ok_GI, ok_GL, ok_PI, ok_PL, ok_AI, ok_AL, ok_SI, ok_SL, ok_CI, cmp_lt, cmp_le, cmp_gt, cmp_ge, cmp_eq, nar0, nar1, Sum.elim_inl, Sum.elim_inr, ok_PzT, ok_PzC, ok_PzP, ok_PrC, ok_PrP, ok_PrF, ok_PrN, ok_Ln, ok_CL, ok_Nw, ok_S, ok_Ks, ok_Nz]
  refine ⟨fun _ => ⟨xt, gt⟩, fun c => ?_⟩
  rw [i32_le] at c
  have k0' : 0 ≤ k := by
    rw [i32_le]
    omega
  rw [ok_kA rn.2 k0', ok_vA rn.2 k0']
  have ea : (a' + k).toInt = a'.toInt + k.toInt := by rw [ktI_add] <;> omega
  have ek : (k + 1).toInt = k.toInt + 1 := by rw [ktI_add] <;> omega
  have et : tF t = tF s := tF_eq (fun f j _ => gt f j)
  refine ok_mono (set_ok xt (by omega) ?_ (rt.kv k0')) ?_
  · rw [et]
    show _ < (gI t 18434 (gI t 19458 (tF s))).toInt
    rw [gt, gt]
    show _ < pNr s (fPr s (tF s))
    omega
  · rintro - u st
    exact ⟨⟨⟨trivial, trivial⟩, ⟨by omega, by omega⟩, st.1, fun f j => (st.2.1 f j).trans (gt f j), fun j => (st.2.2.2.1 _ _ _ (by decide)).trans (gA' j), fun j => (st.2.2.2.2.1 _ _ _ (by decide)).trans (gB' j)⟩, by omega⟩
theorem fin235_ok {s : S1} {n : Nat × Nat} {i w : Int32} (x : Ix s n i w) : ok M_St_finish_j235 s (fun _ t => Ix t n i w ∧ cRx 135 s t) := by
  simp only [M_St_finish_j235, ok_B, ok_C, ok_R, ok_L, ok_K, ok_GI, ok_GL, ok_PI, ok_PL, ok_AI, ok_AL, ok_SI, ok_SL, ok_CI, cmp_lt, cmp_le, cmp_gt, cmp_ge, cmp_eq, nar0, nar1, Sum.elim_inl, Sum.elim_inr, ok_PzT, ok_PzC, ok_PzP, ok_PrC, ok_PrP, ok_PrF, ok_PrN, ok_Ln, ok_CL, ok_Nw, ok_S, ok_Ks, ok_Nz]
  refine ok_mono (rClear_ok 135 s) ?_
  rintro - t ⟨k, z⟩
  exact ⟨cRx.ix (by decide) k x (fun z => absurd rfl z), k⟩
/-- the joined value of the newest frame is set -/
theorem join_ix {s T : S1} {n : Nat × Nat} {i w kk : Int32} {vv : Int64} (x : Ix s n i w) (hv : cV (cLv false s) kk vv) (TI : ∀ f j, gI T f j = if f = 16396 ∧ j = 0 then gI T 16396 0 else if f = 19462 ∧ j = tF s then kk else gI s f j) (TL : ∀ f j, gL T f j = if f = 19463 ∧ j = tF s then vv else gL s f j) (T2 : T.2.2 = s.2.2) : Ix T n i w ∧ lw true s T := by
  have tq : tQ s (tF s) := ⟨x.2.2.2.1, rfl⟩
  have eA : ∀ a j q, gA T a j q = gA s a j q := fun a j q => by
    show T.2.2.1 a j q = s.2.2.1 a j q
    rw [T2]
  have eB : ∀ a j q, gB T a j q = gB s a j q := fun a j q => by
    show T.2.2.2 a j q = s.2.2.2 a j q
    rw [T2]
  have I : ∀ f j, f ≠ 16396 ∧ f ≠ 19462 → gI T f j = gI s f j := fun f j q => by rw [TI, if_neg (fun z => q.1 z.1), if_neg (fun z => q.2 z.1)]
  have l : lw true s T := by
    refine ⟨fun f j q => I f j (by unfold lwX at q; omega), fun j _ => ⟨I _ _ (by decide), I _ _ (by decide)⟩, fun j q => ⟨?_, ?_⟩, fun f j q => ?_, fun a j k _ => eA a j k, fun j k _ => eA _ j k, fun a j k _ => eB a j k, fun j k _ => eB _ j k⟩
    · have nq : j ≠ tF s := fun z => q (z ▸ tq)
      rw [TI, if_neg (fun z => absurd z.1 (by decide)), if_neg (fun z => nq z.2)]
    · have nq : j ≠ tF s := fun z => q (z ▸ tq)
      rw [TL, if_neg (fun z => nq z.2)]
    · rw [TL, if_neg (fun z => q.2.2 z.1)]
  have W := x.w
  have co := (W.hi.dep W.cur).1
  have row : ∀ r, r = 132 ∨ r = 138 ∨ r = 141 → cRow (cLv false s) s r → cRow (cLv false s) T r := fun r hr z => z.up (fun _ _ q => q) (I _ _ (by omega)) (fun j => eA _ _ _) (fun j => eB _ _ _)
  refine ⟨x.lw l ⟨fun j j0 j1 => ?_, fun _ => ?_⟩ (row _ (by decide) W.args) (row _ (by decide) W.opn) (row _ (by decide) W.last), l⟩
  · rw [l.cur, l.usd] at j1
    rw [l.cur, l.lv', show oRk T (mCur s) j = oRk s (mCur s) j from eA _ _ _, show oRv T (mCur s) j = oRv s (mCur s) j from eB _ _ _]
    exact co.2.1.2 j j0 j1
  · have e1 : mJk T (tF s) = kk := by
      show gI T 19462 (tF s) = _
      rw [TI, if_neg (fun z => absurd z.1 (by decide)), if_pos ⟨rfl, rfl⟩]
    have e2 : mJv T (tF s) = vv := by
      show gL T 19463 (tF s) = _
      rw [TL, if_pos ⟨rfl, rfl⟩]
    rw [l.etF, l.lv', e1, e2]
    exact hv
theorem finish_ok {s : S1} {n : Nat × Nat} (h : St4 s n) : ok M_St_finish s (fun _ t => So t n) := by
  obtain ⟨W, F, h1, t4, row, h2, h3⟩ := h
  have wt := top_wt W F h2 h3
  obtain ⟨⟨w1, w2⟩, w3, w4⟩ := wt
  have e0 : (0 : Int32).toInt = 0 := rfl
  have e1 : (1 : Int32).toInt = 1 := rfl
  have e3 : (3 : Int32).toInt = 3 := rfl
  simp only [M_St_finish, ok_B, ok_C, ok_R, ok_L, ok_K, ok_GI, ok_GL, ok_PI, ok_PL, ok_AI, ok_AL, ok_SI, ok_SL, ok_CI, cmp_lt, cmp_le, cmp_gt, cmp_ge, cmp_eq, nar0, nar1, Sum.elim_inl, Sum.elim_inr, ok_PzT, ok_PzC, ok_PzP, ok_PrC, ok_PrP, ok_PrF, ok_PrN, ok_Ln, ok_CL, ok_Nw, ok_S, ok_Ks, ok_Nz]
  refine ok_mono (decode_ok W F.weak h1 h2 h3 w1 (by
    change (fPc s (tF s)).toInt ≤ _
    omega)) ?_
  rintro - s1 ⟨x1, I1, T1⟩
  have et1 : tF s1 = tF s := tF_eq (fun f j q => I1 f j (by unfold sdI; omega))
  have p1 : gI s1 19461 (tF s1) = gI s 19461 (tF s) := by
    rw [et1]
    exact I1 _ _ (by unfold sdI; decide)
  have j1' : gI s1 19464 (tF s1) = gI s 19464 (tF s) := by
    rw [et1]
    exact I1 _ _ (by unfold sdI; decide)
  have lv1 : cLv false s1 = cLv false s := by
    funext y u
    rw [cLv_f, cLv_f, show cN s1 = cN s from I1 _ _ (by unfold sdI; decide), show cTy s1 y = cTy s y from I1 _ _ (by unfold sdI; decide)]
  have row1 : cRow (cLv false s1) s1 135 := by
    rw [lv1]
    exact row.up (fun _ _ q => q) (I1 _ _ (by unfold sdI; decide)) (fun j => by show s1.2.2.1 _ _ _ = s.2.2.1 _ _ _; rw [T1]) (fun j => by show s1.2.2.2 _ _ _ = s.2.2.2 _ _ _; rw [T1])
  -- names
  change dCl (dO (dW s (fPr s (tF s)) (gI s 19461 (tF s) - 1))).toInt at w3
  generalize hw : dW s (fPr s (tF s)) (gI s 19461 (tF s) - 1) = w at x1 w3
  have hja : dO w = 29 → (dB w).toInt - 1 ≤ fJa s (tF s) ∧ fJa s (tF s) < (dC w).toInt := fun z => by
    have q := w4
    change dO (dW s (fPr s (tF s)) (gI s 19461 (tF s) - 1)) = 29 → (dB (dW s (fPr s (tF s)) (gI s 19461 (tF s) - 1))).toInt - 1 ≤ fJa s (tF s) ∧ fJa s (tF s) < (dC (dW s (fPr s (tF s)) (gI s 19461 (tF s) - 1))).toInt at q
    rw [hw] at q
    exact q z
  have hpi : gI s 19461 (tF s) = (gI s 19461 (tF s) - 1) + 1 := by
    have em : (gI s 19461 (tF s) - 1).toInt = (gI s 19461 (tF s)).toInt - 1 := by
      change 1 ≤ (gI s 19461 (tF s)).toInt at w1
      have := Int32.toInt_lt (gI s 19461 (tF s))
      rw [ktI_sub] <;> omega
    refine toInt_inj ?_
    have pc := x1.tp.2.2.1.2.2.2.2.2.2.1
    have hb := x1.2.2.2.2.2.2.2.1
    rw [ktI_add] <;> omega
  generalize hi : gI s 19461 (tF s) - 1 = i at x1 hpi
  rw [hpi] at p1
  clear hpi hi hw w4 w1 w2
  -- the turn
  have I2 : ∀ f j, f ≠ 16396 → gI (sI s1 16396 0 0) f j = gI s1 f j := fun f j q => by rw [gI_sI, if_neg (fun z => q z.1)]
  have x2 : Ix (sI s1 16396 0 0) n i w := misc_ix x1 (fun f j q => I2 f j (fun z => q (by rw [z]; unfold miI; decide))) (fun _ _ _ => rfl) rfl
  have t2 : gI (sI s1 16396 0 0) 16396 0 = 0 := by rw [gI_sI, if_pos ⟨rfl, rfl⟩]
  have et2 : tF (sI s1 16396 0 0) = tF s1 := tF_eq (fun f j q => I2 f j (by omega))
  have p2 : gI (sI s1 16396 0 0) 19461 (tF (sI s1 16396 0 0)) = i + 1 := by
    rw [et2, I2 _ _ (by decide)]
    exact p1
  have j2 : fJa (sI s1 16396 0 0) (tF (sI s1 16396 0 0)) = fJa s (tF s) := by
    unfold fJa
    rw [et2, I2 _ _ (by decide), j1']
  have row2 : cRow (cLv false (sI s1 16396 0 0)) (sI s1 16396 0 0) 135 := row1.up (fun _ _ q => q) (I2 _ _ (by decide)) (fun _ => rfl) (fun _ => rfl)
  generalize sI s1 16396 0 0 = s2 at x2 t2 p2 j2 row2 ⊢
  clear I2 et2 row1 j1' p1 lv1 I1 T1 x1 et1
  have rn := row2.n
  have z0 : (0 : Int32) ≤ 0 := by decide
  have kv := row2.kv z0
  obtain ⟨o1, o2, o3, o4, o5⟩ := x2.o
  have dAi := dA_in w
  have dBi := dB_in w
  have dCi := dC_in w
  have wn := x2.wn
  have wf4 := x2.wf.2.2.2.1
  rw [x2.2.2.2.2.2.2.2.2] at wf4
  have nr := x2.nr
  -- the end of the plain ones
  have j235 : ∀ t, Ix t n i w → gI t 16396 0 = 0 → gI t 19461 (tF t) = i + 1 → (dO w).toInt ≠ 30 ∧ (dO w).toInt ≠ 37 ∧ (dO w).toInt ≠ 38 → (dMk w → 0 ≤ (gI t 16390 0).toInt ∧ (gI t 16390 0).toInt ≤ pNr t (fPr t (tF t))) → ok M_St_finish_j235 t (fun _ u => So u n) := fun t xt tt pt ho hm => by
    refine ok_mono (fin235_ok xt) ?_
    rintro - u ⟨xu, ku⟩
    have eu := (cRx.lw (.inr (.inl rfl)) ku).etF
    refine .inl (next_st xu ?_ ((ku.1 _ _ (by decide)).trans tt) ho (fun z => ?_))
    · rw [eu, ku.1 _ _ (by decide)]
      exact pt
    · rw [eu, ku.1 16390 _ (by decide)]
      show _ ∧ _ ≤ (gI u 18434 (gI u 19458 (tF t))).toInt
      rw [ku.1 _ _ (by decide), ku.1 _ _ (by decide)]
      exact hm z
  have ho : (dO w).toInt ≠ 30 ∧ (dO w).toInt ≠ 37 ∧ (dO w).toInt ≠ 38 := by
    unfold dCl at w3
    omega
  have sA : ∀ (a m : Int32), 0 ≤ a.toInt ∧ a.toInt ≤ 1000 → m.toInt ≤ 1000 ∧ a.toInt + m.toInt ≤ pNr s2 (fPr s2 (tF s2)) → ¬ dMk w → ok (M_St_setAll a m) s2 (fun _ u => ok M_St_finish_j235 u (fun _ u => So u n)) := fun a m ha hm nm => by
    refine ok_mono (setAll_ok x2 row2 ha hm) ?_
    rintro - t ⟨xt, gt⟩
    refine j235 t xt ((gt _ _).trans t2) ?_ ho (fun z => absurd z nm)
    rw [tF_eq (fun f j _ => gt f j), gt]
    exact p2
  rw [o1]
  refine ⟨fun o => ?_, fun n0 => ⟨fun o => ?_, fun n29 => ⟨fun o => ?_, fun n31 => ⟨fun o => ?_, fun n36 => ⟨fun o => ?_, fun n41 => ?_⟩⟩⟩⟩⟩
  · refine j235 s2 x2 t2 p2 ho (fun z => absurd z (noMk ?_ ?_))
    · rcases o with o | o <;> rw [opI o] <;> decide
    · rcases o with o | o <;> rw [opI o] <;> decide
  · obtain ⟨a1, a2, a3, a4⟩ := x2.2.2.2.2.2.1
    have pf := x2.tp.2.2.2.2.1
    rw [a2]
    refine ⟨pf, ?_⟩
    rw [ok_kA rn.2 z0]
    generalize hk : rk s2 135 0 = kk at kv ⊢
    have g1 : gI (sI s2 19462 (tF s2) kk) 16517 0 = tF s2 := by
      rw [gI_sI, if_neg (fun z => absurd z.1 (by decide))]
      exact a2
    have r1 : rv (sI s2 19462 (tF s2) kk) 135 0 = rv s2 135 0 := by
      have e : gI (sI s2 19462 (tF s2) kk) (128 * 135 + 2) 0 = gI s2 (128 * 135 + 2) 0 := by
        rw [gI_sI, if_neg (fun z => absurd z.1 (by decide))]
      unfold rv rwS rwV
      rw [e]
      rfl
    rw [g1]
    refine ⟨⟨pf.1, by rw [gI_sI, if_neg (fun z => absurd z.1 (by decide))]; exact pf.2⟩, ?_⟩
    rw [ok_vA (by show (gI (sI s2 19462 (tF s2) kk) 17282 0).toInt ≤ 512; rw [gI_sI, if_neg (fun z => absurd z.1 (by decide))]; exact rn.2) z0, r1]
    generalize rv s2 135 0 = vv at kv ⊢
    have TI : ∀ f j, gI (sI (sL (sI s2 19462 (tF s2) kk) 19463 (tF s2) vv) 16396 0 6) f j = if f = 16396 ∧ j = 0 then 6 else if f = 19462 ∧ j = tF s2 then kk else gI s2 f j := fun f j => by
      rw [gI_sI, gI_sL, gI_sI]
    have TL : ∀ f j, gL (sI (sL (sI s2 19462 (tF s2) kk) 19463 (tF s2) vv) 16396 0 6) f j = if f = 19463 ∧ j = tF s2 then vv else gL s2 f j := fun f j => by
      rw [gL_sI, gL_sL]
      rfl
    have T2 : (sI (sL (sI s2 19462 (tF s2) kk) 19463 (tF s2) vv) 16396 0 6).2.2 = s2.2.2 := rfl
    generalize sI (sL (sI s2 19462 (tF s2) kk) 19463 (tF s2) vv) 16396 0 6 = T at TI TL T2 ⊢
    have t6 : gI T 16396 0 = 6 := (TI _ _).trans (if_pos ⟨rfl, rfl⟩)
    obtain ⟨xT, lT⟩ := join_ix x2 kv (fun f j => by rw [t6]; exact TI f j) TL T2
    refine ok_mono (fin235_ok xT) ?_
    rintro - u ⟨xu, ku⟩
    have eu := (cRx.lw (.inr (.inl rfl)) ku).etF
    have et := lT.etF
    have gg : ∀ f j, f ≠ 16396 ∧ f ≠ 19462 ∧ f ≠ 17282 → gI u f j = gI s2 f j := fun f j q => by
      rw [ku.1 f j q.2.2, TI, if_neg (fun z => q.1 z.1), if_neg (fun z => q.2.1 z.1)]
    have pu : gI u 19461 (tF u) = i + 1 := by
      rw [eu, et, gg _ _ (by decide)]
      exact p2
    have ju : fJa u (tF u) = fJa s (tF s) := by
      rw [eu, et]
      unfold fJa
      rw [gg _ _ (by decide)]
      exact j2
    obtain ⟨c1, c2⟩ := pcp xu
    have hb := xu.2.2.2.2.2.2.2.1
    have wfu := xu.wf.1
    rw [xu.2.2.2.2.2.2.2.2] at wfu
    have lt : i.toInt + 1 < pNi u (fPr u (tF u)) := Decidable.byContradiction fun z => by
      rcases wfu z with y | y | y
      · exact ho.1 (opI y)
      · exact ho.2.1 (opI y)
      · exact ho.2.2 (opI y)
    have q : qWt u (tF u) := by
      unfold qWt
      rw [show fPc u (tF u) = i + 1 from pu, c2, xu.2.2.2.2.2.2.2.2, c1, ju]
      exact ⟨⟨by omega, lt⟩, w3, hja⟩
    refine .inr (.inr (.inr (.inr ⟨xu.w, xu.fr.tight xu.w (fun _ _ => q), xu.2.2.1, (ku.1 _ _ (by decide)).trans t6, xu.2.2.2.1, xu.2.2.2.2.1, ?_⟩)))
    rw [pu, c2, xu.2.2.2.2.2.2.2.2]
    exact o
  · rw [ok_kA rn.2 z0]
    have g := wf4 (by rcases o with o | o | o <;> rw [opI o] <;> decide)
    have nm : ¬ dMk w := by
      refine noMk ?_ ?_
      · rcases o with o | o | o <;> rw [opI o] <;> decide
      · rcases o with o | o | o <;> rw [opI o] <;> decide
    have j154 : ∀ l, ok (M_St_finish_j154 l) s2 (fun _ t => So t n) := fun l => by
      simp only [M_St_finish_j154, ok_B, ok_C, ok_R, ok_L, ok_K, ok_GI, ok_GL, ok_PI, ok_PL, ok_AI, ok_AL, ok_SI, ok_SL, ok_CI, cmp_lt, cmp_le, cmp_gt, cmp_ge, cmp_eq, nar0, nar1, Sum.elim_inl, Sum.elim_inr, ok_PzT, ok_PzC, ok_PzP, ok_PrC, ok_PrP, ok_PrF, ok_PrN, ok_Ln, ok_CL, ok_Nw, ok_S, ok_Ks, ok_Nz]
      refine ok_mono (decide_ok l x2 p2 g) ?_
      rintro - t ot
      rcases ot with ot | ot
      · have tt : gI t 16396 0 = 0 ∨ gI t 16396 0 ≠ 0 := Decidable.em _
        refine ok_mono (fin235_ok ot.1) ?_
        rintro - u ⟨xu, ku⟩
        have eu := (cRx.lw (.inr (.inl rfl)) ku).etF
        have ou : Oi t n i w u := cRx.oi (.inr (.inl rfl)) ku ot.1 (fun z => absurd rfl z)
        obtain ⟨b1, b2, b3⟩ := ot
        refine oi_so (n := n) (s := s2) (t := u) ⟨xu, ?_, ?_⟩ p2 t2 (.inl ho) (by rcases o with o | o | o <;> rw [opI o] <;> decide) (fun z => absurd z nm)
        · exact ⟨ou.2.1.1.trans b2.1, ou.2.1.2.1.trans b2.2.1, ou.2.1.2.2.trans b2.2.2⟩
        · rw [ku.1 16396 _ (by decide), ku.1 16397 _ (by decide), ku.1 16399 _ (by decide), ku.2.1, ku.2.1, (cRx.lw (.inr (.inl rfl)) ku).lv']
          exact b3
      · refine ok_mono (fin235_ok ot.1) ?_
        rintro - u ⟨xu, ku⟩
        have l := cRx.lw (.inr (.inl rfl)) ku
        refine gs_so xu ((ku.1 _ _ (by decide)).trans (ot.2.1.trans t2)) ?_
        rw [l.pk.gs, l.etF, show fPr u (tF t) = fPr t (tF t) from ku.1 _ _ (by decide), ku.1 _ _ (by decide)]
        exact ot.2.2
    exact ⟨fun _ => j154 0, fun _ => j154 1⟩
  · have h36 := wn.2.2.2.2.2.2.2.2.2.2.2.2.2.2.2.2.2.1 (opI o)
    rw [o4]
    refine ⟨fun c0 => ?_, fun c0 => ?_⟩
    · rw [o2]
      have I3 : ∀ f j, f ≠ 16390 → gI (sI s2 16390 0 (dA w)) f j = gI s2 f j := fun f j q => by rw [gI_sI, if_neg (fun z => q z.1)]
      have x3 : Ix (sI s2 16390 0 (dA w)) n i w := misc_ix x2 (fun f j q => I3 f j (fun z => q (by rw [z]; unfold miI; decide))) (fun _ _ _ => rfl) rfl
      have row3 : cRow (cLv false (sI s2 16390 0 (dA w))) (sI s2 16390 0 (dA w)) 135 := row2.up (fun _ _ q => q) (I3 _ _ (by decide)) (fun _ => rfl) (fun _ => rfl)
      have g90 : gI (sI s2 16390 0 (dA w)) 16390 0 = dA w := by rw [gI_sI, if_pos ⟨rfl, rfl⟩]
      have et3 : tF (sI s2 16390 0 (dA w)) = tF s2 := tF_eq (fun f j q => I3 f j (by omega))
      have p3 : gI (sI s2 16390 0 (dA w)) 19461 (tF (sI s2 16390 0 (dA w))) = i + 1 := by
        rw [et3, I3 _ _ (by decide)]
        exact p2
      have t3 : gI (sI s2 16390 0 (dA w)) 16396 0 = 0 := (I3 _ _ (by decide)).trans t2
      generalize sI s2 16390 0 (dA w) = s3 at x3 row3 g90 p3 t3 ⊢
      refine ok_mono (rTake_ok (r := 138) (q := 135) (by decide) row3) ?_
      rintro - t ⟨⟨k1, k2, k3, k4⟩, rt, -, -⟩
      have lt : lw true s3 t := ⟨fun f j q => k1 f j (by unfold lwX at q; omega), fun j _ => ⟨k1 _ _ (by decide), k1 _ _ (by decide)⟩, fun j _ => ⟨k1 _ _ (by decide), k2 _ _⟩, fun f j _ => k2 f j, fun a j k q => k3 a j k (by omega), fun j k _ => k3 _ j k (by decide), fun a j k q => k4 a j k (by omega), fun j k _ => k4 _ j k (by decide)⟩
      have W3 := x3.w
      have co := (W3.hi.dep W3.cur).1
      have xt : Ix t n i w := by
        refine x3.lw lt ⟨fun j j0 j1 => ?_, fun oo => ?_⟩ (W3.args.up (fun _ _ q => q) (k1 _ _ (by decide)) (fun j => k3 _ _ _ (by decide)) (fun j => k4 _ _ _ (by decide))) rt (W3.last.up (fun _ _ q => q) (k1 _ _ (by decide)) (fun j => k3 _ _ _ (by decide)) (fun j => k4 _ _ _ (by decide)))
        · rw [lt.cur, lt.usd] at j1
          rw [lt.cur, lt.lv', show oRk t (mCur s3) j = oRk s3 (mCur s3) j from k3 _ _ _ (by decide), show oRv t (mCur s3) j = oRv s3 (mCur s3) j from k4 _ _ _ (by decide)]
          exact co.2.1.2 j j0 j1
        · rw [lt.cur, lt.dep] at oo
          rw [lt.etF, lt.lv', show mJk t (tF s3) = mJk s3 (tF s3) from k1 _ _ (by decide), show mJv t (tF s3) = mJv s3 (tF s3) from k2 _ _]
          obtain ⟨j, j0, j1, -, -, e'⟩ := tF_of W3 oo
          rw [e']
          exact (co.2.2.1.2 j j0 j1).2
      refine j235 t xt ((k1 _ _ (by decide)).trans t3) ?_ ho (fun _ => ?_)
      · rw [lt.etF, k1 _ _ (by decide)]
        exact p3
      · have ht := (xt.wn.2.2.2.2.2.2.2.2.2.2.2.2.2.2.2.2.2.1 (opI o)).1
        rw [k1 16390 _ (by decide), g90]
        exact ⟨dAi.1, by omega⟩
    · have cp : 1 ≤ (dC w).toInt := by
        have : (dC w).toInt ≠ 0 := fun z => c0 (toInt_inj z)
        omega
      have ec : (dC w - 1).toInt = (dC w).toInt - 1 := by rw [ktI_sub] <;> omega
      rw [o2]
      refine sA (dA w) (dC w - 1) (by omega) (by omega) ?_
      rintro (z | z)
      · exact c0 z.2
      · have := opI o
        have := opI z.1
        have k45 : (45 : Int32).toInt = 45 := rfl
        have k36 : (36 : Int32).toInt = 36 := rfl
        omega
  · have h41 := wn.2.2.2.2.2.2.2.2.2.2.2.2.2.2.2.2.2.2.2.2.2.2.1 (opI o)
    have ea : (dA w + 3).toInt = (dA w).toInt + 3 := by rw [ktI_add] <;> omega
    rw [o2, o4]
    refine sA (dA w + 3) (dC w) (by omega) (by omega) (noMk ?_ ?_)
    · rw [opI o]; decide
    · rw [opI o]; decide
  · have m36 : (dO w).toInt ≠ 36 := fun z => n36 (toInt_inj z)
    have m41 : (dO w).toInt ≠ 41 := fun z => n41 (toInt_inj z)
    have m29 : (dO w).toInt ≠ 29 := fun z => n29 (toInt_inj z)
    have m8 : (dO w).toInt ≠ 8 := fun z => n0 (.inl (toInt_inj z))
    have m10 : (dO w).toInt ≠ 10 := fun z => n0 (.inr (toInt_inj z))
    have m31 : (dO w).toInt ≠ 31 := fun z => n31 (.inl (toInt_inj z))
    have m32 : (dO w).toInt ≠ 32 := fun z => n31 (.inr (.inl (toInt_inj z)))
    have m33 : (dO w).toInt ≠ 33 := fun z => n31 (.inr (.inr (toInt_inj z)))
    have hA : (dA w).toInt < pNr s2 (fPr s2 (tF s2)) := by
      unfold dCl at w3
      by_cases z : (dO w).toInt = 6
      · exact (wn.2.2.2.2.2.1 z).1
      · by_cases z7 : (dO w).toInt = 7
        · exact (wn.2.2.2.2.2.2.1 z7).1
        · by_cases z12 : (dO w).toInt = 12
          · have := wn.2.2.2.2.2.2.2.2.2.2.1 z12
            omega
          · by_cases za : 13 ≤ (dO w).toInt ∧ (dO w).toInt ≤ 16 ∨ 19 ≤ (dO w).toInt ∧ (dO w).toInt ≤ 24
            · exact (wn.2.2.2.2.2.2.2.2.2.2.2.1 za).1
            · exact (wn.1 (by omega)).1
    rw [o2]
    refine sA (dA w) 1 (by omega) (by omega) (noMk m36 (by unfold dCl at w3; omega))
