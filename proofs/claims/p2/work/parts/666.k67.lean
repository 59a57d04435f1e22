/-! The class: results are given. -/
def StE (s : S1) (n : Nat × Nat) : Prop := cW s n ∧ qFr true s ∧ gI s 16396 0 = 0 ∧ gI s 16392 0 ≠ 0
theorem dead_w {s t : S1} {n : Nat × Nat} (W : cW s n) (F : qFr true s) (h1 : gI s 18951 (mCur s) ≠ 0) (TI : ∀ f j, gI t f j = if f = 18951 ∧ j = mCur s then 3 else gI s f j) (T2 : t.2 = s.2) : cW t n ∧ qFr true t ∧ cLv false t = cLv false s := by
  have i1 : ∀ f j, f ≠ 18951 → gI t f j = gI s f j := fun f j q => by rw [TI, if_neg (fun z => q z.1)]
  have cur : mCur t = mCur s := i1 _ _ (by decide)
  have st : ∀ d, d ≠ mCur s → gI t 18951 d = gI s 18951 d := fun d q => by rw [TI, if_neg (fun z => q z.2)]
  have c3 : gI t 18951 (mCur s) = 3 := by rw [TI, if_pos ⟨rfl, rfl⟩]
  have L : ∀ f j, gL t f j = gL s f j := fun f j => by
    show t.2.1 f j = s.2.1 f j
    rw [T2]
  have A : ∀ a j q, gA t a j q = gA s a j q := fun a j q => by
    show t.2.2.1 a j q = s.2.2.1 a j q
    rw [T2]
  have B : ∀ a j q, gB t a j q = gB s a j q := fun a j q => by
    show t.2.2.2 a j q = s.2.2.2 a j q
    rw [T2]
  have am := W.cur
  have lv : ∀ y u, cLv false t y u ↔ cLv false s y u := fun y u => by
    rw [cLv_f, cLv_f, show cN t = cN s from i1 _ _ (by decide), show cTy t y = cTy s y from i1 _ _ (by decide)]
  have lv' : cLv false t = cLv false s := by
    funext y u
    exact propext (lv y u)
  have elk : ∀ y, cLk t y = cLk s y := fun y => i1 _ _ (by decide)
  have eop : ∀ d y, cOp t d y ↔ cOp s d y := fun d y => by
    unfold cOp
    rw [lv, elk]
  have Hi : cHI t := W.hi.sm ⟨fun f j q _ _ => i1 f j (by unfold hpI at q; omega), fun f j _ _ _ => L f j, fun a j k _ _ => A a j k, fun a j k _ _ => B a j k⟩
  have pk : cPk s t := ⟨fun f j q => i1 f j (by omega), fun a j k _ => A a j k⟩
  have rn : cRn t := by
    obtain ⟨m0, ρ, hl⟩ := W.rt.2.1
    refine ⟨by rw [cur]; exact m0, ρ, hl.congr (fun d => ?_) (fun _ _ => rfl) (fun d _ => i1 _ _ (by decide)) cur⟩
    unfold cMb pC
    rw [i1 19071 d (by decide), show oSl t d = oSl s d from i1 _ _ (by decide), cur]
    by_cases dm : d = mCur s
    · exact ⟨fun y => ⟨y.1, y.2.1, .inr (.inr dm)⟩, fun y => ⟨y.1, y.2.1, .inr (.inr dm)⟩⟩
    · rw [st d dm]
  have Wt : cW t n := by
    refine ⟨Hi, W.rt.up2 (fun y u _ l => (lv y u).2 l) rn (fun f q => i1 f 0 (by omega)) (fun a j k _ => A a j k) (fun a j k _ => B a j k) (fun y _ => i1 _ _ (by decide)), (i1 _ _ (by decide)).trans W.ld, W.sf.congr (fun f j q => i1 f j (by unfold sfI at q; omega)), cRo.fi (x := 0) W.ro (fun f j q => i1 f j (by omega)) (fun j _ => A _ _ _), pk.pg W.pg, fun x l => ?_⟩
    rw [elk]
    unfold nPr
    rw [i1 12937 _ (by decide)]
    exact W.kl x ((lv _ _).1 l)
  refine ⟨Wt, fun d a => ?_, lv'⟩
  have as : cAv s d := ⟨⟨a.1.1, (i1 19071 d (by decide)).symm.trans a.1.2⟩, by rw [← show oSl t d = oSl s d from i1 _ _ (by decide)]; exact a.2⟩
  obtain ⟨q, fr⟩ := F d as
  have eD : oD t d = oD s d := i1 _ _ (by decide)
  have eU : oU t d = oU s d := i1 _ _ (by decide)
  refine ⟨?_, fun j j0 j1 => ?_⟩
  · unfold qTc at q ⊢
    rw [eD, eU, cur, i1 18952 _ (by decide), show fWh t (d * 200 + (oD s d - 1)) = fWh s (d * 200 + (oD s d - 1)) from i1 _ _ (by decide)]
    have tl : (oD s d = 0 → oU s d = 0) ∧ ∀ y, cOp t d y → (cPl t y).toInt < (oU s d).toInt := ⟨q.2.2.2.2.1, fun y m => by
      rw [show cPl t y = cPl s y from i1 _ _ (by decide)]
      exact q.2.2.2.2.2 y ((eop _ _).1 m)⟩
    by_cases dm : d = mCur s
    · subst dm
      rw [c3]
      refine ⟨by decide, fun z => absurd z (by decide), fun z => absurd z (by decide), fun z => ?_, tl⟩
      exact absurd (q.2.2.2.1 z).1 h1
    · rw [st d dm]
      exact ⟨q.1, q.2.1, q.2.2.1, q.2.2.2.1, tl⟩
  · rw [eD] at j1
    have w := fr j j0 j1
    have en : fEnd t d j = fEnd s d j := by
      unfold fEnd fBs
      rw [eD, eU, i1 19459 _ (by decide)]
    have wt : qWt t (d * 200 + j) ↔ qWt s (d * 200 + j) := pk.wt (i1 _ _ (by decide)) (i1 _ _ (by decide)) (i1 _ _ (by decide))
    unfold qF at w ⊢
    rw [show fWh t (d * 200 + j) = fWh s (d * 200 + j) from i1 _ _ (by decide), show fPr t (d * 200 + j) = fPr s (d * 200 + j) from i1 _ _ (by decide), show mFn t (d * 200 + j) = mFn s (d * 200 + j) from i1 _ _ (by decide), en, wt, lv, elk]
    unfold fBs fEx pNr at w ⊢
    rw [i1 19459 _ (by decide), i1 19460 _ (by decide), i1 18434 _ (by decide)]
    exact ⟨w.1, w.2.1, w.2.2.1, fun z => ⟨(w.2.2.2 z).1, (w.2.2.2 z).2.1, (w.2.2.2 z).2.2.1, fun _ => (w.2.2.2 z).2.2.2 (.inr (.inr rfl))⟩⟩
/-- the program has ended -/
theorem end_st {s T : S1} {n : Nat × Nat} {e : Int32} (W : cW s n) (F : qFr true s) (e0 : e ≠ 0) (TI : ∀ f j, gI T f j = if f = 16396 ∧ j = 0 then 0 else if f = 16392 ∧ j = 0 then e else gI s f j) (T2 : T.2 = s.2) : StE T n := by
  obtain ⟨m1, m2, -⟩ := misc_w (t := T) W F (fun f j q => by rw [TI, if_neg (fun z => q (by rw [z.1]; unfold miI; decide)), if_neg (fun z => q (by rw [z.1]; unfold miI; decide))]) (fun f j _ => by show T.2.1 f j = s.2.1 f j; rw [T2]) (by rw [T2])
  refine ⟨m1, m2, by rw [TI, if_pos ⟨rfl, rfl⟩], ?_⟩
  rw [TI, if_neg (fun z => absurd z.1 (by decide)), if_pos ⟨rfl, rfl⟩]
  exact e0
theorem endRes_ok {s : S1} {n : Nat × Nat} (W : cW s n) (F : qFr true s) (h1 : gI s 18951 (mCur s) = 1) (row : cRow (cLv false s) s 135) : ok M_Ma_endWithResults s (fun _ t => StE t n ∨ St3 t n ∨ St5 t n) := by
  have am := W.cur
  simp only [M_Ma_endWithResults, ok_B, ok_C, ok_R, ok_L, ok_K, ok_GI, ok_GL, ok_PI, ok_PL, ok_AI, ok_AL, ok_SI, ok_SL, ok_CI, cmp_lt, cmp_le, cmp_gt, cmp_ge, cmp_eq, nar0, nar1, Sum.elim_inl, Sum.elim_inr, ok_PzT, ok_PzC, ok_PzP, ok_PrC, ok_PrP, ok_PrF, ok_PrN, ok_Ln, ok_CL, ok_Nw, ok_S, ok_Ks, ok_Nz]
  refine ⟨am.1, fun c => ?_, fun _ => ⟨am.1, ?_⟩⟩
  · refine ok_mono (handOver_ok (l := 3) W F h1 row c (.inr rfl)) ?_
    rintro - t h
    exact .inr h
  · obtain ⟨W1, F1, lv1⟩ := dead_w (t := sI s 18951 (gI s 16395 0) 3) W F (by rw [h1]; decide) (fun f j => by rw [gI_sI]) rfl
    have r1 : cRow (cLv false (sI s 18951 (gI s 16395 0) 3)) (sI s 18951 (gI s 16395 0) 3) 135 := by
      rw [lv1]
      exact row.up (fun _ _ q => q) (by rw [gI_sI, if_neg (fun z => absurd z.1 (by decide))]) (fun _ => rfl) (fun _ => rfl)
    generalize sI s 18951 (gI s 16395 0) 3 = s1 at W1 F1 r1 ⊢
    refine ok_mono (rTake_ok (r := 141) (q := 135) (by decide) r1) ?_
    rintro - t ⟨⟨k1, k2, k3, k4⟩, rt, -, -⟩
    have l : lw true s1 t := ⟨fun f j q => k1 f j (by unfold lwX at q; omega), fun j _ => ⟨k1 _ _ (by decide), k1 _ _ (by decide)⟩, fun j _ => ⟨k1 _ _ (by decide), k2 _ _⟩, fun f j _ => k2 f j, fun a j k q => k3 a j k (by omega), fun j k _ => k3 _ j k (by decide), fun a j k q => k4 a j k (by omega), fun j k _ => k4 _ j k (by decide)⟩
    have co := (W1.hi.dep W1.cur).1
    have rg : rgV t := by
      refine ⟨fun i i0 i1 => ?_, fun o => ?_⟩
      · rw [l.cur, l.usd] at i1
        rw [l.cur, l.lv', show oRk t (mCur s1) i = oRk s1 (mCur s1) i from k3 _ _ _ (by decide), show oRv t (mCur s1) i = oRv s1 (mCur s1) i from k4 _ _ _ (by decide)]
        exact co.2.1.2 i i0 i1
      · rw [l.cur, l.dep] at o
        rw [l.etF, l.lv', show mJk t (tF s1) = mJk s1 (tF s1) from k1 _ _ (by decide), show mJv t (tF s1) = mJv s1 (tF s1) from k2 _ _]
        obtain ⟨j, j0, j1, -, -, e'⟩ := tF_of W1 o
        rw [e']
        exact (co.2.2.1.2 j j0 j1).2
    have Wt := l.w W1 F1.weak rg (W1.args.up (fun _ _ q => q) (k1 _ _ (by decide)) (fun j => k3 _ _ _ (by decide)) (fun j => k4 _ _ _ (by decide))) (W1.opn.up (fun _ _ q => q) (k1 _ _ (by decide)) (fun j => k3 _ _ _ (by decide)) (fun j => k4 _ _ _ (by decide))) rt
    have Ft := l.fr W1 F1 (fun _ => rfl)
    exact .inl (end_st (e := 1) Wt Ft (by decide) (fun f j => by rw [gI_sI, gI_sI]) rfl)
theorem give1_ok {s : S1} {n : Nat × Nat} {k : Int32} {v : Int64} (W : cW s n) (F : qFr true s) (h1 : gI s 18951 (mCur s) = 1) (hv : cV (cLv false s) k v) : ok (M_Ma_give k v) s (fun _ t => St3 t n ∧ (∀ f j, f ≠ 17282 ∧ f ≠ 16396 → gI t f j = gI s f j) ∧ (∀ f j, gL t f j = gL s f j) ∧ cLv false t = cLv false s) := by
  simp only [M_Ma_give, ok_B, ok_C, ok_R, ok_L, ok_K, ok_GI, ok_GL, ok_PI, ok_PL, ok_AI, ok_AL, ok_SI, ok_SL, ok_CI, cmp_lt, cmp_le, cmp_gt, cmp_ge, cmp_eq, nar0, nar1, Sum.elim_inl, Sum.elim_inr, ok_PzT, ok_PzC, ok_PzP, ok_PrC, ok_PrP, ok_PrF, ok_PrN, ok_Ln, ok_CL, ok_Nw, ok_S, ok_Ks, ok_Nz]
  refine ok_mono (rClear_ok 135 s) ?_
  rintro - s1 ⟨k1, z1⟩
  refine ok_mono (rAdd_ok (L := cLv false s) (cRow.nil z1) hv) ?_
  rintro - s2 ⟨k2, r2, -, -⟩
  have kk := k1.trans k2
  have l := cRx.lw (.inr (.inl rfl)) kk
  obtain ⟨q1, q2, q3, q4⟩ := cRx.kept (.inr (.inl rfl)) kk W (fun z => absurd rfl z)
  have Wt := l.w W F.weak q1 q2 q3 q4
  have Ft := l.fr W F (fun _ => rfl)
  have st : gI s2 18951 (mCur s2) = 1 := by
    rw [l.cur, kk.1 _ _ (by decide)]
    exact h1
  refine ⟨turn3 Wt Ft st (by rw [l.lv']; exact r2), fun f j q => ?_, fun f j => ?_, ?_⟩
  · rw [gI_sI, if_neg (fun z => q.2 z.1)]
    exact kk.1 f j q.1
  · exact kk.2.1 f j
  · rw [← l.lv']
    funext y u
    rw [cLv_f, cLv_f, show cN (sI s2 16396 0 3) = cN s2 from by show gI (sI s2 16396 0 3) 14209 0 = _; rw [gI_sI, if_neg (fun z => absurd z.1 (by decide))], show cTy (sI s2 16396 0 3) y = cTy s2 y from by show gI (sI s2 16396 0 3) 18560 y = _; rw [gI_sI, if_neg (fun z => absurd z.1 (by decide))]]
theorem give_ok {s : S1} {n : Nat × Nat} (h : St3 s n) : ok M_Ma_give_ s (fun _ t => StE t n ∨ St3 t n ∨ St4 t n ∨ St5 t n) := by
  obtain ⟨W, F, h1, t3, row⟩ := h
  have am := W.cur
  have e0 : (0 : Int32).toInt = 0 := rfl
  obtain ⟨-, dD, -⟩ := W.hi.dep am
  simp only [M_Ma_give_, M_Co_top, ok_B, ok_C, ok_R, ok_L, ok_K, ok_GI, ok_GL, ok_PI, ok_PL, ok_AI, ok_AL, ok_SI, ok_SL, ok_CI, cmp_lt, cmp_le, cmp_gt, cmp_ge, cmp_eq, nar0, nar1, Sum.elim_inl, Sum.elim_inr, ok_PzT, ok_PzC, ok_PzP, ok_PrC, ok_PrP, ok_PrF, ok_PrN, ok_Ln, ok_CL, ok_Nw, ok_S, ok_Ks, ok_Nz]
  refine ⟨am.1, fun _ => ?_, fun c => ?_⟩
  · refine ok_mono (endRes_ok W F h1 row) ?_
    rintro - t (h | h | h)
    · exact .inl h
    · exact .inr (.inl h)
    · exact .inr (.inr (.inr h))
  · have d1 : 1 ≤ (oD s (mCur s)).toInt := by
      have : (oD s (mCur s)).toInt ≠ 0 := fun z => c (toInt_inj z)
      omega
    obtain ⟨pf, r, rl⟩ := pT_of W d1
    refine ⟨am.1, r, pf, fun w0 => ?_, fun w0 => ?_⟩
    · obtain ⟨m1, m2, m3⟩ := misc_w (t := sI s 16396 0 4) W F (fun f j q => by rw [gI_sI, if_neg (fun z => q (by rw [z.1]; unfold miI; decide))]) (fun _ _ _ => rfl) rfl
      have I : ∀ f j, f ≠ 16396 → gI (sI s 16396 0 4) f j = gI s f j := fun f j q => by rw [gI_sI, if_neg (fun z => q z.1)]
      have et : tF (sI s 16396 0 4) = tF s := tF_eq (fun f j q => I f j (by omega))
      have ec : mCur (sI s 16396 0 4) = mCur s := I _ _ (by decide)
      refine .inr (.inr (.inl ⟨m1, m2, ?_, by rw [gI_sI, if_pos ⟨rfl, rfl⟩], ?_, ?_, ?_⟩))
      · rw [ec, I _ _ (by decide)]
        exact h1
      · rw [m3]
        exact row.up (fun _ _ q => q) (I _ _ (by decide)) (fun _ => rfl) (fun _ => rfl)
      · rw [ec, show oD (sI s 16396 0 4) (mCur s) = oD s (mCur s) from I _ _ (by decide)]
        exact d1
      · rw [et, show fWh (sI s 16396 0 4) (tF s) = fWh s (tF s) from I _ _ (by decide)]
        exact w0
    · have popped : ∀ Q : S1 → Prop, (∀ t, cW t n → qFr true t → gI t 18951 (mCur t) = 1 → cRow (cLv false t) t 135 → Q t) → ok (M_Co_pop (mCur s)) s (fun _ t => Q t) := fun Q hq => by
        refine ok_mono (popK_ok W F d1 w0) ?_
        rintro - t ⟨w1, w2, w3, w4⟩
        have lv : cLv false t = cLv false s := by
          funext y u
          rw [cLv_f, cLv_f, show cN t = cN s from w3 _ _ (by decide), show cTy t y = cTy s y from w3 _ _ (by decide)]
        refine hq t w1 w2 ?_ ?_
        · rw [show mCur t = mCur s from w3 _ _ (by decide), w3 _ _ (by decide)]
          exact h1
        · rw [lv]
          exact row.up (fun _ _ q => q) (w3 _ _ (by decide)) (fun j => by show t.2.2.1 _ _ _ = s.2.2.1 _ _ _; rw [w4]) (fun j => by show t.2.2.2 _ _ _ = s.2.2.2 _ _ _; rw [w4])
      refine ⟨fun _ => ⟨am.1, ?_⟩, fun _ => ⟨am.1, ?_⟩⟩
      · refine popped _ (fun t Wt Ft st rt => ?_)
        refine ok_mono (giveTrue_ok Wt Ft st rt) ?_
        rintro - u (h | h)
        · exact .inr (.inl h)
        · exact .inr (.inr (.inr h))
      · refine popped _ (fun t Wt Ft st rt => ?_)
        have rn := rt.n
        have z0 : (0 : Int32) ≤ 0 := by decide
        have kv := rt.kv z0
        rw [ok_kA rn.2 z0]
        refine ⟨fun k4 => ?_, fun _ => fail_st5' 3 Wt Ft st (fun t h => .inr (.inr (.inr h)))⟩
        rw [ok_vA rn.2 z0]
        rw [k4] at kv
        refine ok_mono (give1_ok Wt Ft st kv) ?_
        rintro - u h
        exact .inr (.inl h.1)
