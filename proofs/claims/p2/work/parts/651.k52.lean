/-! The class: leaving a frame; calls and returns. -/
def miI (f : Nat) : Prop := f = 16390 ∨ f = 16392 ∨ f = 16393 ∨ f = 16396 ∨ f = 16397 ∨ f = 16399 ∨ f = 16401
theorem misc_lw {s t : S1} (I : ∀ f j, ¬ miI f → gI t f j = gI s f j) (L : ∀ f j, f ≠ 16398 ∧ f ≠ 16400 → gL t f j = gL s f j) (T2 : t.2.2 = s.2.2) : lw true s t := by
  have A : ∀ a j q, gA t a j q = gA s a j q := fun a j q => by
    show t.2.2.1 a j q = s.2.2.1 a j q
    rw [T2]
  have B : ∀ a j q, gB t a j q = gB s a j q := fun a j q => by
    show t.2.2.2 a j q = s.2.2.2 a j q
    rw [T2]
  exact ⟨fun f j q => I f j (by unfold lwX at q; unfold miI; omega), fun j _ => ⟨I _ _ (by unfold miI; decide), I _ _ (by unfold miI; decide)⟩, fun j _ => ⟨I _ _ (by unfold miI; decide), L _ _ (by decide)⟩, fun f j q => L f j ⟨q.1, q.2.1⟩, fun a j k _ => A a j k, fun j k _ => A _ j k, fun a j k _ => B a j k, fun j k _ => B _ j k⟩
theorem misc_w {s t : S1} {n : Nat × Nat} {τ : Bool} (W : cW s n) (F : qFr τ s) (I : ∀ f j, ¬ miI f → gI t f j = gI s f j) (L : ∀ f j, f ≠ 16398 ∧ f ≠ 16400 → gL t f j = gL s f j) (T2 : t.2.2 = s.2.2) : cW t n ∧ qFr τ t ∧ cLv false t = cLv false s := by
  have l := misc_lw I L T2
  have F0 : qFr false s := by
    cases τ with
    | true => exact F.weak
    | false => exact F
  obtain ⟨p1, p2, p3, p4⟩ := l.pure W T2 (fun f j q => I f j (by unfold miI; omega)) (fun j => L _ _ (by decide))
  exact ⟨l.w W F0 p1 p2 p3 p4, l.fr W F (fun _ => rfl), l.lv'⟩
theorem misc_ix {s t : S1} {n : Nat × Nat} {i w : Int32} (x : Ix s n i w) (I : ∀ f j, ¬ miI f → gI t f j = gI s f j) (L : ∀ f j, f ≠ 16398 ∧ f ≠ 16400 → gL t f j = gL s f j) (T2 : t.2.2 = s.2.2) : Ix t n i w := by
  have l := misc_lw I L T2
  obtain ⟨p1, p2, p3, p4⟩ := l.pure x.w T2 (fun f j q => I f j (by unfold miI; omega)) (fun j => L _ _ (by decide))
  exact x.lw l p1 p2 p3 p4
/-- a frame has gone -/
def lvI (f : Nat) : Prop := f = 18564 ∨ f = 18567 ∨ f = 18954 ∨ f = 18948 ∨ f = 18949
def lvQ (s : S1) (n : Nat × Nat) (t : S1) : Prop := cW t n ∧ qFr true t ∧ (∀ f j, ¬ lvI f → gI t f j = gI s f j) ∧ (∀ f j, f ≠ 18568 → gL t f j = gL s f j) ∧ (∀ a j k, gA t a j k = gA s a j k) ∧ (∀ a j k, gB t a j k = gB s a j k) ∧ oD t (mCur s) = oD s (mCur s) - 1
theorem lvQ.lv {s t : S1} {n : Nat × Nat} (h : lvQ s n t) : cLv false t = cLv false s := by
  funext y u
  rw [cLv_f, cLv_f, show cN t = cN s from h.2.2.1 _ _ (by unfold lvI; decide), show cTy t y = cTy s y from h.2.2.1 _ _ (by unfold lvI; decide)]
theorem pop_w {s t u : S1} {n : Nat × Nat} {τ : Bool} {k : Int32} (cl : clQ s τ n (mCur s) (gI s 19459 (mCur s * 200 + k)) t) (k0 : 0 ≤ k) (k1 : k < oD s (mCur s))
    (UI : ∀ f j, gI u f j = if f = 18949 ∧ j = mCur s then gI s 19459 (mCur s * 200 + k) else if f = 18948 ∧ j = mCur s then k else gI t f j) (U2 : u.2 = t.2) : cW u n ∧ qFr true u ∧ (∀ f j, ¬ lvI f → gI u f j = gI s f j) ∧ (∀ f j, f ≠ 18568 → gL u f j = gL s f j) ∧ (∀ a j k, gA u a j k = gA s a j k) ∧ (∀ a j k, gB u a j k = gB s a j k) ∧ oD u (mCur s) = k := by
  obtain ⟨⟨W, F, km⟩, I, L, A, B, hv⟩ := cl
  have ec : mCur t = mCur s := I _ _ (by decide)
  have cw := cut_w (k := k) W F k0 (by rw [ec, show oD t (mCur s) = oD s (mCur s) from I _ _ (by decide)]; exact k1) (fun y m => by
    rw [ec] at m ⊢
    unfold fBs
    rw [I 19459 _ (by decide)]
    exact hv y m) (t := u) (fun f j => by
    rw [ec, I 19459 _ (by decide)]
    exact UI f j) U2
  refine ⟨cw.1, cw.2, fun f j q => ?_, fun f j q => ?_, fun a j k => ?_, fun a j k => ?_, ?_⟩
  · unfold lvI at q
    rw [UI, if_neg (fun z => q (by omega)), if_neg (fun z => q (by omega))]
    exact I f j (by omega)
  · rw [show gL u f j = gL t f j from by show u.2.1 f j = t.2.1 f j; rw [U2]]
    exact L f j q
  · rw [show gA u a j k = gA t a j k from by show u.2.2.1 a j k = t.2.2.1 a j k; rw [U2]]
    exact A a j k
  · rw [show gB u a j k = gB t a j k from by show u.2.2.2 a j k = t.2.2.2 a j k; rw [U2]]
    exact B a j k
  · show gI u 18948 (mCur s) = k
    rw [UI, if_neg (fun z => absurd z.1 (by decide)), if_pos ⟨rfl, rfl⟩]
theorem pT_of {s : S1} {n : Nat × Nat} (W : cW s n) (h : 1 ≤ (oD s (mCur s)).toInt) : pF s (tF s) ∧ (0 ≤ oD s (mCur s) - 1 ∧ oD s (mCur s) - 1 < 200) ∧ oD s (mCur s) - 1 < oD s (mCur s) := by
  have d := W.dd _ W.cur
  have ac := W.cur
  have e0 : (0 : Int32).toInt = 0 := rfl
  have e1 : (1 : Int32).toInt = 1 := rfl
  have e200 : (200 : Int32).toInt = 200 := rfl
  have e : (oD s (mCur s) - 1).toInt = (oD s (mCur s)).toInt - 1 := by rw [ktI_sub] <;> omega
  have r : 0 ≤ oD s (mCur s) - 1 ∧ oD s (mCur s) - 1 < 200 := by
    rw [i32_le, i32_lt]
    omega
  refine ⟨?_, r, by rw [i32_lt]; omega⟩
  have f := fm_int ac.1.1 r
  unfold tF
  exact ⟨⟨by rw [i32_le]; show (0 : Int) ≤ _; omega, by rw [i32_lt]; show _ < (6400 : Int); omega⟩, ((W.sf.1 _ ac.1.1.1 ac.1.1.2).1 ac.1.2).2.2.2.2 _ r.1 r.2⟩
theorem leave_ok {s : S1} {n : Nat × Nat} {τ : Bool} (W : cW s n) (F : qFr τ s) (h : 1 ≤ (oD s (mCur s)).toInt) : ok M_Ma_leave s (fun _ t => lvQ s n t) := by
  have ac := W.cur
  obtain ⟨pf, r, rl⟩ := pT_of W h
  simp only [M_Ma_leave, M_Co_top, ok_B, ok_C, ok_R, ok_L, ok_K, ok_GI, ok_GL, ok_PI, ok_PL, ok_AI, ok_AL, ok_SI, ok_SL, ok_CI, cmp_lt, cmp_le, cmp_gt, cmp_ge, cmp_eq, nar0, nar1, Sum.elim_inl, Sum.elim_inr, ok_PzT, ok_PzC, ok_PzP, ok_PrC, ok_PrP, ok_PrF, ok_PrN, ok_Ln, ok_CL, ok_Nw, ok_S, ok_Ks, ok_Nz]
  refine ⟨ac.1, ac.1, r, pf, ?_⟩
  refine ok_mono (close_ok (gI s 19459 (tF s)) W F ac) ?_
  rintro - t cl
  have ec : gI t 16395 0 = mCur s := cl.2.1 _ _ (by decide)
  have eD : gI t 18948 (mCur s) = oD s (mCur s) := cl.2.1 _ _ (by decide)
  rw [ec]
  simp only [M_Co_pop, ok_B, ok_C, ok_R, ok_L, ok_K, ok_GI, ok_GL, ok_PI, ok_PL, ok_AI, ok_AL, ok_SI, ok_SL, ok_CI, cmp_lt, cmp_le, cmp_gt, cmp_ge, cmp_eq, nar0, nar1, Sum.elim_inl, Sum.elim_inr, ok_PzT, ok_PzC, ok_PzP, ok_PrC, ok_PrP, ok_PrF, ok_PrN, ok_Ln, ok_CL, ok_Nw, ok_S, ok_Ks, ok_Nz]
  simp only [gI_sI, gI_sL, gI_sA, gI_sB, gI_sAf, gI_sBf, gL_sI, gL_sL, gL_sA, gL_sB, gL_sAf, gL_sBf, gA_sI, gA_sL, gA_sA, gA_sB, gA_sAf, gA_sBf, gB_sI, gB_sL, gB_sA, gB_sB, gB_sAf, gB_sBf, Nat.reduceEqDiff, Nat.reduceMul, Nat.reduceAdd, false_and, true_and, and_true, and_false, if_true, if_false, eD]
  refine ⟨⟨ac.1.1, (cl.2.1 _ _ (by decide)).trans ac.1.2⟩, r, ?_⟩
  have e9 : gI t 19459 (mCur s * 200 + (oD s (mCur s) - 1)) = gI s 19459 (mCur s * 200 + (oD s (mCur s) - 1)) := cl.2.1 _ _ (by decide)
  obtain ⟨c1, c2, c3, c4, c5, c6, c7⟩ := pop_w (k := oD s (mCur s) - 1) (u := sI (sI t 18948 (mCur s) (oD s (mCur s) - 1)) 18949 (mCur s) (gI t 19459 (mCur s * 200 + (oD s (mCur s) - 1)))) cl r.1 rl (fun f j => by rw [gI_sI, gI_sI, e9]) rfl
  exact ⟨c1, c2, c3, c4, c5, c6, c7⟩
/-- a call is to be made; results are to be given -/
def St1 (s : S1) (n : Nat × Nat) : Prop := cW s n ∧ qFr true s ∧ gI s 18951 (mCur s) = 1 ∧ gI s 16396 0 = 1 ∧ cV (cLv false s) (gI s 16397 0) (gL s 16398 0)
def St3 (s : S1) (n : Nat × Nat) : Prop := cW s n ∧ qFr true s ∧ gI s 18951 (mCur s) = 1 ∧ gI s 16396 0 = 3 ∧ cRow (cLv false s) s 135
theorem callRet_ok {s : S1} {n : Nat × Nat} {i w : Int32} (x : Ix s n i w) (ho : 36 ≤ (dO w).toInt ∧ (dO w).toInt ≤ 38 ∨ (dO w).toInt = 41) (hu : dB w = 0 → (dO w).toInt ≠ 41 → 0 ≤ (gI s 16390 0).toInt ∧ (gI s 16390 0).toInt ≤ pNr s (fPr s (tF s))) :
    ok M_St_callOrReturn s (fun _ t => (Oi s n i w t ∧ (gI t 16396 0 = 5 ∨ gI t 16396 0 = 1)) ∨ ((dO w).toInt = 37 ∧ St1 t n) ∨ ((dO w).toInt = 38 ∧ St3 t n)) := by
  obtain ⟨o1, o2, o3, o4, o5⟩ := x.o
  have dAi := dA_in w
  have dBi := dB_in w
  have dCi := dC_in w
  have nr := x.nr
  have wn := x.wn
  have e0 : (0 : Int32).toInt = 0 := rfl
  have e1 : (1 : Int32).toInt = 1 := rfl
  have e2 : (2 : Int32).toInt = 2 := rfl
  have a1 : (dA w + 1).toInt = (dA w).toInt + 1 := by rw [ktI_add] <;> omega
  have b1 : (dB w - 1).toInt = (dB w).toInt - 1 := by rw [ktI_sub] <;> omega
  have bz : ¬ 0 ≤ dB w - 1 → dB w = 0 := fun z => by
    rw [i32_le] at z
    exact toInt_inj (by omega)
  have bp : 0 ≤ dB w - 1 → 1 ≤ (dB w).toInt := fun z => by
    rw [i32_le] at z
    omega
  simp only [M_St_callOrReturn, ok_B, ok_C, ok_R, ok_L, ok_K, ok_GI, ok_GL, ok_PI, ok_PL, ok_AI, ok_AL, ok_SI, ok_SL, ok_CI, cmp_lt, cmp_le, cmp_gt, cmp_ge, cmp_eq, nar0, nar1, Sum.elim_inl, Sum.elim_inr, ok_PzT, ok_PzC, ok_PzP, ok_PrC, ok_PrP, ok_PrF, ok_PrN, ok_Ln, ok_CL, ok_Nw, ok_S, ok_Ks, ok_Nz]
  rw [o1, o2, o3]
  refine ⟨fun o => ?_, fun n8' => ?_⟩
  · have o' := opI o
    have h := wn.2.2.2.2.2.2.2.2.2.2.2.2.2.2.2.2.2.2.2.1 o'
    refine ok_mono (gather_ok x (.inr rfl) ⟨by omega, by omega⟩ (fun z => ⟨by omega, ?_⟩) (fun z => hu (bz z) (by rw [o']; decide))) ?_
    · have := bp z
      omega
    · rintro q t ga
      refine ⟨fun q0 => ?_, fun q0 => ?_⟩
      · rcases ga with ga | ga
        · exact .inl ⟨ga.2.1, .inl ga.2.2⟩
        · rw [ga.1] at q0
          exact absurd q0 (by decide)
      · rcases ga with ga | ⟨-, ot, tt, row⟩
        · exact absurd ga.1 q0
        · refine ok_mono (leave_ok ot.1.w ot.1.fr ot.1.2.2.2.1) ?_
          rintro - u lq
          have st1 : gI u 18951 (mCur u) = 1 := by
            rw [show mCur u = mCur t from lq.2.2.1 _ _ (by unfold lvI; decide), lq.2.2.1 18951 _ (by unfold lvI; decide)]
            exact ot.1.2.2.1
          obtain ⟨m1, m2, m3⟩ := misc_w (t := sI u 16396 0 3) lq.1 lq.2.1 (fun f j q => by rw [gI_sI, if_neg (fun z => q (by rw [z.1]; unfold miI; decide))]) (fun _ _ _ => rfl) rfl
          refine .inr (.inr ⟨o', m1, m2, ?_, ?_, ?_⟩)
          · rw [show mCur (sI u 16396 0 3) = mCur u from by show gI (sI u 16396 0 3) 16395 0 = _; rw [gI_sI, if_neg (fun z => absurd z.1 (by decide))], gI_sI, if_neg (fun z => absurd z.1 (by decide))]
            exact st1
          · rw [gI_sI, if_pos ⟨rfl, rfl⟩]
          · rw [m3, lq.lv]
            refine row.up (fun _ _ q => q) ?_ (fun j => lq.2.2.2.2.1 _ _ _) (fun j => lq.2.2.2.2.2.1 _ _ _)
            rw [gI_sI, if_neg (fun z => absurd z.1 (by decide))]
            exact lq.2.2.1 _ _ (by unfold lvI; decide)
  · have m8 : (dO w).toInt ≠ 38 := fun z => n8' (toInt_inj z)
    have hA : (dA w).toInt < pNr s (fPr s (tF s)) := by
      rcases ho with ho | ho
      · rcases Int.lt_or_le (dO w).toInt 37 with z | z
        · exact (wn.2.2.2.2.2.2.2.2.2.2.2.2.2.2.2.2.2.1 (by omega)).1
        · exact (wn.2.2.2.2.2.2.2.2.2.2.2.2.2.2.2.2.2.2.1 (by omega)).1
      · have := wn.2.2.2.2.2.2.2.2.2.2.2.2.2.2.2.2.2.2.2.2.2.2.1 ho
        omega
    have j82 : ∀ k : Int32, (0 ≤ k → k.toInt ≤ 1000 ∧ (dA w + 1).toInt + k.toInt ≤ pNr s (fPr s (tF s))) → (¬ 0 ≤ k → 0 ≤ (gI s 16390 0).toInt ∧ (gI s 16390 0).toInt ≤ pNr s (fPr s (tF s))) → ok (M_St_callOrReturn_j82 k (dA w + 1)) s (fun _ t => (Oi s n i w t ∧ (gI t 16396 0 = 5 ∨ gI t 16396 0 = 1)) ∨ ((dO w).toInt = 37 ∧ St1 t n) ∨ ((dO w).toInt = 38 ∧ St3 t n)) := fun k hk1 hk2 => by
      simp only [M_St_callOrReturn_j82, ok_B, ok_C, ok_R, ok_L, ok_K, ok_GI, ok_GL, ok_PI, ok_PL, ok_AI, ok_AL, ok_SI, ok_SL, ok_CI, cmp_lt, cmp_le, cmp_gt, cmp_ge, cmp_eq, nar0, nar1, Sum.elim_inl, Sum.elim_inr, ok_PzT, ok_PzC, ok_PzP, ok_PrC, ok_PrP, ok_PrF, ok_PrN, ok_Ln, ok_CL, ok_Nw, ok_S, ok_Ks, ok_Nz]
      refine ok_mono (gather_ok x (.inl rfl) ⟨by omega, by omega⟩ hk1 hk2) ?_
      rintro q t ga
      refine ⟨fun q0 => ?_, fun q0 => ?_⟩
      · rcases ga with ga | ga
        · exact .inl ⟨ga.2.1, .inl ga.2.2⟩
        · rw [ga.1] at q0
          exact absurd q0 (by decide)
      · rcases ga with ga | ⟨-, ot, tt, row⟩
        · exact absurd ga.1 q0
        · have xt := ot.1
          have hAt : (dA w).toInt < pNr t (fPr t (tF t)) := by
            have wt := xt.wn
            rcases ho with ho | ho
            · rcases Int.lt_or_le (dO w).toInt 37 with z | z
              · exact (wt.2.2.2.2.2.2.2.2.2.2.2.2.2.2.2.2.2.1 (by omega)).1
              · exact (wt.2.2.2.2.2.2.2.2.2.2.2.2.2.2.2.2.2.2.1 (by omega)).1
            · have := wt.2.2.2.2.2.2.2.2.2.2.2.2.2.2.2.2.2.2.2.2.2.2.1 ho
              omega
          have kv := xt.kv0 (xt.xA hAt)
          rw [ok_kO xt (xt.xA hAt)]
          generalize hk : kO t (gI t 16521 0) = kk at kv ⊢
          have I1 : ∀ f j, ¬ miI f → gI (sI t 16397 0 kk) f j = gI t f j := fun f j q => by rw [gI_sI, if_neg (fun z => q (by rw [z.1]; unfold miI; decide))]
          have x1 := misc_ix (t := sI t 16397 0 kk) xt I1 (fun _ _ _ => rfl) rfl
          have hA1 : xOk (sI t 16397 0 kk) (gI (sI t 16397 0 kk) 16521 0) := by
            refine x1.xA ?_
            have et : tF (sI t 16397 0 kk) = tF t := tF_eq (fun f j q => I1 f j (by unfold miI; omega))
            rw [et]
            show _ < (gI (sI t 16397 0 kk) 18434 (gI (sI t 16397 0 kk) 19458 (tF t))).toInt
            rw [I1 _ _ (by unfold miI; decide), I1 _ _ (by unfold miI; decide)]
            exact hAt
          rw [ok_vO x1 hA1]
          have ev : vO (sI t 16397 0 kk) (gI (sI t 16397 0 kk) 16521 0) = vO t (gI t 16521 0) := by
            unfold vO
            rw [I1 16521 _ (by unfold miI; decide), I1 16518 _ (by unfold miI; decide), I1 18438 _ (by unfold miI; decide), I1 16516 _ (by unfold miI; decide), I1 16519 _ (by unfold miI; decide)]
            rfl
          rw [ev]
          have I2 : ∀ f j, ¬ miI f → gI (sI (sL (sI t 16397 0 kk) 16398 0 (vO t (gI t 16521 0))) 16396 0 1) f j = gI t f j := fun f j q => by
            rw [gI_sI, if_neg (fun z => q (by rw [z.1]; unfold miI; decide)), gI_sL]
            exact I1 f j q
          have L2 : ∀ f j, f ≠ 16398 ∧ f ≠ 16400 → gL (sI (sL (sI t 16397 0 kk) 16398 0 (vO t (gI t 16521 0))) 16396 0 1) f j = gL t f j := fun f j q => by
            rw [gL_sI, gL_sL, if_neg (fun z => q.1 z.1)]
            rfl
          have c1 : gI (sI (sL (sI t 16397 0 kk) 16398 0 (vO t (gI t 16521 0))) 16396 0 1) 16397 0 = kk := by
            rw [gI_sI, if_neg (fun z => absurd z.1 (by decide)), gI_sL, gI_sI, if_pos ⟨rfl, rfl⟩]
          have c2 : gL (sI (sL (sI t 16397 0 kk) 16398 0 (vO t (gI t 16521 0))) 16396 0 1) 16398 0 = vO t (gI t 16521 0) := by
            rw [gL_sI, gL_sL, if_pos ⟨rfl, rfl⟩]
          have c3 : gI (sI (sL (sI t 16397 0 kk) 16398 0 (vO t (gI t 16521 0))) 16396 0 1) 16396 0 = 1 := by
            rw [gI_sI, if_pos ⟨rfl, rfl⟩]
          have c4 : gI (sI (sL (sI t 16397 0 kk) 16398 0 (vO t (gI t 16521 0))) 16396 0 1) 16390 0 = gI t 16390 0 := by
            rw [gI_sI, if_neg (fun z => absurd z.1 (by decide)), gI_sL, gI_sI, if_neg (fun z => absurd z.1 (by decide))]
          have r2 : (sI (sL (sI t 16397 0 kk) 16398 0 (vO t (gI t 16521 0))) 16396 0 1).2.2 = t.2.2 := rfl
          generalize sI (sL (sI t 16397 0 kk) 16398 0 (vO t (gI t 16521 0))) 16396 0 1 = u at I2 L2 c1 c2 c3 c4 r2 ⊢
          have xu := misc_ix xt I2 L2 r2
          have eu : tF u = tF t := tF_eq (fun f j q => I2 f j (by unfold miI; omega))
          have lvu : cLv false u = cLv false t := (misc_lw I2 L2 r2).lv'
          have ou : dCl (dO w).toInt → Oi s n i w u := fun hcl => by
            refine ot.trans tt ⟨xu, ?_, .inr (.inl ⟨c3, hcl, ?_⟩)⟩
            · rw [eu]
              exact ⟨I2 _ _ (by unfold miI; decide), I2 _ _ (by unfold miI; decide), c4⟩
            · rw [lvu, c1, c2]
              exact kv
          rw [xu.o.1]
          refine ⟨fun o7 => ?_, fun n7 => .inl ⟨ou ?_, .inr c3⟩⟩
          rotate_left
          · have m7 : (dO w).toInt ≠ 37 := fun z => n7 (toInt_inj z)
            unfold dCl
            omega
          refine ok_mono (leave_ok xu.w xu.fr xu.2.2.2.1) ?_
          rintro - v lq
          refine .inr (.inl ⟨opI o7, lq.1, lq.2.1, ?_, ?_, ?_⟩)
          · rw [show mCur v = mCur u from lq.2.2.1 _ _ (by unfold lvI; decide), lq.2.2.1 18951 _ (by unfold lvI; decide)]
            exact xu.2.2.1
          · rw [lq.2.2.1 _ _ (by unfold lvI; decide)]
            exact c3
          · rw [lq.lv, lvu, lq.2.2.1 16397 _ (by unfold lvI; decide), lq.2.2.2.1 _ _ (by decide), c1, c2]
            exact kv
    refine ⟨fun o => ?_, fun n1 => ?_⟩
    · have h := wn.2.2.2.2.2.2.2.2.2.2.2.2.2.2.2.2.2.2.2.2.2.2.1 (opI o)
      exact j82 2 (fun _ => ⟨by decide, by omega⟩) (fun z => absurd (show (0 : Int32) ≤ 2 by decide) z)
    · have m1 : (dO w).toInt ≠ 41 := fun z => n1 (toInt_inj z)
      refine j82 (dB w - 1) (fun z => ⟨by omega, ?_⟩) (fun z => hu (bz z) m1)
      have hb := bp z
      rcases Int.lt_or_le (dO w).toInt 37 with y | y
      · have := wn.2.2.2.2.2.2.2.2.2.2.2.2.2.2.2.2.2.1 (by omega)
        omega
      · have := wn.2.2.2.2.2.2.2.2.2.2.2.2.2.2.2.2.2.2.1 (by omega)
        omega
