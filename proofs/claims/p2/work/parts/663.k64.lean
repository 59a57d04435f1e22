/-! The class: wrappers are called; a call is entered. -/
theorem fail_st5' {s : S1} {n : Nat × Nat} {τ : Bool} {Q : S1 → Prop} (e : Int32) (W : cW s n) (F : qFr τ s) (h1 : gI s 18951 (mCur s) = 1) (hq : ∀ t, St5 t n → Q t) : ok (M_Ma_fail e) s (fun _ t => Q t) := by
  refine ok_mono (fail_st5 e W F h1) ?_
  rintro - t h
  exact hq t h
/-- a waiting frame of another kind is pushed -/
theorem pushK_ok {s : S1} {n : Nat × Nat} {k fn : Int32} {Q : Int32 → S1 → Prop} (W : cW s n) (F : qFr true s) (h1 : gI s 18951 (mCur s) = 1) (k0 : k ≠ 0) (kr : 0 ≤ k.toInt ∧ k.toInt ≤ 4) (hf : fn < 0 ∨ cLv false s fn 9) (q0 : Q 0 s)
    (q1 : ∀ t, cW t n → qFr true t → pushed s t k → psQ s (mCur s) k fn 0 t → mCur t = mCur s → cLv false t = cLv false s → 1 ≤ (oD t (mCur t)).toInt → fWh t (tF t) = k → gI t 18951 (mCur t) = 1 → Q 1 t) : ok (M_Co_push (mCur s) k fn 0) s Q := by
  obtain ⟨co, dD, dU⟩ := W.hi.dep W.cur
  refine ok_mono (coPush_ok (s := s) (c := mCur s) k fn 0 dD.1 dU ⟨by decide, by decide⟩) ?_
  rintro q t (pu | pu)
  · rw [pu.1, pu.2]
    exact q0
  · have pd := pu.2.pushed W k0 kr hf
    obtain ⟨Wt, -, Ft, cur, lv, etF⟩ := pd.w W F h1
    rw [pu.1]
    refine q1 t Wt (Ft k0) pd pu.2 cur lv ?_ ?_ ?_
    · have e1 : (1 : Int32).toInt = 1 := rfl
      have := pd.2.2.2.2.2.2.2.2.1
      rw [cur, this.2.1, ktI_add] <;> omega
    · rw [etF]
      exact pd.2.2.2.2.2.2.2.2.2.1.1
    · rw [cur, pd.1 18951 _ (by unfold miI; decide)]
      exact h1
theorem callWrapper_ok {s : S1} {n : Nat × Nat} {x : Int32} (W : cW s n) (F : qFr true s) (h1 : gI s 18951 (mCur s) = 1) (hx : cLv false s x 9) : ok (M_Ma_callWrapper x) s (fun _ t => St1 t n ∨ St3 t n ∨ St5 t n) := by
  have H := W.hi
  have l7 := (H.2.1 _ hx.1.1 hx.1.2).2.1.2.2.2.2.2 hx.2.1
  obtain ⟨p1, p2, p3⟩ := (H.2.1 _ l7.1.1 l7.1.2).2.1.2.2.2.1 l7.2.1
  have av : cAv s (cLk s (cLk s x)) := ⟨p1, by rw [p2]; exact l7.1.1⟩
  simp only [M_Ma_callWrapper, M_Ma_coroutineOf, ok_B, ok_C, ok_R, ok_L, ok_K, ok_GI, ok_GL, ok_PI, ok_PL, ok_AI, ok_AL, ok_SI, ok_SL, ok_CI, cmp_lt, cmp_le, cmp_gt, cmp_ge, cmp_eq, nar0, nar1, Sum.elim_inl, Sum.elim_inr, ok_PzT, ok_PzC, ok_PzP, ok_PrC, ok_PrP, ok_PrF, ok_PrN, ok_Ln, ok_CL, ok_Nw, ok_S, ok_Ks, ok_Nz]
  refine ⟨H.1.2 _ hx.1.1 hx.1.2, H.1.2 _ l7.1.1 l7.1.2, p1, p1, fun s0 => ?_, fun _ => fail_st5' 9 W F h1 (fun t h => .inr (.inr h))⟩
  refine ⟨W.cur.1, ?_⟩
  refine pushK_ok W F h1 (by decide) (by decide) (.inr hx) ⟨fun _ => fail_st5' 4 W F h1 (fun t h => .inr (.inr h)), fun z => absurd rfl z⟩ (fun t Wt Ft pd _ cur lv d1 top st => ⟨fun z => absurd z (by decide), fun _ => ?_⟩)
  have i1 : ∀ f j, f = 19071 ∨ f = 18950 ∨ f = 18951 → gI t f j = gI s f j := fun f j q => pd.1 f j (by unfold miI; omega)
  refine ok_mono (goOn_ok (c := cLk s (cLk s x)) Wt Ft st d1 (by rw [top]; decide) ⟨⟨av.1.1, (i1 19071 _ (by decide)).trans av.1.2⟩, by rw [show oSl t (cLk s (cLk s x)) = oSl s (cLk s (cLk s x)) from i1 _ _ (by decide)]; exact av.2⟩ ((i1 _ _ (by decide)).trans s0)) ?_
  rintro - u (h | h)
  · exact .inl h
  · exact .inr (.inl h)
def St2 (s : S1) (n : Nat × Nat) : Prop := cW s n ∧ qFr true s ∧ gI s 18951 (mCur s) = 1 ∧ gI s 16396 0 = 2 ∧ (rwS s 132).toInt ≤ 250
def enI (n : Nat × Nat) (t : S1) : Prop := cW t n ∧ qFr true t ∧ gI t 18951 (mCur t) = 1 ∧ cV (cLv false t) (gI t 16397 0) (gL t 16398 0)
def enP (n : Nat × Nat) (e : Unit ⊕ Unit ⊕ Unit) (t : S1) : Prop := enI n t ∧ ∀ u, e = .inr (.inr u) → gI t 16397 0 = 6
theorem enterLoop_ok {s : S1} {n : Nat × Nat} (h : enI n s) : ok (oW M_Ma_enter_L2 1) s (enP n) := by
  have e1 : (1 : Int32).toInt = 1 := rfl
  have e100 : (100 : Int32).toInt = 100 := rfl
  refine ok_W (fun y t => (1 ≤ y.toInt ∧ y.toInt ≤ 100) ∧ enI n t) (fun y _ => (101 - y.toInt).toNat) ?_ 1 s ⟨⟨by decide, by decide⟩, h⟩
  rintro y t ⟨⟨y0, y1⟩, W, F, st, cv⟩
  have H := W.hi
  simp only [M_Ma_enter_L2, ok_B, ok_C, ok_R, ok_L, ok_K, ok_GI, ok_GL, ok_PI, ok_PL, ok_AI, ok_AL, ok_SI, ok_SL, ok_CI, cmp_lt, cmp_le, cmp_gt, cmp_ge, cmp_eq, nar0, nar1, Sum.elim_inl, Sum.elim_inr, ok_PzT, ok_PzC, ok_PzP, ok_PrC, ok_PrP, ok_PrF, ok_PrN, ok_Ln, ok_CL, ok_Nw, ok_S, ok_Ks, ok_Nz]
  refine ⟨fun c => ?_, fun _ => ⟨fun k6 => ⟨⟨W, F, st, cv⟩, fun _ _ => k6⟩, fun _ => ?_⟩⟩
  · rw [i32_lt] at c
    omega
  · refine ok_mono (findEvent_ok H _ _ 2 (fun z => by rw [z] at cv; exact cv.at5) (by decide)) ?_
    rintro p t2 ⟨es, hp⟩
    subst es
    refine ⟨fun p0 => ⟨fun _ => ⟨⟨W, F, st, cv⟩, fun u z => by simp at z⟩, fun yn => ?_⟩, fun _ => ⟨⟨W, F, st, cv⟩, fun u z => by simp at z⟩⟩
    have it : inT t2 p := by
      rcases hp with rfl | z
      · exact absurd p0 (by decide)
      · exact z.2.1
    obtain ⟨b1, -, b3⟩ := it.v H
    refine ok_mono (rFirst_ok W.args cv) ?_
    rintro - t3 ⟨k3, r3, -, -⟩
    have l3 := cRx.lw (.inl rfl) k3
    obtain ⟨q1, q2, q3, q4⟩ := cRx.kept (.inl rfl) k3 W (fun _ => r3)
    have W3 := l3.w W F.weak q1 q2 q3 q4
    have F3 := l3.fr W F (fun _ => rfl)
    refine ⟨b1, b1, ?_⟩
    have ey : (y + 1).toInt = y.toInt + 1 := by rw [ktI_add] <;> omega
    have yl : y.toInt < 100 := by
      have : y.toInt ≠ 100 := fun z => yn (toInt_inj z)
      omega
    have key : ∀ T : S1, (∀ f j, gI T f j = if f = 16397 ∧ j = 0 then gA t3 123 0 p else gI t3 f j) → (∀ f j, gL T f j = if f = 16398 ∧ j = 0 then gB t3 124 0 p else gL t3 f j) → T.2.2 = t3.2.2 → enI n T := fun T TI TL T2 => by
      obtain ⟨WT, FT, lvT⟩ := misc_w (t := T) W3 F3 (fun f j q => by rw [TI, if_neg (fun z => q (by rw [z.1]; unfold miI; decide))]) (fun f j q => by rw [TL, if_neg (fun z => q.1 z.1)]) T2
      refine ⟨WT, FT, ?_, ?_⟩
      · have ec : mCur T = mCur t2 := by
          show gI T 16395 0 = _
          rw [TI, if_neg (fun z => absurd z.1 (by decide))]
          exact k3.1 _ _ (by decide)
        rw [ec, TI, if_neg (fun z => absurd z.1 (by decide)), k3.1 _ _ (by decide)]
        exact st
      · rw [lvT, l3.lv', TI, if_pos ⟨rfl, rfl⟩, TL, if_pos ⟨rfl, rfl⟩, k3.2.2.1 _ _ _ (by decide), k3.2.2.2 _ _ _ (by decide)]
        exact b3
    refine ⟨⟨⟨by omega, by omega⟩, key _ (fun f j => ?_) (fun f j => ?_) rfl⟩, by omega⟩
    · rw [gI_sL, gI_sI]
    · rw [gL_sL, gB_sI]
      rfl
theorem enter_ok {s : S1} {n : Nat × Nat} (h : St1 s n) : ok M_Ma_enter s (fun _ t => St0 t n ∨ St1 t n ∨ St2 t n ∨ St3 t n ∨ St5 t n) := by
  obtain ⟨W, F, h1, t1, cv⟩ := h
  simp only [M_Ma_enter, ok_B, ok_C, ok_R, ok_L, ok_K, ok_GI, ok_GL, ok_PI, ok_PL, ok_AI, ok_AL, ok_SI, ok_SL, ok_CI, cmp_lt, cmp_le, cmp_gt, cmp_ge, cmp_eq, nar0, nar1, Sum.elim_inl, Sum.elim_inr, ok_PzT, ok_PzC, ok_PzP, ok_PrC, ok_PrP, ok_PrF, ok_PrN, ok_Ln, ok_CL, ok_Nw, ok_S, ok_Ks, ok_Nz]
  refine ok_mono (enterLoop_ok ⟨W, F, h1, cv⟩) ?_
  rintro e t ⟨⟨Wt, Ft, st, cvt⟩, k6⟩
  rcases e with u | u | u
  · simp only [Sum.elim_inl, ok_B, ok_C, ok_R, ok_L, ok_K, ok_GI, ok_GL, ok_PI, ok_PL, ok_AI, ok_AL, ok_SI, ok_SL, ok_CI, cmp_lt, cmp_le, cmp_gt, cmp_ge, cmp_eq, nar0, nar1, Sum.elim_inl, Sum.elim_inr, ok_PzT, ok_PzC, ok_PzP, ok_PrC, ok_PrP, ok_PrF, ok_PrN, ok_Ln, ok_CL, ok_Nw, ok_S, ok_Ks, ok_Nz]
    exact fail_st5' 1 Wt Ft st (fun t h => .inr (.inr (.inr (.inr h))))
  · simp only [Sum.elim_inl, Sum.elim_inr, ok_B, ok_C, ok_R, ok_L, ok_K, ok_GI, ok_GL, ok_PI, ok_PL, ok_AI, ok_AL, ok_SI, ok_SL, ok_CI, cmp_lt, cmp_le, cmp_gt, cmp_ge, cmp_eq, nar0, nar1, Sum.elim_inl, Sum.elim_inr, ok_PzT, ok_PzC, ok_PzP, ok_PrC, ok_PrP, ok_PrF, ok_PrN, ok_Ln, ok_CL, ok_Nw, ok_S, ok_Ks, ok_Nz]
    exact fail_st5' 4 Wt Ft st (fun t h => .inr (.inr (.inr (.inr h))))
  · simp only [Sum.elim_inl, Sum.elim_inr, M_Ma_enter_j103, ok_B, ok_C, ok_R, ok_L, ok_K, ok_GI, ok_GL, ok_PI, ok_PL, ok_AI, ok_AL, ok_SI, ok_SL, ok_CI, cmp_lt, cmp_le, cmp_gt, cmp_ge, cmp_eq, nar0, nar1, Sum.elim_inl, Sum.elim_inr, ok_PzT, ok_PzC, ok_PzP, ok_PrC, ok_PrP, ok_PrF, ok_PrN, ok_Ln, ok_CL, ok_Nw, ok_S, ok_Ks, ok_Nz]
    have kk := k6 u rfl
    rw [kk] at cvt
    refine ⟨fun c => ⟨fun c2 => ?_, fun c2 => ?_⟩, fun _ => fail_st5' 7 Wt Ft st (fun t h => .inr (.inr (.inr (.inr h))))⟩
    · have fv : cLv false t (gL t 16398 0).toInt32 6 ∨ cLv false t (gL t 16398 0).toInt32 9 := by
        rcases cvt with z | z | z
        · exact absurd z.2 (by decide)
        · exact absurd z.1 (by decide)
        · rcases z.2 with y | y
          · exfalso
            rw [Int64.le_iff_toInt_le] at c2
            rw [Int64.lt_iff_toInt_lt] at y
            omega
          · exact y.2
      have pt : pT t (gL t 16398 0).toInt32 := by
        rcases fv with z | z
        · exact Wt.hi.1.2 _ z.1.1 z.1.2
        · exact Wt.hi.1.2 _ z.1.1 z.1.2
      refine ⟨pt, fun t9 => ?_, fun n9 => ?_⟩
      · have l9 : cLv false t (gL t 16398 0).toInt32 9 := by
          rcases fv with z | z
          · have := z.2.1
            rw [show cTy t (gL t 16398 0).toInt32 = 9 from t9] at this
            exact absurd this (by decide)
          · exact z
        refine ok_mono (callWrapper_ok Wt Ft st l9) ?_
        rintro - v (q | q | q)
        · exact .inr (.inl q)
        · exact .inr (.inr (.inr (.inl q)))
        · exact .inr (.inr (.inr (.inr q)))
      · have l6 : cLv false t (gL t 16398 0).toInt32 6 := by
          rcases fv with z | z
          · exact z
          · exact absurd z.2.1 n9
        refine ok_mono (enterClosure_ok Wt Ft st l6) ?_
        rintro - v (q | q)
        · exact .inl q
        · exact .inr (.inr (.inr (.inr q)))
    · obtain ⟨m1, m2, m3⟩ := misc_w (t := sI t 16396 0 2) Wt Ft (fun f j q => by rw [gI_sI, if_neg (fun z => q (by rw [z.1]; unfold miI; decide))]) (fun _ _ _ => rfl) rfl
      refine .inr (.inr (.inl ⟨m1, m2, ?_, ?_, ?_⟩))
      · have ec : mCur (sI t 16396 0 2) = mCur t := by
          show gI (sI t 16396 0 2) 16395 0 = _
          rw [gI_sI, if_neg (fun z => absurd z.1 (by decide))]
        rw [ec, gI_sI, if_neg (fun z => absurd z.1 (by decide))]
        exact st
      · rw [gI_sI, if_pos ⟨rfl, rfl⟩]
      · show (gI (sI t 16396 0 2) (128 * 132 + 2) 0).toInt ≤ 250
        rw [gI_sI, if_neg (fun z => absurd z.1 (by decide))]
        rw [i32_le] at c
        exact c
