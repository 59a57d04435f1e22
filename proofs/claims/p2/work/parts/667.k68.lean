/-! The class: an error that is caught, or ends its coroutine. -/
theorem giveError_ok {s : S1} {n : Nat × Nat} (W : cW s n) (F : qFr true s) (h1 : gI s 18951 (mCur s) = 1) (er : cV (cLv false s) (gI s 16399 0) (gL s 16400 0)) : ok M_Ma_giveError s (fun _ t => St3 t n) := by
  simp only [M_Ma_giveError, ok_B, ok_C, ok_R, ok_L, ok_K, ok_GI, ok_GL, ok_PI, ok_PL, ok_AI, ok_AL, ok_SI, ok_SL, ok_CI, cmp_lt, cmp_le, cmp_gt, cmp_ge, cmp_eq, nar0, nar1, Sum.elim_inl, Sum.elim_inr, ok_PzT, ok_PzC, ok_PzP, ok_PrC, ok_PrP, ok_PrF, ok_PrN, ok_Ln, ok_CL, ok_Nw, ok_S, ok_Ks, ok_Nz]
  refine ok_mono (give1_ok W F h1 (cV.lit (k := 1) (v := 0) (by decide))) ?_
  rintro - t ⟨⟨Wt, Ft, st, t3, rt⟩, I, L, lv⟩
  rw [I 16399 _ (by decide), L]
  refine ok_mono (rAdd_ok (r := 135) rt (by rw [lv]; exact er)) ?_
  rintro - u ⟨k, ru, -, -⟩
  have l := cRx.lw (.inr (.inl rfl)) k
  obtain ⟨q1, q2, q3, q4⟩ := cRx.kept (.inr (.inl rfl)) k Wt (fun z => absurd rfl z)
  refine ⟨l.w Wt Ft.weak q1 q2 q3 q4, l.fr Wt Ft (fun _ => rfl), ?_, (k.1 _ _ (by decide)).trans t3, by rw [l.lv']; exact ru⟩
  rw [l.cur, k.1 _ _ (by decide)]
  exact st
/-- a coroutine has lost its frames -/
def emQ (s : S1) (n : Nat × Nat) (t : S1) : Prop := cW t n ∧ qFr true t ∧ (∀ f j, ¬ lvI f → gI t f j = gI s f j) ∧ (∀ f j, f ≠ 18568 → gL t f j = gL s f j) ∧ (∀ a j k, gA t a j k = gA s a j k) ∧ (∀ a j k, gB t a j k = gB s a j k)
theorem emQ.lv {s t : S1} {n : Nat × Nat} (h : emQ s n t) : cLv false t = cLv false s := by
  funext y u
  rw [cLv_f, cLv_f, show cN t = cN s from h.2.2.1 _ _ (by unfold lvI; decide), show cTy t y = cTy s y from h.2.2.1 _ _ (by unfold lvI; decide)]
theorem empty_ok {s : S1} {n : Nat × Nat} {τ : Bool} (W : cW s n) (F : qFr τ s) : ok (M_Ma_empty (mCur s)) s (fun _ t => emQ s n t) := by
  have ac := W.cur
  obtain ⟨-, dD, dU⟩ := W.hi.dep ac
  have e0 : (0 : Int32).toInt = 0 := rfl
  obtain ⟨qc, qf⟩ := F _ ac
  simp only [M_Ma_empty, ok_B, ok_C, ok_R, ok_L, ok_K, ok_GI, ok_GL, ok_PI, ok_PL, ok_AI, ok_AL, ok_SI, ok_SL, ok_CI, cmp_lt, cmp_le, cmp_gt, cmp_ge, cmp_eq, nar0, nar1, Sum.elim_inl, Sum.elim_inr, ok_PzT, ok_PzC, ok_PzP, ok_PrC, ok_PrP, ok_PrF, ok_PrN, ok_Ln, ok_CL, ok_Nw, ok_S, ok_Ks, ok_Nz]
  refine ok_mono (close_ok 0 W F ac) ?_
  rintro - t cl
  by_cases z : oD s (mCur s) = 0
  · have eU := qc.2.2.2.2.1 z
    obtain ⟨⟨Wt, Ft, km⟩, I, L, A, B, hv⟩ := cl
    have cur : mCur t = mCur s := I _ _ (by decide)
    have d0 : gI t 18948 (mCur s) = 0 := (I _ _ (by decide)).trans z
    have u0 : gI t 18949 (mCur s) = 0 := (I _ _ (by decide)).trans eU
    have es : sI (sI t 18948 (mCur s) 0) 18949 (mCur s) 0 = t := by
      refine Prod.ext ?_ rfl
      funext f j
      show (if f = 18949 ∧ j = mCur s then 0 else if f = 18948 ∧ j = mCur s then 0 else t.1 f j) = t.1 f j
      by_cases y : f = 18949 ∧ j = mCur s
      · rw [if_pos y, y.1, y.2]
        exact u0.symm
      · rw [if_neg y]
        by_cases y' : f = 18948 ∧ j = mCur s
        · rw [if_pos y', y'.1, y'.2]
          exact d0.symm
        · rw [if_neg y']
    rw [es]
    have F0 : qFr false t := by
      cases τ with
      | true => exact Ft.weak
      | false => exact Ft
    refine ⟨Wt, F0.tight Wt (fun y => ?_), fun f j q => I f j (by unfold lvI at q; omega), L, A, B⟩
    rw [cur, show oD t (mCur s) = 0 from d0] at y
    exact absurd y (by decide)
  · have dp : 1 ≤ (oD s (mCur s)).toInt := by
      have : (oD s (mCur s)).toInt ≠ 0 := fun y => z (toInt_inj y)
      omega
    have k1 : (0 : Int32) < oD s (mCur s) := by
      rw [i32_lt]
      omega
    have b0 : gI s 19459 (mCur s * 200 + 0) = 0 := toInt_inj ((qf 0 (by decide) k1).2.1.2 rfl)
    obtain ⟨c1, c2, c3, c4, c5, c6, -⟩ := pop_w (s := s) (t := t) (n := n) (τ := τ) (k := 0) (u := sI (sI t 18948 (mCur s) 0) 18949 (mCur s) 0) (by rw [b0]; exact cl) (by decide) k1 (fun f j => by rw [gI_sI, gI_sI, b0]) rfl
    exact ⟨c1, c2, c3, c4, c5, c6⟩
theorem endErr_ok {s : S1} {n : Nat × Nat} (W : cW s n) (F : qFr true s) (h1 : gI s 18951 (mCur s) ≠ 0) (er : cV (cLv false s) (gI s 16399 0) (gL s 16400 0)) : ok M_Ma_endWithError s (fun _ t => StE t n) := by
  have am := W.cur
  simp only [M_Ma_endWithError, ok_B, ok_C, ok_R, ok_L, ok_K, ok_GI, ok_GL, ok_PI, ok_PL, ok_AI, ok_AL, ok_SI, ok_SL, ok_CI, cmp_lt, cmp_le, cmp_gt, cmp_ge, cmp_eq, nar0, nar1, Sum.elim_inl, Sum.elim_inr, ok_PzT, ok_PzC, ok_PzP, ok_PrC, ok_PrP, ok_PrF, ok_PrN, ok_Ln, ok_CL, ok_Nw, ok_S, ok_Ks, ok_Nz]
  refine ⟨am.1, ?_⟩
  obtain ⟨W1, F1, lv1⟩ := dead_w (t := sI s 18951 (gI s 16395 0) 3) W F h1 (fun f j => by rw [gI_sI]) rfl
  have e9 : gI (sI s 18951 (gI s 16395 0) 3) 16399 0 = gI s 16399 0 := by rw [gI_sI, if_neg (fun z => absurd z.1 (by decide))]
  have e10 : gL (sI s 18951 (gI s 16395 0) 3) 16400 0 = gL s 16400 0 := rfl
  generalize sI s 18951 (gI s 16395 0) 3 = s1 at W1 F1 lv1 e9 e10 ⊢
  refine ok_mono (rClear_ok 141 s1) ?_
  rintro - s2 ⟨k2, z2⟩
  rw [k2.1 16399 _ (by decide), k2.2.1, e9, e10]
  refine ok_mono (rAdd_ok (L := cLv false s1) (r := 141) (cRow.nil z2) (by rw [lv1]; exact er)) ?_
  rintro - t ⟨k3, rt, -, -⟩
  have kk := k2.trans k3
  have l := cRx.lw (.inr (.inr (.inr rfl))) kk
  obtain ⟨q1, q2, q3, q4⟩ := cRx.kept (.inr (.inr (.inr rfl))) kk W1 (fun _ => rt)
  exact end_st (e := 2) (l.w W1 F1.weak q1 q2 q3 q4) (l.fr W1 F1 (fun _ => rfl)) (by decide) (fun f j => by rw [gI_sI, gI_sI]) rfl
theorem unwind61_ok {s : S1} {n : Nat × Nat} {k : Int32} (W : cW s n) (F : qFr false s) (h1 : gI s 18951 (mCur s) = 1) (t5 : gI s 16396 0 = 5) (er : cV (cLv false s) (gI s 16399 0) (gL s 16400 0)) (k1 : k.toInt ≤ (oD s (mCur s)).toInt) : ok (M_Ma_unwind_j61 (mCur s) k) s (fun _ t => StE t n ∨ St3 t n ∨ St5 t n) := by
  have ac := W.cur
  obtain ⟨-, dD, dU⟩ := W.hi.dep ac
  have e0 : (0 : Int32).toInt = 0 := rfl
  have e1 : (1 : Int32).toInt = 1 := rfl
  have e200 : (200 : Int32).toInt = 200 := rfl
  simp only [M_Ma_unwind_j61, ok_B, ok_C, ok_R, ok_L, ok_K, ok_GI, ok_GL, ok_PI, ok_PL, ok_AI, ok_AL, ok_SI, ok_SL, ok_CI, cmp_lt, cmp_le, cmp_gt, cmp_ge, cmp_eq, nar0, nar1, Sum.elim_inl, Sum.elim_inr, ok_PzT, ok_PzC, ok_PzP, ok_PrC, ok_PrP, ok_PrF, ok_PrN, ok_Ln, ok_CL, ok_Nw, ok_S, ok_Ks, ok_Nz]
  refine ⟨fun c => ?_, fun c => ?_⟩
  · refine ok_mono (empty_ok W F) ?_
    rintro - t em
    obtain ⟨Wt, Ft, I, L, A, B⟩ := em
    have cur : mCur t = mCur s := I _ _ (by unfold lvI; decide)
    have st : gI t 18951 (mCur t) = 1 := by
      rw [cur, I _ _ (by unfold lvI; decide)]
      exact h1
    have ert : cV (cLv false t) (gI t 16399 0) (gL t 16400 0) := by
      rw [emQ.lv (n := n) ⟨Wt, Ft, I, L, A, B⟩, I _ _ (by unfold lvI; decide), L _ _ (by decide)]
      exact er
    rw [← cur]
    refine ⟨fun r0 => ?_, fun _ => ?_⟩
    · refine ok_mono (backRes_ok (l := 3) Wt Ft st r0 (.inr rfl)) ?_
      rintro q u ⟨Wu, Fu, su, lvu, Iu, u2⟩
      have eru : cV (cLv false u) (gI u 16399 0) (gL u 16400 0) := by
        rw [lvu, Iu _ _ (by decide), show gL u 16400 0 = gL t 16400 0 from by show u.2.1 _ _ = t.2.1 _ _; rw [u2]]
        exact ert
      refine ⟨fun _ => ?_, fun _ => .inr (.inr ⟨Wu, Fu.weak, su, ?_, eru⟩)⟩
      · refine ok_mono (giveError_ok Wu Fu su eru) ?_
        rintro - v h
        exact .inr (.inl h)
      · rw [Iu _ _ (by decide), I _ _ (by unfold lvI; decide)]
        exact t5
    · refine ok_mono (endErr_ok Wt Ft (by rw [st]; decide) ert) ?_
      rintro - v h
      exact .inl h
  · rw [i32_le] at c
    have ek : (k - 1).toInt = k.toInt - 1 := by rw [ktI_sub] <;> omega
    have r : 0 ≤ k - 1 ∧ k - 1 < 200 := by
      rw [i32_le, i32_lt]
      omega
    refine ⟨r, ?_⟩
    refine ok_mono (close_ok (gI s 19459 (mCur s * 200 + (k - 1))) W F ac) ?_
    rintro - t cl
    simp only [M_Co_pop, ok_B, ok_C, ok_R, ok_L, ok_K, ok_GI, ok_GL, ok_PI, ok_PL, ok_AI, ok_AL, ok_SI, ok_SL, ok_CI, cmp_lt, cmp_le, cmp_gt, cmp_ge, cmp_eq, nar0, nar1, Sum.elim_inl, Sum.elim_inr, ok_PzT, ok_PzC, ok_PzP, ok_PrC, ok_PrP, ok_PrF, ok_PrN, ok_Ln, ok_CL, ok_Nw, ok_S, ok_Ks, ok_Nz]
    simp only [gI_sI, gI_sL, gI_sA, gI_sB, gI_sAf, gI_sBf, gL_sI, gL_sL, gL_sA, gL_sB, gL_sAf, gL_sBf, gA_sI, gA_sL, gA_sA, gA_sB, gA_sAf, gA_sBf, gB_sI, gB_sL, gB_sA, gB_sB, gB_sAf, gB_sBf, Nat.reduceEqDiff, Nat.reduceMul, Nat.reduceAdd, false_and, true_and, and_true, and_false, if_true, if_false]
    refine ⟨r, ?_⟩
    have e9 : gI t 19459 (mCur s * 200 + (k - 1)) = gI s 19459 (mCur s * 200 + (k - 1)) := cl.2.1 _ _ (by decide)
    have key : ∀ u : S1, (∀ f j, gI u f j = if f = 18949 ∧ j = mCur s then gI s 19459 (mCur s * 200 + (k - 1)) else if f = 18948 ∧ j = mCur s then k - 1 else gI t f j) → u.2 = t.2 → ok M_Ma_giveError u (fun _ v => StE v n ∨ St3 v n ∨ St5 v n) := fun u UI U2 => by
      obtain ⟨Wu, Fu, I, L, -, -, -⟩ := pop_w (k := k - 1) cl r.1 (by rw [i32_lt]; omega) UI U2
      have lv : cLv false u = cLv false s := by
        funext y z
        rw [cLv_f, cLv_f, show cN u = cN s from I _ _ (by unfold lvI; decide), show cTy u y = cTy s y from I _ _ (by unfold lvI; decide)]
      refine ok_mono (giveError_ok Wu Fu ?_ ?_) ?_
      · rw [show mCur u = mCur s from I _ _ (by unfold lvI; decide), I _ _ (by unfold lvI; decide)]
        exact h1
      · rw [lv, I _ _ (by unfold lvI; decide), L _ _ (by decide)]
        exact er
      · rintro - v h
        exact .inr (.inl h)
    refine key _ (fun f j => ?_) rfl
    simp only [gI_sI, e9]
    by_cases y : f = 18949 ∧ j = mCur s
    · rw [if_pos y, if_pos y]
    · rw [if_neg y, if_neg y]
      by_cases y' : f = 18948 ∧ j = mCur s
      · rw [if_pos y', if_pos y']
      · rw [if_neg y', if_neg y', if_neg y']
