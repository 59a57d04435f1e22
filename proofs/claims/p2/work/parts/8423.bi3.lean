/-! select. -/
theorem i64_sm {x : Int64} (h : 0 ≤ x.toInt ∧ x.toInt < 2147483648) : x.toInt32.toInt = x.toInt := by
  rw [Int64.toInt_toInt32]
  rw [Int.bmod_eq_of_le]
  · omega
  · omega
theorem sel_add {x : Int64} (h : 0 ≤ x.toInt ∧ x.toInt < 2147483648) : (x + 1).toInt = x.toInt + 1 := by
  have e : (1 : Int64).toInt = 1 := rfl
  rw [Int64.toInt_add, e, Int.bmod_eq_of_le]
  · omega
  · omega
theorem mark_num {f : Int32} (h : 0 ≤ f ∧ f ≤ 400000) (h1 : f + 1 ≤ 400000) : f < 400000 := by
  have c0 : (0 : Int32).toInt = 0 := rfl
  have c1 : (400000 : Int32).toInt = 400000 := rfl
  have c2 : (1 : Int32).toInt = 1 := rfl
  simp only [i32_le, i32_lt, c0, c1] at *
  have y := tI_add (a := f) (b := 1) (by omega)
  omega
theorem select_loop (s s0 : S1) (x : Int64) (hb : Bo s s0) (ht : f_todo s0 = 2) (ha : v_args_n s0 ≤ 250) (hn : v_results_n s0 = 0) (hx : 1 ≤ x.toInt) : ok (oW M_Mo_select_L75 x) s0 (fun _ s' => Bo s s') := by
  have ha0 := hb.1.1.2.2.2.1.2.1.1
  have c0 : (0 : Int32).toInt = 0 := rfl
  have c1 : (250 : Int32).toInt = 250 := rfl
  have c4 : (400 : Int32).toInt = 400 := rfl
  have c2 : (1 : Int32).toInt = 1 := rfl
  rw [i32_le, c1] at ha
  rw [i32_le, c0] at ha0
  refine ok_W (fun y s' => Bo s s' ∧ f_todo s' = 2 ∧ gI s' 898 0 = gI s0 898 0 ∧ 1 ≤ y.toInt ∧ 0 ≤ (gI s' 1282 0).toInt ∧ (gI s' 1282 0).toInt ≤ 250 ∧ (gI s' 1282 0).toInt + 1 ≤ y.toInt) (fun y _ => ((gI s0 898 0).toInt - y.toInt).toNat) ?_ x s0 ⟨hb, ht, rfl, hx, ?_, ?_, ?_⟩
  · rintro y s1 ⟨b1, t1, a1, y1, r0, r1, r2⟩
    simp only [M_Mo_select_L75, ok_B, ok_C, ok_R, ok_L, ok_K, ok_GI, ok_GL, ok_PI, ok_PL, ok_AI, ok_AL, ok_SI, ok_SL, ok_Pr, ok_CI, cmp_lt, cmp_le, cmp_gt, cmp_ge, cmp_eq, nar0, nar1, Sum.elim_inl, Sum.elim_inr]
    rw [a1]
    refine ⟨fun _ => b1, fun c => ?_⟩
    have yl : y.toInt < (gI s0 898 0).toInt := by
      have q : ¬ (gI s0 898 0).toInt64 ≤ y := c
      rw [i64_le, Int32.toInt_toInt64] at q
      omega
    have ha' : (gI s0 898 0).toInt ≤ 250 := ha
    have sm := i64_sm (x := y) (by omega)
    have sa := sel_add (x := y) (by omega)
    have j0 : 0 ≤ y.toInt32 := by
      rw [i32_le, c0, sm]
      omega
    have jl : y.toInt32 < gI s1 898 0 := by
      rw [i32_lt, sm, a1]
      exact yl
    have j4 : y.toInt32 < 400 := by
      rw [i32_lt, sm, c4]
      omega
    have rr : gI s1 1282 0 < 400 := by
      rw [i32_lt, c4]
      omega
    refine ok_mono (addFrom_ok s1 10 7 0 y.toInt32 (Or.inr (Or.inl rfl)) b1.1.1 ⟨j0, j4, j4⟩ (b1.1.1.2.2.2.1.2.2.2.2.2.1 _ j0 jl) rr) fun _ s2 ⟨ag, n2⟩ => ?_
    have n2' : gI s2 1282 0 = gI s1 1282 0 + 1 := n2
    have e2 : (gI s2 1282 0).toInt = (gI s1 1282 0).toInt + 1 := by
      rw [n2']
      exact tI_add (by omega)
    have t2 : f_todo s2 = 2 := (ag.2.1 73 0 (by decide)).trans t1
    have le2 : v_results_n s2 ≤ 250 := by
      rw [i32_le, c1]
      show (gI s2 1282 0).toInt ≤ 250
      omega
    refine ⟨⟨⟨b1.1.trans (ag.rx (Or.inr (Or.inl rfl)) b1.1.2.1), (ag.2.1 2050 0 (by decide)).trans b1.2.1, Or.inr ⟨t2, le2⟩⟩, t2, (ag.2.1 898 0 (by decide)).trans a1, ?_, ?_, ?_, ?_⟩, ?_⟩
    · omega
    · omega
    · omega
    · omega
    · rw [sa]
      omega
  · have : gI s0 1282 0 = 0 := hn
    rw [this]
    decide
  · have : gI s0 1282 0 = 0 := hn
    rw [this]
    decide
  · have : gI s0 1282 0 = 0 := hn
    rw [this, c0]
    omega
theorem select38_bo (s : S1) (h : q_Bi s) : ok M_Mo_select_j38 s (fun _ s' => Bo s s') := by
  obtain ⟨hr, ht, hh, ha⟩ := h
  have hg := hr.1
  have hz := hr.2.1
  have no : ok M_Mo_select_j57 s (fun _ s' => Bo s s') := by
    simp only [M_Mo_select_j57, ok_B, ok_C, ok_R, ok_L, ok_K, ok_GI, ok_GL, ok_PI, ok_PL, ok_AI, ok_AL, ok_SI, ok_SL, ok_Pr, ok_CI, cmp_lt, cmp_le, cmp_gt, cmp_ge, cmp_eq, nar0, nar1, Sum.elim_inl, Sum.elim_inr]
    exact raise_bo s 7 hg hz hh
  simp only [M_Mo_select_j38, ok_B, ok_C, ok_R, ok_L, ok_K, ok_GI, ok_GL, ok_PI, ok_PL, ok_AI, ok_AL, ok_SI, ok_SL, ok_Pr, ok_CI, cmp_lt, cmp_le, cmp_gt, cmp_ge, cmp_eq, nar0, nar1, Sum.elim_inl, Sum.elim_inr]
  refine ok_mono (is_ok s 0 3 hg (by decide)) fun v s1 ⟨c1, c2, es⟩ => ?_
  subst es
  refine ⟨fun _ => no, fun c => ok_mono (av_ok s1 0 hg (by decide)) fun v2 s2 ⟨e2, es⟩ => ?_⟩
  subst es
  refine ⟨fun d => ok_mono (giveNone_bo s2 hg hz hh) fun _ s3 ⟨b3, t3, n3, ag3, es3⟩ => ?_, fun _ => no⟩
  have d1 : 1 ≤ v2.toInt := by
    have := d
    rw [i64_le] at this
    exact this
  have a3 : gI s3 898 0 = gI s2 898 0 := by
    rw [es3]
    simp only [gI_sI, gI_sL, gI_sA, gI_sB, gI_sAf, gI_sBf, gL_sI, gL_sL, gL_sA, gL_sB, gL_sAf, gL_sBf, gA_sI, gA_sL, gA_sA, gA_sB, gA_sAf, gA_sBf, gB_sI, gB_sL, gB_sA, gB_sB, gB_sAf, gB_sBf, Nat.reduceEqDiff, Nat.reduceMul, Nat.reduceAdd, false_and, true_and, and_true, and_false, if_true, if_false]
  refine ok_mono (av_ok s3 0 b3.1.1 (by decide)) fun v4 s4 ⟨e4, es⟩ => ?_
  subst es
  have e24 : v4 = v2 := by
    rw [e4, e2]
    unfold avv
    rw [a3, es3]
    simp only [gI_sI, gI_sL, gI_sA, gI_sB, gI_sAf, gI_sBf, gL_sI, gL_sL, gL_sA, gL_sB, gL_sAf, gL_sBf, gA_sI, gA_sL, gA_sA, gA_sB, gA_sAf, gA_sBf, gB_sI, gB_sL, gB_sA, gB_sB, gB_sAf, gB_sBf, Nat.reduceEqDiff, Nat.reduceMul, Nat.reduceAdd, false_and, true_and, and_true, and_false, if_true, if_false]
  rw [e24]
  exact select_loop s2 s4 v2 b3 t3 (by show gI s4 898 0 ≤ 250; rw [a3]; exact ha) n3 d1
theorem select_bo (s : S1) (h : q_Bi s) : ok M_Mo_select s (fun _ s' => Bo s s') := by
  have h0 := h
  obtain ⟨hr, ht, hh, ha⟩ := h
  have hg := hr.1
  have hz := hr.2.1
  simp only [M_Mo_select, ok_B, ok_C, ok_R, ok_L, ok_K, ok_GI, ok_GL, ok_PI, ok_PL, ok_AI, ok_AL, ok_SI, ok_SL, ok_Pr, ok_CI, cmp_lt, cmp_le, cmp_gt, cmp_ge, cmp_eq, nar0, nar1, Sum.elim_inl, Sum.elim_inr]
  refine ok_mono (is_ok s 0 4 hg (by decide)) fun v s1 ⟨c1, c2, es⟩ => ?_
  subst es
  refine ⟨fun _ => select38_bo s1 h0, fun c => ok_mono (av_ok s1 0 hg (by decide)) fun v2 s2 ⟨e2, es⟩ => ?_⟩
  subst es
  have vl := ar_vl (j := 0) hg (by decide)
  rw [c2 c, ← e2] at vl
  have l4 := vl.to (by decide) (by decide)
  obtain ⟨i1, i2, i3, i4⟩ := str_in hg l4
  have mk : ok (M_Mo_isMark v2.toInt32) s2 (fun _ s' => s' = s2) := by
    simp only [M_Mo_isMark, M_Mo_isMark_j30, ok_B, ok_C, ok_R, ok_L, ok_K, ok_GI, ok_GL, ok_PI, ok_PL, ok_AI, ok_AL, ok_SI, ok_SL, ok_Pr, ok_CI, cmp_lt, cmp_le, cmp_gt, cmp_ge, cmp_eq, nar0, nar1, Sum.elim_inl, Sum.elim_inr]
    refine ⟨i4, fun d => ⟨i4, ⟨i1.1, ?_⟩, fun _ => by trivial, fun _ => by trivial⟩, fun _ => by trivial⟩
    have d' : a_second s2 v2.toInt32 = 1 := d
    rw [d'] at i3
    show a_first s2 v2.toInt32 < 400000
    exact mark_num i1 i3
  refine ok_mono mk fun r s3 es => ?_
  subst es
  exact ⟨fun _ => select38_bo s3 h0, fun _ => ok_mono (give_bo s3 3 _ hg hz hh (Or.inl ⟨by decide, by decide⟩)) fun _ _ w => w.1⟩
