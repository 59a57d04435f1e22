/-! pcall. -/
/-- what was built in calls in its turn, behind a frame of its own -/
def Bp (s s' : S1) : Prop := RI true s' ∧ v_hand_n s' = 0 ∧ f_todo s' = 1 ∧ v_args_n s' ≤ 250 ∧ ∃ s1 s2 k fn, Rx s s1 ∧ k ≠ 0 ∧ Ph s1 s2 k fn ∧ Rx s2 s'
theorem calling_rx {s : S1} (h : GG s) (hz : f_noCollection s = 0) {k : Int32} {v : Int64} (hv : Vl false s k v) : Rx s (sL (sI s 75 0 k) 76 0 v) := Rx.hy (h.calling hv) (((Hy.refl s).sI (by decide)).sL) hz
theorem shift_num {x n : Int32} (h1 : 1 ≤ x) (hn : n ≤ 400) (c : ¬ n ≤ x) : (0 ≤ x - 1 ∧ x - 1 < 400) ∧ (0 ≤ x ∧ x < 400) ∧ x < n ∧ 1 ≤ x + 1 ∧ (n - (x + 1)).toNatClampNeg < (n - x).toNatClampNeg := by
  refine ⟨⟨by grind, by grind⟩, ⟨by grind, by grind⟩, by grind, by grind, clamp_lt (by grind) (by grind)⟩
theorem shift_ok (s : S1) (h : GG s) : ok (oW M_Mo_pcall_L38 1) s (fun _ s' => Ag 7 s s' ∧ gI s' 898 0 = gI s 898 0) := by
  have ha := h.2.2.2.1.2.1
  refine ok_W (fun x s' => 1 ≤ x ∧ Ag 7 s s' ∧ gI s' 898 0 = gI s 898 0) (fun x _ => (gI s 898 0 - x).toNatClampNeg) ?_ (1 : Int32) s ⟨(show (1 : Int32) ≤ 1 by decide), Ag.refl 7 h, rfl⟩
  rintro x s1 ⟨x1, ag, e⟩
  simp only [M_Mo_pcall_L38, ok_B, ok_C, ok_R, ok_L, ok_K, ok_GI, ok_GL, ok_PI, ok_PL, ok_AI, ok_AL, ok_SI, ok_SL, ok_Pr, ok_CI, cmp_lt, cmp_le, cmp_gt, cmp_ge, cmp_eq, nar0, nar1, Sum.elim_inl, Sum.elim_inr]
  refine ⟨fun _ => ⟨ag, e⟩, fun c => ?_⟩
  rw [e] at c
  obtain ⟨n1, n2, n3, n4, n5⟩ := shift_num x1 ha.2 c
  refine ok_mono (setAA_ok s1 7 7 0 x (Or.inl rfl) (x - 1) ag.1 n1 ⟨n2.1, n2.2, n2.2⟩ (ag.1.2.2.2.1.2.2.2.2.2.1 x n2.1 (by show x < gI s1 898 0; rw [e]; exact n3))) fun _ s2 ⟨ag2, es⟩ => ⟨⟨n4, ag.trans ag2, ?_⟩, n5⟩
  rw [es]
  simp only [gI_sI, gI_sL, gI_sA, gI_sB, gI_sAf, gI_sBf, gL_sI, gL_sL, gL_sA, gL_sB, gL_sAf, gL_sBf, gA_sI, gA_sL, gA_sA, gA_sB, gA_sAf, gA_sBf, gB_sI, gB_sL, gB_sA, gB_sB, gB_sAf, gB_sBf, Nat.reduceEqDiff, Nat.reduceMul, Nat.reduceAdd, false_and, true_and, and_true, and_false, if_true, if_false]
  exact e
theorem av_at (s : S1) (k : Int32) (h : GG s) : ok (M_Mo_av 0) (sI s 75 0 k) (fun w s' => w = avv s 0 ∧ s' = sI s 75 0 k) := by
  simp only [M_Mo_av, ok_B, ok_C, ok_R, ok_L, ok_K, ok_GI, ok_GL, ok_PI, ok_PL, ok_AI, ok_AL, ok_SI, ok_SL, ok_Pr, ok_CI, cmp_lt, cmp_le, cmp_gt, cmp_ge, cmp_eq, nar0, nar1, Sum.elim_inl, Sum.elim_inr, avv]
  have e : gI (sI s 75 0 k) 898 0 = gI s 898 0 := by simp only [gI_sI, gI_sL, gI_sA, gI_sB, gI_sAf, gI_sBf, gL_sI, gL_sL, gL_sA, gL_sB, gL_sAf, gL_sBf, gA_sI, gA_sL, gA_sA, gA_sB, gA_sAf, gA_sBf, gB_sI, gB_sL, gB_sA, gB_sB, gB_sAf, gB_sBf, Nat.reduceEqDiff, Nat.reduceMul, Nat.reduceAdd, false_and, true_and, and_true, and_false, if_true, if_false]
  rw [e]
  exact ⟨fun c => ⟨(if_pos c).symm, by trivial⟩, fun c => ⟨ar_in h c (by decide), (if_neg c).symm, by trivial⟩⟩
theorem less_num {n : Int32} (h : 0 ≤ n ∧ n ≤ 400) (h2 : n ≤ 250) (c : ¬ n ≤ 0) : (0 ≤ n - 1 ∧ n - 1 ≤ n) ∧ n - 1 ≤ 250 := by
  exact ⟨⟨by grind, by grind⟩, by grind⟩
theorem less_rx {s : S1} (h : GG s) (hz : f_noCollection s = 0) {n : Int32} (hn : 0 ≤ n ∧ n ≤ gI s 898 0) : Rx s (sI s 898 0 n) := by
  refine Rx.hy ?_ ((Hy.refl s).sI (by decide)) hz
  have hr := h.2.2.2.1
  refine h.hw ((Hw.refl s).sI (by decide)) ?_
  unfold Rws RvV RwV at *
  have lv : ∀ k v, Vl false (sI s 898 0 n) k v ↔ Vl false s k v := fun k v => by
    unfold Vl Lv
    simp only [f_used, a_sort, a_marked, gI_sI, gI_sL, gI_sA, gI_sB, gI_sAf, gI_sBf, gL_sI, gL_sL, gL_sA, gL_sB, gL_sAf, gL_sBf, gA_sI, gA_sL, gA_sA, gA_sB, gA_sAf, gA_sBf, gB_sI, gB_sL, gB_sA, gB_sB, gB_sAf, gB_sBf, Nat.reduceEqDiff, Nat.reduceMul, Nat.reduceAdd, false_and, true_and, and_true, and_false, if_true, if_false]
  have lw : ∀ k v, Wl false (sI s 898 0 n) k v ↔ Wl false s k v := fun k v => by
    unfold Wl Vl Lv
    simp only [f_used, a_sort, a_marked, gI_sI, gI_sL, gI_sA, gI_sB, gI_sAf, gI_sBf, gL_sI, gL_sL, gL_sA, gL_sB, gL_sAf, gL_sBf, gA_sI, gA_sL, gA_sA, gA_sB, gA_sAf, gA_sBf, gB_sI, gB_sL, gB_sA, gB_sB, gB_sAf, gB_sBf, Nat.reduceEqDiff, Nat.reduceMul, Nat.reduceAdd, false_and, true_and, and_true, and_false, if_true, if_false]
  simp only [lv, lw]
  simp only [v_hand_n, v_args_n, v_results_n, v_ended_n, f_errorKind, f_errorValue, f_calledKind, f_called, Nat.reduceMul, Nat.reduceAdd, gI_sI, gI_sL, gI_sA, gI_sB, gI_sAf, gI_sBf, gL_sI, gL_sL, gL_sA, gL_sB, gL_sAf, gL_sBf, gA_sI, gA_sL, gA_sA, gA_sB, gA_sAf, gA_sBf, gB_sI, gB_sL, gB_sA, gB_sB, gB_sAf, gB_sBf, Nat.reduceEqDiff, Nat.reduceMul, Nat.reduceAdd, false_and, true_and, and_true, and_false, if_true, if_false] at *
  obtain ⟨r1, r2, r3, r4, r5, r6, r7⟩ := hr
  exact ⟨r1, ⟨hn.1, Int32.le_trans hn.2 r2.2⟩, r3, r4, r5, fun i a b => r6 i a (Int32.lt_of_lt_of_le b hn.2), r7⟩
theorem pcall93_ok (s s1 s2 s' : S1) (k fn : Int32) (h : RI true s') (hh : v_hand_n s' = 0) (ha : v_args_n s' ≤ 250) (hr : Rx s s1) (hk : k ≠ 0) (hp : Ph s1 s2 k fn) (hr2 : Rx s2 s') : ok M_Mo_pcall_j93 s' (fun _ s3 => Bp s s3) := by
  simp only [M_Mo_pcall_j93, ok_B, ok_C, ok_R, ok_L, ok_K, ok_GI, ok_GL, ok_PI, ok_PL, ok_AI, ok_AL, ok_SI, ok_SL, ok_Pr, ok_CI, cmp_lt, cmp_le, cmp_gt, cmp_ge, cmp_eq, nar0, nar1, Sum.elim_inl, Sum.elim_inr]
  have rx := todo_rx h.1 h.2.1 1
  refine ⟨h.rx rx, ?_, ?_, ?_, s1, s2, k, fn, hr, hk, hp, hr2.trans rx⟩
  · simp only [v_hand_n, gI_sI, gI_sL, gI_sA, gI_sB, gI_sAf, gI_sBf, gL_sI, gL_sL, gL_sA, gL_sB, gL_sAf, gL_sBf, gA_sI, gA_sL, gA_sA, gA_sB, gA_sAf, gA_sBf, gB_sI, gB_sL, gB_sA, gB_sB, gB_sAf, gB_sBf, Nat.reduceEqDiff, Nat.reduceMul, Nat.reduceAdd, false_and, true_and, and_true, and_false, if_true, if_false]
    exact hh
  · simp only [f_todo, gI_sI, gI_sL, gI_sA, gI_sB, gI_sAf, gI_sBf, gL_sI, gL_sL, gL_sA, gL_sB, gL_sAf, gL_sBf, gA_sI, gA_sL, gA_sA, gA_sB, gA_sAf, gA_sBf, gB_sI, gB_sL, gB_sA, gB_sB, gB_sAf, gB_sBf, Nat.reduceEqDiff, Nat.reduceMul, Nat.reduceAdd, false_and, true_and, and_true, and_false, if_true, if_false]
  · simp only [v_args_n, gI_sI, gI_sL, gI_sA, gI_sB, gI_sAf, gI_sBf, gL_sI, gL_sL, gL_sA, gL_sB, gL_sAf, gL_sBf, gA_sI, gA_sL, gA_sA, gA_sB, gA_sAf, gA_sBf, gB_sI, gB_sL, gB_sA, gB_sB, gB_sAf, gB_sBf, Nat.reduceEqDiff, Nat.reduceMul, Nat.reduceAdd, false_and, true_and, and_true, and_false, if_true, if_false]
    exact ha
theorem pcall_bo (s : S1) (h : q_Bi s) : ok M_Mo_pcall s (fun _ s' => Bo s s' ∨ Bp s s') := by
  obtain ⟨hr, _, hh, ha⟩ := h
  have hg := hr.1
  have hz := hr.2.1
  simp only [M_Mo_pcall, ok_B, ok_C, ok_R, ok_L, ok_K, ok_GI, ok_GL, ok_PI, ok_PL, ok_AI, ok_AL, ok_SI, ok_SL, ok_Pr, ok_CI, cmp_lt, cmp_le, cmp_gt, cmp_ge, cmp_eq, nar0, nar1, Sum.elim_inl, Sum.elim_inr]
  refine ok_mono (push_ok s 1 (-1) hr hh ⟨by decide, by decide, by decide⟩ (fun z => absurd z (by decide))) fun v s1 w => ?_
  rcases w with ⟨e, b, _⟩ | ⟨e, r1, ph⟩
  · rw [e]
    exact ⟨fun _ => Or.inl (j388_bo b), fun z => absurd (by trivial) z⟩
  · rw [e]
    refine ⟨fun z => absurd z (by decide), fun _ => ?_⟩
    have g1 := r1.1
    have h1 : gI s1 2050 0 = 0 := (ph.I 2050 (by decide) 0).trans hh
    have a1 : gI s1 898 0 = gI s 898 0 := ph.I 898 (by decide) 0
    refine ok_mono (ak_ok s1 0 g1 (by decide)) fun k s2 ⟨ek, es⟩ => ?_
    subst es
    refine ok_mono (av_at s2 k g1) fun vv s3 ⟨ev, es⟩ => ?_
    subst es
    have rx := calling_rx g1 r1.2.1 (k := k) (v := vv) (by rw [ek, ev]; exact ar_vl g1 (by decide))
    have h2 : gI (sL (sI s2 75 0 k) 76 0 vv) 2050 0 = 0 := by
      simp only [gI_sI, gI_sL, gI_sA, gI_sB, gI_sAf, gI_sBf, gL_sI, gL_sL, gL_sA, gL_sB, gL_sAf, gL_sBf, gA_sI, gA_sL, gA_sA, gA_sB, gA_sAf, gA_sBf, gB_sI, gB_sL, gB_sA, gB_sB, gB_sAf, gB_sBf, Nat.reduceEqDiff, Nat.reduceMul, Nat.reduceAdd, false_and, true_and, and_true, and_false, if_true, if_false]
      exact h1
    have a2 : gI (sL (sI s2 75 0 k) 76 0 vv) 898 0 = gI s 898 0 := by
      simp only [gI_sI, gI_sL, gI_sA, gI_sB, gI_sAf, gI_sBf, gL_sI, gL_sL, gL_sA, gL_sB, gL_sAf, gL_sBf, gA_sI, gA_sL, gA_sA, gA_sB, gA_sAf, gA_sBf, gB_sI, gB_sL, gB_sA, gB_sB, gB_sAf, gB_sBf, Nat.reduceEqDiff, Nat.reduceMul, Nat.reduceAdd, false_and, true_and, and_true, and_false, if_true, if_false]
      exact a1
    generalize sL (sI s2 75 0 k) 76 0 vv = z at *
    refine ok_mono (shift_ok z rx.1) fun _ s4 ⟨ag, e4⟩ => ?_
    have rx4 := ag.rx (Or.inl rfl) rx.2.1
    have h4 : v_hand_n s4 = 0 := (ag.2.1 2050 0 (by decide)).trans h2
    have a4 : gI s4 898 0 = gI s 898 0 := e4.trans a2
    have ha' : gI s 898 0 ≤ 250 := ha
    have r4 := (r1.rx rx).rx rx4
    refine ⟨fun _ => ok_mono (pcall93_ok s s s2 s4 1 (-1) r4 h4 (by show gI s4 898 0 ≤ 250; rw [a4]; exact ha') (Rx.refl hg hz) (by decide) ph (rx.trans rx4)) fun _ _ w => Or.inr w, fun c => ?_⟩
    obtain ⟨n1, n2⟩ := less_num r4.1.2.2.2.1.2.1 (by show gI s4 898 0 ≤ 250; rw [a4]; exact ha') c
    have rx5 := less_rx rx4.1 rx4.2.1 n1
    refine ok_mono (pcall93_ok s s s2 _ 1 (-1) (r4.rx rx5) ?_ ?_ (Rx.refl hg hz) (by decide) ph ((rx.trans rx4).trans rx5)) fun _ _ w => Or.inr w
    · simp only [v_hand_n, gI_sI, gI_sL, gI_sA, gI_sB, gI_sAf, gI_sBf, gL_sI, gL_sL, gL_sA, gL_sB, gL_sAf, gL_sBf, gA_sI, gA_sL, gA_sA, gA_sB, gA_sAf, gA_sBf, gB_sI, gB_sL, gB_sA, gB_sB, gB_sAf, gB_sBf, Nat.reduceEqDiff, Nat.reduceMul, Nat.reduceAdd, false_and, true_and, and_true, and_false, if_true, if_false]
      exact h4
    · simp only [v_args_n, gI_sI, gI_sL, gI_sA, gI_sB, gI_sAf, gI_sBf, gL_sI, gL_sL, gL_sA, gL_sB, gL_sAf, gL_sBf, gA_sI, gA_sL, gA_sA, gA_sB, gA_sAf, gA_sBf, gB_sI, gB_sL, gB_sA, gB_sB, gB_sAf, gB_sBf, Nat.reduceEqDiff, Nat.reduceMul, Nat.reduceAdd, false_and, true_and, and_true, and_false, if_true, if_false]
      exact n2
