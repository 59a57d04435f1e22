/-! setmetatable, type, error, rawequal, len, collect. -/
theorem setMeta80_bo (s : S1) (t : Int32) (h : GG s) (hz : f_noCollection s = 0) (hh : v_hand_n s = 0) (ht : Lv false s t 5) : ok (M_Mo_setMeta_j80 t) s (fun _ s' => Bo s s') := by
  simp only [M_Mo_setMeta_j80, ok_B, ok_C, ok_R, ok_L, ok_K, ok_GI, ok_GL, ok_PI, ok_PL, ok_AI, ok_AL, ok_SI, ok_SL, ok_Pr, ok_CI, cmp_lt, cmp_le, cmp_gt, cmp_ge, cmp_eq, nar0, nar1, Sum.elim_inl, Sum.elim_inr]
  refine ok_mono (is_ok s 1 5 h (by decide)) fun v s1 ⟨c1, c2, es⟩ => ?_
  subst es
  refine ⟨fun _ => setMeta104_bo s1 t (-1) h hz hh ht (Or.inl (by decide)), fun c => ok_mono (av_ok s1 1 h (by decide)) fun v2 s2 ⟨e2, es⟩ => ?_⟩
  subst es
  have vl := ar_vl (j := 1) h (by decide)
  rw [c2 c, ← e2] at vl
  exact setMeta104_bo s2 t _ h hz hh ht (Or.inr (vl.to (by decide) (by decide)))
theorem setMeta34_bo (s : S1) (h : q_Bi s) (h5 : akv s 0 = 5) : ok M_Mo_setMeta_j34 s (fun _ s' => Bo s s') := by
  obtain ⟨hr, _, hh, ha⟩ := h
  have hg := hr.1
  have hz := hr.2.1
  simp only [M_Mo_setMeta_j34, ok_B, ok_C, ok_R, ok_L, ok_K, ok_GI, ok_GL, ok_PI, ok_PL, ok_AI, ok_AL, ok_SI, ok_SL, ok_Pr, ok_CI, cmp_lt, cmp_le, cmp_gt, cmp_ge, cmp_eq, nar0, nar1, Sum.elim_inl, Sum.elim_inr]
  refine ok_mono (av_ok s 0 hg (by decide)) fun v2 s2 ⟨e2, es⟩ => ?_
  subst es
  have vl := ar_vl (j := 0) hg (by decide)
  rw [h5, ← e2] at vl
  have l5 := vl.to (by decide) (by decide)
  refine ⟨l5.b hg, fun _ => setMeta80_bo s2 _ hg hz hh l5, fun d => ⟨l5.b hg, ⟨by decide, by decide⟩, ?_⟩⟩
  have hm : Lv false s2 (a_chain s2 v2.toInt32) 5 := ((hg.1.1.1.2.2 _ l5.1 l5.2.1).2.1 l5.2.2.1).1.elim (fun z => absurd z d) id
  refine ok_mono (raw_ok s2 _ 4 _ hg hm) fun r s4 ⟨gk, gv, es, hv, _⟩ => ?_
  have rx := got_rx hg hz gk gv
  have hh1 : v_hand_n s4 = 0 := by
    rw [es]
    simp only [v_hand_n, gI_sI, gI_sL, gI_sA, gI_sB, gI_sAf, gI_sBf, gL_sI, gL_sL, gL_sA, gL_sB, gL_sAf, gL_sBf, gA_sI, gA_sL, gA_sA, gA_sB, gA_sAf, gA_sBf, gB_sI, gB_sL, gB_sA, gB_sB, gB_sAf, gB_sBf, Nat.reduceEqDiff, Nat.reduceMul, Nat.reduceAdd, false_and, true_and, and_true, and_false, if_true, if_false]
    exact hh
  have l54 : Lv false s4 v2.toInt32 5 := by
    rw [es]
    unfold Lv at *
    simp only [f_used, a_sort, a_marked, gI_sI, gI_sL, gI_sA, gI_sB, gI_sAf, gI_sBf, gL_sI, gL_sL, gL_sA, gL_sB, gL_sAf, gL_sBf, gA_sI, gA_sL, gA_sA, gA_sB, gA_sAf, gA_sBf, gB_sI, gB_sL, gB_sA, gB_sB, gB_sAf, gB_sBf, Nat.reduceEqDiff, Nat.reduceMul, Nat.reduceAdd, false_and, true_and, and_true, and_false, if_true, if_false] at *
    exact l5
  rw [← es] at rx
  exact ⟨fun _ => ok_mono (setMeta80_bo s4 _ rx.1 rx.2.1 hh1 l54) fun _ _ w => w.pre rx, fun _ => ok_mono (raise_bo s4 8 rx.1 rx.2.1 hh1) fun _ _ w => w.pre rx⟩
theorem setMeta_bo (s : S1) (h : q_Bi s) : ok M_Mo_setMeta s (fun _ s' => Bo s s') := by
  have h0 := h
  obtain ⟨hr, _, hh, ha⟩ := h
  have hg := hr.1
  have hz := hr.2.1
  have no : ok M_Mo_setMeta_j27 s (fun _ s' => Bo s s') := by
    simp only [M_Mo_setMeta_j27, ok_B, ok_C, ok_R, ok_L, ok_K, ok_GI, ok_GL, ok_PI, ok_PL, ok_AI, ok_AL, ok_SI, ok_SL, ok_Pr, ok_CI, cmp_lt, cmp_le, cmp_gt, cmp_ge, cmp_eq, nar0, nar1, Sum.elim_inl, Sum.elim_inr]
    exact raise_bo s 2 hg hz hh
  simp only [M_Mo_setMeta, ok_B, ok_C, ok_R, ok_L, ok_K, ok_GI, ok_GL, ok_PI, ok_PL, ok_AI, ok_AL, ok_SI, ok_SL, ok_Pr, ok_CI, cmp_lt, cmp_le, cmp_gt, cmp_ge, cmp_eq, nar0, nar1, Sum.elim_inl, Sum.elim_inr]
  refine ok_mono (is_ok s 0 5 hg (by decide)) fun v s1 ⟨c1, c2, es⟩ => ?_
  subst es
  refine ⟨fun _ => no, fun c => ok_mono (is_ok s1 1 5 hg (by decide)) fun v2 s2 ⟨_, _, es⟩ => ?_⟩
  subst es
  refine ⟨fun _ => ok_mono (is_ok s2 1 0 hg (by decide)) fun v3 s3 ⟨_, _, es⟩ => ?_, fun _ => setMeta34_bo s2 h0 (c2 c)⟩
  subst es
  exact ⟨fun _ => no, fun _ => setMeta34_bo s3 h0 (c2 c)⟩
/-- an answer, then the arguments are let go -/
theorem ok_388 {f : M Unit} {s : S1} (h : ok f s (fun _ s' => Bo s s')) : ok (oB f fun _ => M_Mo_builtIn_j388) s (fun _ s' => Bo s s') := by
  simp only [M_Mo_builtIn_j388, ok_B, ok_C, ok_R, ok_L, ok_K, ok_GI, ok_GL, ok_PI, ok_PL, ok_AI, ok_AL, ok_SI, ok_SL, ok_Pr, ok_CI, cmp_lt, cmp_le, cmp_gt, cmp_ge, cmp_eq, nar0, nar1, Sum.elim_inl, Sum.elim_inr]
  exact ok_mono h fun _ s' w => j388_bo w
theorem give388 (s : S1) (k : Int32) (v : Int64) (h : q_Bi s) (hv : Vl false s k v) : ok (oB (M_Mo_give k v) fun _ => M_Mo_builtIn_j388) s (fun _ s' => Bo s s') := ok_388 (ok_mono (give_bo s k v h.1.1 h.1.2.1 h.2.2.1 hv) fun _ _ w => w.1)
theorem raise388 (s : S1) (n : Int32) (h : q_Bi s) : ok (oB (M_Mo_raise n) fun _ => M_Mo_builtIn_j388) s (fun _ s' => Bo s s') := by
  simp only [M_Mo_builtIn_j388, ok_B, ok_C, ok_R, ok_L, ok_K, ok_GI, ok_GL, ok_PI, ok_PL, ok_AI, ok_AL, ok_SI, ok_SL, ok_Pr, ok_CI, cmp_lt, cmp_le, cmp_gt, cmp_ge, cmp_eq, nar0, nar1, Sum.elim_inl, Sum.elim_inr]
  exact ok_mono (raise_bo s n h.1.1 h.1.2.1 h.2.2.1) fun _ s' w => j388_bo w
theorem kind158 (s : S1) (j : Int32) (h : q_Bi s) (hj : 0 ≤ j ∧ j < 7) : ok (M_Mo_builtIn_j158 j 4) s (fun _ s' => Bo s s') := by
  have w := fun v => give388 s 4 v h
  unfold M_Mo_builtIn_j158
  rw [ok_B, ok_AI]
  refine ⟨hj, w _ (Vl.of (h.1.2.2.2.1.2.1 j hj.1 hj.2).1 ⟨by decide, by decide⟩ h.1.1.used.2)⟩
theorem type_bo (s : S1) (h : q_Bi s) : ok (oB (M_Mo_ak 0) fun v128 =>
    oC (v128 = 0)
      (M_Mo_builtIn_j158 0 4)
      (oB (M_Mo_ak 0) fun v140 =>
      oC (2 < v140)
        (oB (M_Mo_ak 0) fun v153 =>
        M_Mo_builtIn_j158 (v153 - 1) 4)
        (M_Mo_builtIn_j158 1 4))) s (fun _ s' => Bo s s') := by
  have hg := h.1.1
  have vl := ar_vl (j := 0) hg (by decide)
  simp only [ok_B, ok_C, ok_R, ok_L, ok_K, ok_GI, ok_GL, ok_PI, ok_PL, ok_AI, ok_AL, ok_SI, ok_SL, ok_Pr, ok_CI, cmp_lt, cmp_le, cmp_gt, cmp_ge, cmp_eq, nar0, nar1, Sum.elim_inl, Sum.elim_inr]
  refine ok_mono (ak_ok s 0 hg (by decide)) fun v s1 ⟨e1, es⟩ => ?_
  subst es
  refine ⟨fun _ => kind158 s1 0 h ⟨by decide, by decide⟩, fun _ => ok_mono (ak_ok s1 0 hg (by decide)) fun v2 s2 ⟨e2, es⟩ => ?_⟩
  subst es
  refine ⟨fun d => ok_mono (ak_ok s2 0 hg (by decide)) fun v3 s3 ⟨e3, es⟩ => ?_, fun _ => kind158 s2 1 h ⟨by decide, by decide⟩⟩
  subst es
  have k7 := vl.kind7
  rw [← e3] at k7
  rw [e2, ← e3] at d
  refine kind158 s3 _ h ?_
  clear vl e1 e2 e3 h hg
  exact ⟨by grind, by grind⟩
theorem err_rx {s : S1} (h : GG s) (hz : f_noCollection s = 0) {k : Int32} {v : Int64} (hv : Vl false s k v) (n : Int32) : Rx s (sI (sL (sI s 64 0 k) 65 0 v) 73 0 n) := by
  have r1 : Rx s (sL (sI s 64 0 k) 65 0 v) := Rx.hy (h.err hv) (((Hy.refl s).sI (by decide)).sL) hz
  exact r1.trans (todo_rx r1.1 r1.2.1 n)
theorem error_bo (s : S1) (h : q_Bi s) : ok (oB (M_Mo_ak 0) fun v169 =>
    oB (oPI 64 0 v169) fun _ =>
    oB (M_Mo_av 0) fun v178 =>
    oB (oPL 65 0 v178) fun _ =>
    oB (oPI 73 0 3) fun _ =>
    M_Mo_builtIn_j388) s (fun _ s' => Bo s s') := by
  have hg := h.1.1
  have vl := ar_vl (j := 0) hg (by decide)
  simp only [M_Mo_builtIn_j388, ok_B, ok_C, ok_R, ok_L, ok_K, ok_GI, ok_GL, ok_PI, ok_PL, ok_AI, ok_AL, ok_SI, ok_SL, ok_Pr, ok_CI, cmp_lt, cmp_le, cmp_gt, cmp_ge, cmp_eq, nar0, nar1, Sum.elim_inl, Sum.elim_inr]
  refine ok_mono (ak_ok s 0 hg (by decide)) fun v s1 ⟨e1, es⟩ => ?_
  subst es
  have av : ok (M_Mo_av 0) (sI s1 64 0 v) (fun w s' => w = avv s1 0 ∧ s' = sI s1 64 0 v) := by
    simp only [M_Mo_av, ok_B, ok_C, ok_R, ok_L, ok_K, ok_GI, ok_GL, ok_PI, ok_PL, ok_AI, ok_AL, ok_SI, ok_SL, ok_Pr, ok_CI, cmp_lt, cmp_le, cmp_gt, cmp_ge, cmp_eq, nar0, nar1, Sum.elim_inl, Sum.elim_inr, avv]
    have e : gI (sI s1 64 0 v) 898 0 = gI s1 898 0 := by simp only [gI_sI, gI_sL, gI_sA, gI_sB, gI_sAf, gI_sBf, gL_sI, gL_sL, gL_sA, gL_sB, gL_sAf, gL_sBf, gA_sI, gA_sL, gA_sA, gA_sB, gA_sAf, gA_sBf, gB_sI, gB_sL, gB_sA, gB_sB, gB_sAf, gB_sBf, Nat.reduceEqDiff, Nat.reduceMul, Nat.reduceAdd, false_and, true_and, and_true, and_false, if_true, if_false]
    rw [e]
    exact ⟨fun c => ⟨(if_pos c).symm, by trivial⟩, fun c => ⟨ar_in hg c (by decide), (if_neg c).symm, by trivial⟩⟩
  refine ok_mono av fun w s2 ⟨e2, es⟩ => ?_
  subst es
  have rx := err_rx hg h.1.2.1 (k := v) (v := w) (by rw [e1, e2]; exact vl) 3
  refine j388_bo ⟨rx, ?_, Or.inl (Or.inl ?_)⟩
  · simp only [v_hand_n, gI_sI, gI_sL, gI_sA, gI_sB, gI_sAf, gI_sBf, gL_sI, gL_sL, gL_sA, gL_sB, gL_sAf, gL_sBf, gA_sI, gA_sL, gA_sA, gA_sB, gA_sAf, gA_sBf, gB_sI, gB_sL, gB_sA, gB_sB, gB_sAf, gB_sBf, Nat.reduceEqDiff, Nat.reduceMul, Nat.reduceAdd, false_and, true_and, and_true, and_false, if_true, if_false]
    exact h.2.2.1
  · simp only [f_todo, gI_sI, gI_sL, gI_sA, gI_sB, gI_sAf, gI_sBf, gL_sI, gL_sL, gL_sA, gL_sB, gL_sAf, gL_sBf, gA_sI, gA_sL, gA_sA, gA_sB, gA_sAf, gA_sBf, gB_sI, gB_sL, gB_sA, gB_sB, gB_sAf, gB_sBf, Nat.reduceEqDiff, Nat.reduceMul, Nat.reduceAdd, false_and, true_and, and_true, and_false, if_true, if_false]
theorem rawequal_bo (s : S1) (h : q_Bi s) : ok (oB (M_Mo_ak 0) fun v222 =>
    oB (M_Mo_ak 1) fun v227 =>
    oC (v222 = v227)
      (oB (M_Mo_av 0) fun v235 =>
      oB (M_Mo_av 1) fun v240 =>
      oC ((lg_cmp v235 v240) = 0)
        (M_Mo_builtIn_j252 2)
        (M_Mo_builtIn_j251))
      (M_Mo_builtIn_j251)) s (fun _ s' => Bo s s') := by
  have hg := h.1.1
  have yes : ok (M_Mo_builtIn_j252 2) s (fun _ s' => Bo s s') := give388 s 2 0 h (Or.inl ⟨by decide, by decide⟩)
  have no : ok M_Mo_builtIn_j251 s (fun _ s' => Bo s s') := give388 s 1 0 h (Or.inl ⟨by decide, by decide⟩)
  simp only [ok_B, ok_C, ok_R, ok_L, ok_K, ok_GI, ok_GL, ok_PI, ok_PL, ok_AI, ok_AL, ok_SI, ok_SL, ok_Pr, ok_CI, cmp_lt, cmp_le, cmp_gt, cmp_ge, cmp_eq, nar0, nar1, Sum.elim_inl, Sum.elim_inr]
  refine ok_mono (ak_ok s 0 hg (by decide)) fun v s1 ⟨e1, es⟩ => ?_
  subst es
  refine ok_mono (ak_ok s1 1 hg (by decide)) fun v s1 ⟨e1, es⟩ => ?_
  subst es
  refine ⟨fun _ => ok_mono (av_ok s1 0 hg (by decide)) fun v s1 ⟨e1, es⟩ => ?_, fun _ => no⟩
  subst es
  refine ok_mono (av_ok s1 1 hg (by decide)) fun v s1 ⟨e1, es⟩ => ?_
  subst es
  exact ⟨fun _ => yes, fun _ => no⟩
theorem len_bo (s : S1) (h : q_Bi s) : ok (oB (M_Mo_is 0 4) fun v297 =>
    oC (v297 = 0)
      (oB (M_Mo_raise 3) fun v325 =>
      M_Mo_builtIn_j388)
      (oB (M_Mo_av 0) fun v311 =>
      oB (oAI 63 4100 0 v311.toInt32) fun v315 =>
      oB (M_Mo_give 3 v315.toInt64) fun _ =>
      M_Mo_builtIn_j388)) s (fun _ s' => Bo s s') := by
  have hg := h.1.1
  rw [ok_B]
  refine ok_mono (is_ok s 0 4 hg (by decide)) fun v s1 ⟨c1, c2, es⟩ => ?_
  subst es
  rw [ok_C]
  refine ⟨fun _ => raise388 s1 3 h, fun c => ?_⟩
  rw [ok_B]
  refine ok_mono (av_ok s1 0 hg (by decide)) fun v2 s2 ⟨e2, es⟩ => ?_
  subst es
  have vl := ar_vl (j := 0) hg (by decide)
  rw [c2 c, ← e2] at vl
  rw [ok_B, ok_AI]
  exact ⟨(vl.to (by decide) (by decide)).b hg, give388 s2 3 _ h (Or.inl ⟨by decide, by decide⟩)⟩
theorem collect_bo (s : S1) (h : q_Bi s) : ok (oB (M_Mo_collection) fun _ =>
  oB (oGI 34 0) fun v381 =>
  oB (M_Mo_give 3 v381.toInt64) fun _ =>
  M_Mo_builtIn_j388) s (fun _ s' => Bo s s') := by
  simp only [M_Mo_builtIn_j388, ok_B, ok_C, ok_R, ok_L, ok_K, ok_GI, ok_GL, ok_PI, ok_PL, ok_AI, ok_AL, ok_SI, ok_SL, ok_Pr, ok_CI, cmp_lt, cmp_le, cmp_gt, cmp_ge, cmp_eq, nar0, nar1, Sum.elim_inl, Sum.elim_inr]
  refine ok_mono (collect_rx s h.1) fun _ s1 ⟨rx, e⟩ => ?_
  have hh : v_hand_n s1 = 0 := e.trans h.2.2.1
  exact ok_mono (give_bo s1 3 _ rx.1 rx.2.1 hh (Or.inl ⟨by decide, by decide⟩)) fun _ _ w => j388_bo (w.1.pre rx)
