/-! What is built in: arguments, answers. -/
def Bo (s s' : S1) : Prop := Rx s s' ∧ v_hand_n s' = 0 ∧ (Er s' ∨ (f_todo s' = 2 ∧ v_results_n s' ≤ 250))
/-- something built in is called -/
def q_Bi (s : S1) : Prop := RI true s ∧ f_todo s = 0 ∧ v_hand_n s = 0 ∧ v_args_n s ≤ 250
theorem Bo.pre {s s1 s' : S1} (h : Rx s s1) (k : Bo s1 s') : Bo s s' := ⟨h.trans k.1, k.2⟩
def akv (s : S1) (j : Int32) : Int32 := if gI s 898 0 ≤ j then 0 else gA s 8 0 j
def avv (s : S1) (j : Int32) : Int64 := if gI s 898 0 ≤ j then 0 else gB s 9 0 j
theorem ar_in {s : S1} {j : Int32} (h : GG s) (c : ¬ gI s 898 0 ≤ j) (hj : 0 ≤ j) : 0 ≤ j ∧ j < 400 := ⟨hj, Int32.lt_of_lt_of_le (Int32.not_le.mp c) h.2.2.2.1.2.1.2⟩
theorem ak_ok (s : S1) (j : Int32) (h : GG s) (hj : 0 ≤ j) : ok (M_Mo_ak j) s (fun v s' => v = akv s j ∧ s' = s) := by
  simp only [M_Mo_ak, ok_B, ok_C, ok_R, ok_L, ok_K, ok_GI, ok_GL, ok_PI, ok_PL, ok_AI, ok_AL, ok_SI, ok_SL, ok_Pr, ok_CI, cmp_lt, cmp_le, cmp_gt, cmp_ge, cmp_eq, nar0, nar1, Sum.elim_inl, Sum.elim_inr, akv]
  exact ⟨fun c => ⟨(if_pos c).symm, by trivial⟩, fun c => ⟨ar_in h c hj, (if_neg c).symm, by trivial⟩⟩
theorem av_ok (s : S1) (j : Int32) (h : GG s) (hj : 0 ≤ j) : ok (M_Mo_av j) s (fun v s' => v = avv s j ∧ s' = s) := by
  simp only [M_Mo_av, ok_B, ok_C, ok_R, ok_L, ok_K, ok_GI, ok_GL, ok_PI, ok_PL, ok_AI, ok_AL, ok_SI, ok_SL, ok_Pr, ok_CI, cmp_lt, cmp_le, cmp_gt, cmp_ge, cmp_eq, nar0, nar1, Sum.elim_inl, Sum.elim_inr, avv]
  exact ⟨fun c => ⟨(if_pos c).symm, by trivial⟩, fun c => ⟨ar_in h c hj, (if_neg c).symm, by trivial⟩⟩
theorem is_ok (s : S1) (j k : Int32) (h : GG s) (hj : 0 ≤ j) : ok (M_Mo_is j k) s (fun v s' => (v = 0 → akv s j ≠ k) ∧ (v ≠ 0 → akv s j = k) ∧ s' = s) := by
  simp only [M_Mo_is, ok_B, ok_C, ok_R, ok_L, ok_K, ok_GI, ok_GL, ok_PI, ok_PL, ok_AI, ok_AL, ok_SI, ok_SL, ok_Pr, ok_CI, cmp_lt, cmp_le, cmp_gt, cmp_ge, cmp_eq, nar0, nar1, Sum.elim_inl, Sum.elim_inr]
  refine ok_mono (ak_ok s j h hj) fun v s1 ⟨e, es⟩ => ⟨fun c => ⟨fun z => absurd z (by decide), fun _ => by rw [← e]; exact c, es⟩, fun c => ⟨fun _ => by rw [← e]; exact c, fun z => absurd rfl z, es⟩⟩
theorem ar_vl {s : S1} {j : Int32} (h : GG s) (hj : 0 ≤ j) : Vl false s (akv s j) (avv s j) := by
  unfold akv avv
  by_cases c : gI s 898 0 ≤ j
  · rw [if_pos c, if_pos c]
    exact Or.inl ⟨by decide, by decide⟩
  · rw [if_neg c, if_neg c]
    exact h.2.2.2.1.2.2.2.2.2.1 j hj (Int32.not_le.mp c)
theorem Vl.to {s : S1} {k : Int32} {v : Int64} (h : Vl false s k v) (hk : 4 ≤ k) (h6 : k ≠ 6) : Lv false s v.toInt32 k := by
  rcases h with w | w | w
  · exact absurd (Int32.lt_of_le_of_lt hk w.2) Int32.lt_irrefl
  · exact absurd w.1 h6
  · exact w.2.2.2.2
theorem Lv.b {s : S1} {x k : Int32} (h : GG s) (hx : Lv false s x k) : 0 ≤ x ∧ x < 4100 := ⟨hx.1, Int32.lt_trans (Int32.lt_of_lt_of_le hx.2.1 h.used.2) (by decide)⟩
theorem todo_rx {s : S1} (h : GG s) (hz : f_noCollection s = 0) (x : Int32) : Rx s (sI s 73 0 x) := Rx.hx h ((Hx0.refl s).sI (by decide)) ((Hy.refl s).sI (by decide)) hz
theorem give_bo (s : S1) (k : Int32) (v : Int64) (h : GG s) (hz : f_noCollection s = 0) (hh : v_hand_n s = 0) (hv : Vl false s k v) : ok (M_Mo_give k v) s (fun _ s' => Bo s s' ∧ f_todo s' = 2 ∧ v_results_n s' = 1) := by
  refine ok_mono (q_give_ok s k v h hv) fun _ s' ⟨s1, ag, e1, es⟩ => ?_
  have rx := ag.rx (Or.inr (Or.inl rfl)) hz
  have rx2 := todo_rx rx.1 rx.2.1 2
  have e2 : f_todo s' = 2 := by
    rw [es]
    simp only [f_todo, gI_sI, gI_sL, gI_sA, gI_sB, gI_sAf, gI_sBf, gL_sI, gL_sL, gL_sA, gL_sB, gL_sAf, gL_sBf, gA_sI, gA_sL, gA_sA, gA_sB, gA_sAf, gA_sBf, gB_sI, gB_sL, gB_sA, gB_sB, gB_sAf, gB_sBf, Nat.reduceEqDiff, Nat.reduceMul, Nat.reduceAdd, false_and, true_and, and_true, and_false, if_true, if_false]
  have e3 : v_results_n s' = 1 := by
    rw [es]
    simp only [v_results_n, gI_sI, gI_sL, gI_sA, gI_sB, gI_sAf, gI_sBf, gL_sI, gL_sL, gL_sA, gL_sB, gL_sAf, gL_sBf, gA_sI, gA_sL, gA_sA, gA_sB, gA_sAf, gA_sBf, gB_sI, gB_sL, gB_sA, gB_sB, gB_sAf, gB_sBf, Nat.reduceEqDiff, Nat.reduceMul, Nat.reduceAdd, false_and, true_and, and_true, and_false, if_true, if_false]
    exact e1
  refine ⟨⟨?_, ?_, Or.inr ⟨e2, by rw [e3]; decide⟩⟩, e2, e3⟩
  · rw [es]
    exact rx.trans rx2
  · rw [es]
    simp only [v_hand_n, gI_sI, gI_sL, gI_sA, gI_sB, gI_sAf, gI_sBf, gL_sI, gL_sL, gL_sA, gL_sB, gL_sAf, gL_sBf, gA_sI, gA_sL, gA_sA, gA_sB, gA_sAf, gA_sBf, gB_sI, gB_sL, gB_sA, gB_sB, gB_sAf, gB_sBf, Nat.reduceEqDiff, Nat.reduceMul, Nat.reduceAdd, false_and, true_and, and_true, and_false, if_true, if_false]
    exact (ag.2.1 2050 0 (by decide)).trans hh
theorem giveNone_bo (s : S1) (h : GG s) (hz : f_noCollection s = 0) (hh : v_hand_n s = 0) : ok M_Mo_giveNone s (fun _ s' => Bo s s' ∧ f_todo s' = 2 ∧ v_results_n s' = 0 ∧ Ag 10 s (sI s 1282 0 0) ∧ s' = sI (sI s 1282 0 0) 73 0 2) := by
  simp only [M_Mo_giveNone, ok_B, ok_C, ok_R, ok_L, ok_K, ok_GI, ok_GL, ok_PI, ok_PL, ok_AI, ok_AL, ok_SI, ok_SL, ok_Pr, ok_CI, cmp_lt, cmp_le, cmp_gt, cmp_ge, cmp_eq, nar0, nar1, Sum.elim_inl, Sum.elim_inr]
  have ag := zero10 h
  have rx := ag.rx (Or.inr (Or.inl rfl)) hz
  have rx2 := todo_rx rx.1 rx.2.1 2
  refine ⟨⟨rx.trans rx2, ?_, Or.inr ⟨?_, ?_⟩⟩, ?_, ?_, ag, by trivial⟩
  · simp only [v_hand_n, gI_sI, gI_sL, gI_sA, gI_sB, gI_sAf, gI_sBf, gL_sI, gL_sL, gL_sA, gL_sB, gL_sAf, gL_sBf, gA_sI, gA_sL, gA_sA, gA_sB, gA_sAf, gA_sBf, gB_sI, gB_sL, gB_sA, gB_sB, gB_sAf, gB_sBf, Nat.reduceEqDiff, Nat.reduceMul, Nat.reduceAdd, false_and, true_and, and_true, and_false, if_true, if_false]
    exact hh
  · simp only [f_todo, gI_sI, gI_sL, gI_sA, gI_sB, gI_sAf, gI_sBf, gL_sI, gL_sL, gL_sA, gL_sB, gL_sAf, gL_sBf, gA_sI, gA_sL, gA_sA, gA_sB, gA_sAf, gA_sBf, gB_sI, gB_sL, gB_sA, gB_sB, gB_sAf, gB_sBf, Nat.reduceEqDiff, Nat.reduceMul, Nat.reduceAdd, false_and, true_and, and_true, and_false, if_true, if_false]
  · simp only [v_results_n, gI_sI, gI_sL, gI_sA, gI_sB, gI_sAf, gI_sBf, gL_sI, gL_sL, gL_sA, gL_sB, gL_sAf, gL_sBf, gA_sI, gA_sL, gA_sA, gA_sB, gA_sAf, gA_sBf, gB_sI, gB_sL, gB_sA, gB_sB, gB_sAf, gB_sBf, Nat.reduceEqDiff, Nat.reduceMul, Nat.reduceAdd, false_and, true_and, and_true, and_false, if_true, if_false]
    decide
  · simp only [f_todo, gI_sI, gI_sL, gI_sA, gI_sB, gI_sAf, gI_sBf, gL_sI, gL_sL, gL_sA, gL_sB, gL_sAf, gL_sBf, gA_sI, gA_sL, gA_sA, gA_sB, gA_sAf, gA_sBf, gB_sI, gB_sL, gB_sA, gB_sB, gB_sAf, gB_sBf, Nat.reduceEqDiff, Nat.reduceMul, Nat.reduceAdd, false_and, true_and, and_true, and_false, if_true, if_false]
  · simp only [v_results_n, gI_sI, gI_sL, gI_sA, gI_sB, gI_sAf, gI_sBf, gL_sI, gL_sL, gL_sA, gL_sB, gL_sAf, gL_sBf, gA_sI, gA_sL, gA_sA, gA_sB, gA_sAf, gA_sBf, gB_sI, gB_sL, gB_sA, gB_sB, gB_sAf, gB_sBf, Nat.reduceEqDiff, Nat.reduceMul, Nat.reduceAdd, false_and, true_and, and_true, and_false, if_true, if_false]
theorem raise_bo (s : S1) (n : Int32) (h : GG s) (hz : f_noCollection s = 0) (hh : v_hand_n s = 0) : ok (M_Mo_raise n) s (fun _ s' => Bo s s') := by
  refine ok_mono ((q_raise_ok s n).and (raise_er s n)) fun v s' ⟨⟨_, es⟩, _, er⟩ => ?_
  rw [es] at er ⊢
  refine ⟨(Nx.raise h n _ ?_).rx hz, ?_, Or.inl er⟩
  · by_cases c : n = 11
    · rw [if_pos c]
      exact Or.inr rfl
    · rw [if_neg c]
      exact Or.inl rfl
  · simp only [v_hand_n, gI_sI, gI_sL, gI_sA, gI_sB, gI_sAf, gI_sBf, gL_sI, gL_sL, gL_sA, gL_sB, gL_sAf, gL_sBf, gA_sI, gA_sL, gA_sA, gA_sB, gA_sAf, gA_sBf, gB_sI, gB_sL, gB_sA, gB_sB, gB_sAf, gB_sBf, Nat.reduceEqDiff, Nat.reduceMul, Nat.reduceAdd, false_and, true_and, and_true, and_false, if_true, if_false]
    exact hh
theorem j388_bo {s s' : S1} (h : Bo s s') : Bo s (sI s' 898 0 0) := by
  have ag := zero7 h.1.1
  have rx := ag.rx (Or.inl rfl) h.1.2.1
  refine ⟨h.1.trans rx, ?_, ?_⟩
  · simp only [v_hand_n, gI_sI, gI_sL, gI_sA, gI_sB, gI_sAf, gI_sBf, gL_sI, gL_sL, gL_sA, gL_sB, gL_sAf, gL_sBf, gA_sI, gA_sL, gA_sA, gA_sB, gA_sAf, gA_sBf, gB_sI, gB_sL, gB_sA, gB_sB, gB_sAf, gB_sBf, Nat.reduceEqDiff, Nat.reduceMul, Nat.reduceAdd, false_and, true_and, and_true, and_false, if_true, if_false]
    exact h.2.1
  · have w := h.2.2
    unfold Er at *
    simp only [f_todo, v_results_n, gI_sI, gI_sL, gI_sA, gI_sB, gI_sAf, gI_sBf, gL_sI, gL_sL, gL_sA, gL_sB, gL_sAf, gL_sBf, gA_sI, gA_sL, gA_sA, gA_sB, gA_sAf, gA_sBf, gB_sI, gB_sL, gB_sA, gB_sB, gB_sAf, gB_sBf, Nat.reduceEqDiff, Nat.reduceMul, Nat.reduceAdd, false_and, true_and, and_true, and_false, if_true, if_false] at *
    exact w
theorem got_rx {s : S1} (h : GG s) (hz : f_noCollection s = 0) (k : Int32) (v : Int64) : Rx s (sL (sI s 66 0 k) 67 0 v) := (Nx.got h k v).rx hz
/-- a raw look-up whose answer is given -/
theorem rawGive_bo (s : S1) (t k : Int32) (v : Int64) (h : GG s) (hz : f_noCollection s = 0) (hh : v_hand_n s = 0) (ht : Lv false s t 5) : ok (oB (M_Mo_raw t k v) fun _ => oB (oGI 66 0) fun a => oB (oGL 67 0) fun b => oB (M_Mo_give a b) fun _ => oR ()) s (fun _ s' => Bo s s') := by
  simp only [ok_B, ok_C, ok_R, ok_L, ok_K, ok_GI, ok_GL, ok_PI, ok_PL, ok_AI, ok_AL, ok_SI, ok_SL, ok_Pr, ok_CI, cmp_lt, cmp_le, cmp_gt, cmp_ge, cmp_eq, nar0, nar1, Sum.elim_inl, Sum.elim_inr]
  refine ok_mono (raw_ok s t k v h ht) fun r s1 ⟨gk, gv, es, hv, _⟩ => ?_
  have rx := got_rx h hz gk gv
  have hh1 : v_hand_n s1 = 0 := by
    rw [es]
    simp only [v_hand_n, gI_sI, gI_sL, gI_sA, gI_sB, gI_sAf, gI_sBf, gL_sI, gL_sL, gL_sA, gL_sB, gL_sAf, gL_sBf, gA_sI, gA_sL, gA_sA, gA_sB, gA_sAf, gA_sBf, gB_sI, gB_sL, gB_sA, gB_sB, gB_sAf, gB_sBf, Nat.reduceEqDiff, Nat.reduceMul, Nat.reduceAdd, false_and, true_and, and_true, and_false, if_true, if_false]
    exact hh
  have e1 : gI s1 66 0 = gk ∧ gL s1 67 0 = gv := by
    rw [es]
    simp only [gI_sI, gI_sL, gI_sA, gI_sB, gI_sAf, gI_sBf, gL_sI, gL_sL, gL_sA, gL_sB, gL_sAf, gL_sBf, gA_sI, gA_sL, gA_sA, gA_sB, gA_sAf, gA_sBf, gB_sI, gB_sL, gB_sA, gB_sB, gB_sAf, gB_sBf, Nat.reduceEqDiff, Nat.reduceMul, Nat.reduceAdd, false_and, true_and, and_true, and_false, if_true, if_false]
  have hv1 : Vl false s1 gk gv := by
    rw [es]
    unfold Vl Lv at *
    simp only [f_used, a_sort, a_marked, gI_sI, gI_sL, gI_sA, gI_sB, gI_sAf, gI_sBf, gL_sI, gL_sL, gL_sA, gL_sB, gL_sAf, gL_sBf, gA_sI, gA_sL, gA_sA, gA_sB, gA_sAf, gA_sBf, gB_sI, gB_sL, gB_sA, gB_sB, gB_sAf, gB_sBf, Nat.reduceEqDiff, Nat.reduceMul, Nat.reduceAdd, false_and, true_and, and_true, and_false, if_true, if_false] at *
    exact hv
  rw [← es] at rx
  rw [e1.1, e1.2]
  exact ok_mono (give_bo s1 gk gv rx.1 rx.2.1 hh1 hv1) fun _ s2 w => w.1.pre rx
theorem getMeta_bo (s : S1) (h : q_Bi s) : ok M_Mo_getMeta s (fun _ s' => Bo s s') := by
  obtain ⟨hr, ht, hh, ha⟩ := h
  have hg := hr.1
  have hz := hr.2.1
  have fl : FL s (a_event s 21) := hr.2.2.2.1.1 21 (by decide) (by decide)
  have no : ok M_Mo_getMeta_j23 s (fun _ s' => Bo s s') := by
    simp only [M_Mo_getMeta_j23, ok_B, ok_C, ok_R, ok_L, ok_K, ok_GI, ok_GL, ok_PI, ok_PL, ok_AI, ok_AL, ok_SI, ok_SL, ok_Pr, ok_CI, cmp_lt, cmp_le, cmp_gt, cmp_ge, cmp_eq, nar0, nar1, Sum.elim_inl, Sum.elim_inr]
    exact ok_mono (give_bo s 0 0 hg hz hh (Or.inl ⟨by decide, by decide⟩)) fun _ _ w => w.1
  simp only [M_Mo_getMeta, ok_B, ok_C, ok_R, ok_L, ok_K, ok_GI, ok_GL, ok_PI, ok_PL, ok_AI, ok_AL, ok_SI, ok_SL, ok_Pr, ok_CI, cmp_lt, cmp_le, cmp_gt, cmp_ge, cmp_eq, nar0, nar1, Sum.elim_inl, Sum.elim_inr]
  refine ok_mono (is_ok s 0 5 hg (by decide)) fun v s1 ⟨c1, c2, es⟩ => ?_
  subst es
  refine ⟨fun _ => no, fun c => ok_mono (av_ok s1 0 hg (by decide)) fun v2 s2 ⟨e2, es⟩ => ?_⟩
  subst es
  have vl := ar_vl (j := 0) hg (by decide)
  rw [c2 c, ← e2] at vl
  have l5 := vl.to (by decide) (by decide)
  refine ⟨l5.b hg, fun d => ?_, fun _ => no⟩
  refine ok_mono (av_ok s2 0 hg (by decide)) fun v3 s3 ⟨e3, es⟩ => ?_
  subst es
  rw [e3, ← e2]
  have hm : Lv false s3 (a_chain s3 v2.toInt32) 5 := ((hg.1.1.1.2.2 _ l5.1 l5.2.1).2.1 l5.2.2.1).1.elim (fun z => absurd (Int32.lt_of_le_of_lt d z) Int32.lt_irrefl) id
  refine ⟨l5.b hg, ⟨by decide, by decide⟩, ok_mono (raw_ok s3 _ 4 _ hg hm) fun r s4 ⟨gk, gv, es, hv, _⟩ => ?_⟩
  have rx := got_rx hg hz gk gv
  have hh1 : v_hand_n s4 = 0 := by
    rw [es]
    simp only [v_hand_n, gI_sI, gI_sL, gI_sA, gI_sB, gI_sAf, gI_sBf, gL_sI, gL_sL, gL_sA, gL_sB, gL_sAf, gL_sBf, gA_sI, gA_sL, gA_sA, gA_sB, gA_sAf, gA_sBf, gB_sI, gB_sL, gB_sA, gB_sB, gB_sAf, gB_sBf, Nat.reduceEqDiff, Nat.reduceMul, Nat.reduceAdd, false_and, true_and, and_true, and_false, if_true, if_false]
    exact hh
  have e1 : gI s4 66 0 = gk ∧ gL s4 67 0 = gv := by
    rw [es]
    simp only [gI_sI, gI_sL, gI_sA, gI_sB, gI_sAf, gI_sBf, gL_sI, gL_sL, gL_sA, gL_sB, gL_sAf, gL_sBf, gA_sI, gA_sL, gA_sA, gA_sB, gA_sAf, gA_sBf, gB_sI, gB_sL, gB_sA, gB_sB, gB_sAf, gB_sBf, Nat.reduceEqDiff, Nat.reduceMul, Nat.reduceAdd, false_and, true_and, and_true, and_false, if_true, if_false]
  have vv : ∀ a b, Vl false s3 a b → Vl false s4 a b := fun a b w => by
    rw [es]
    unfold Vl Lv at *
    simp only [f_used, a_sort, a_marked, gI_sI, gI_sL, gI_sA, gI_sB, gI_sAf, gI_sBf, gL_sI, gL_sL, gL_sA, gL_sB, gL_sAf, gL_sBf, gA_sI, gA_sL, gA_sA, gA_sB, gA_sAf, gA_sBf, gB_sI, gB_sL, gB_sA, gB_sB, gB_sAf, gB_sBf, Nat.reduceEqDiff, Nat.reduceMul, Nat.reduceAdd, false_and, true_and, and_true, and_false, if_true, if_false] at *
    exact w
  rw [← es] at rx
  rw [e1.1, e1.2]
  exact ⟨fun _ => ok_mono (give_bo s4 5 _ rx.1 rx.2.1 hh1 (vv _ _ (Vl.of hm ⟨by decide, by decide⟩ hg.used.2))) fun _ s2 w => w.1.pre rx, fun _ => ok_mono (give_bo s4 gk gv rx.1 rx.2.1 hh1 (vv _ _ hv)) fun _ s2 w => w.1.pre rx⟩
theorem state_bo (s : S1) (h : q_Bi s) : ok M_Mo_state s (fun _ s' => Bo s s') := by
  obtain ⟨hr, ht, hh, ha⟩ := h
  have hg := hr.1
  have hz := hr.2.1
  simp only [M_Mo_state, ok_B, ok_C, ok_R, ok_L, ok_K, ok_GI, ok_GL, ok_PI, ok_PL, ok_AI, ok_AL, ok_SI, ok_SL, ok_Pr, ok_CI, cmp_lt, cmp_le, cmp_gt, cmp_ge, cmp_eq, nar0, nar1, Sum.elim_inl, Sum.elim_inr]
  refine ok_mono (is_ok s 0 7 hg (by decide)) fun v s1 ⟨c1, c2, es⟩ => ?_
  subst es
  refine ⟨fun _ => raise_bo s1 2 hg hz hh, fun c => ok_mono (av_ok s1 0 hg (by decide)) fun v2 s2 ⟨e2, es⟩ => ?_⟩
  subst es
  have vl := ar_vl (j := 0) hg (by decide)
  rw [c2 c, ← e2] at vl
  have l7 := vl.to (by decide) (by decide)
  have q := (hg.1.1.1.2.2 _ l7.1 l7.2.1).1.2.2.1 l7.2.2.1
  have pl : 0 ≤ t_place s2 (a_first s2 v2.toInt32) := by
    have := q.2.2.1
    rw [this]
    exact l7.1
  have st := hr.2.2.2.2.1.2.2.2.2.2.2.2.2.2.1 _ q.1 q.2.1 pl
  refine ⟨l7.b hg, ⟨q.1, q.2.1⟩, st, ok_mono (give_bo s2 4 _ hg hz hh (Vl.of (hr.2.2.2.1.2.2.1 _ st.1 st.2).1 ⟨by decide, by decide⟩ hg.used.2)) fun _ _ w => w.1⟩
theorem running_bo (s : S1) (h : q_Bi s) : ok M_Mo_running s (fun _ s' => Bo s s') := by
  obtain ⟨hr, ht, hh, ha⟩ := h
  have hg := hr.1
  have hz := hr.2.1
  have T := hr.2.2.2.2.1
  have pl := T.2.2.2.2.2.2.2.2.1 0 T.1.1
  have l7 := hg.1.1.2.2.2.2.2.1 _ T.1.1 T.1.2 pl
  have go : ∀ k s1, 0 ≤ k ∧ k < 4 → Bo s s1 → f_todo s1 = 2 → v_results_n s1 = 1 → ok (M_Mo_running_j36 k) s1 (fun _ s' => Bo s s') := fun k s1 hk b t n => by
    simp only [M_Mo_running_j36, ok_B, ok_C, ok_R, ok_L, ok_K, ok_GI, ok_GL, ok_PI, ok_PL, ok_AI, ok_AL, ok_SI, ok_SL, ok_Pr, ok_CI, cmp_lt, cmp_le, cmp_gt, cmp_ge, cmp_eq, nar0, nar1, Sum.elim_inl, Sum.elim_inr]
    have n' : gI s1 1282 0 = 1 := n
    refine ok_mono (add10_ok s1 k 0 b.1.1 (Or.inl hk) (by rw [n']; decide)) fun _ s2 ⟨ag, n2⟩ => ⟨b.1.trans (ag.rx (Or.inr (Or.inl rfl)) b.1.2.1), (ag.2.1 2050 0 (by decide)).trans b.2.1, Or.inr ⟨(ag.2.1 73 0 (by decide)).trans t, ?_⟩⟩
    show gI s2 1282 0 ≤ 250
    rw [n2, n']
    decide
  simp only [M_Mo_running, ok_B, ok_C, ok_R, ok_L, ok_K, ok_GI, ok_GL, ok_PI, ok_PL, ok_AI, ok_AL, ok_SI, ok_SL, ok_Pr, ok_CI, cmp_lt, cmp_le, cmp_gt, cmp_ge, cmp_eq, nar0, nar1, Sum.elim_inl, Sum.elim_inr]
  refine ⟨T.1, ok_mono (give_bo s 7 _ hg hz hh (Vl.of l7.1 ⟨by decide, by decide⟩ hg.used.2)) fun _ s1 ⟨b, t, n⟩ => ?_⟩
  have ec : gI s1 72 0 = f_current s := b.1.2.2.2.I 72 (by decide) 0
  rw [ec]
  exact ⟨T.1, ⟨by decide, by decide⟩, fun _ => go 2 s1 ⟨by decide, by decide⟩ b t n, fun _ => go 1 s1 ⟨by decide, by decide⟩ b t n⟩
theorem rawOf33_bo (s : S1) (o : Int32) (h : q_Bi s) : ok (M_Mo_rawOf_j33 o) s (fun _ s' => Bo s s') := by
  obtain ⟨hr, ht, hh, ha⟩ := h
  have hg := hr.1
  have hz := hr.2.1
  simp only [M_Mo_rawOf_j33, ok_B, ok_C, ok_R, ok_L, ok_K, ok_GI, ok_GL, ok_PI, ok_PL, ok_AI, ok_AL, ok_SI, ok_SL, ok_Pr, ok_CI, cmp_lt, cmp_le, cmp_gt, cmp_ge, cmp_eq, nar0, nar1, Sum.elim_inl, Sum.elim_inr]
  refine ok_mono (is_ok s 0 5 hg (by decide)) fun v s1 ⟨c1, c2, es⟩ => ?_
  subst es
  refine ⟨fun _ => raise_bo s1 2 hg hz hh, fun c => ok_mono (av_ok s1 0 hg (by decide)) fun v2 s2 ⟨e2, es⟩ => ?_⟩
  subst es
  have vl := ar_vl (j := 0) hg (by decide)
  rw [c2 c, ← e2] at vl
  have l5 := vl.to (by decide) (by decide)
  refine ⟨fun _ => ?_, fun _ => ⟨fun _ => ?_, fun _ => ?_⟩⟩
  · refine ok_mono (ak_ok s2 1 hg (by decide)) fun k3 s3 ⟨_, es⟩ => ?_
    subst es
    refine ok_mono (av_ok s3 1 hg (by decide)) fun v4 s4 ⟨_, es⟩ => ?_
    subst es
    have w := rawGive_bo s4 v2.toInt32 k3 v4 hg hz hh l5
    simp only [ok_B, ok_C, ok_R, ok_L, ok_K, ok_GI, ok_GL, ok_PI, ok_PL, ok_AI, ok_AL, ok_SI, ok_SL, ok_Pr, ok_CI, cmp_lt, cmp_le, cmp_gt, cmp_ge, cmp_eq, nar0, nar1, Sum.elim_inl, Sum.elim_inr] at w
    exact w
  · refine ok_mono (ak_ok s2 1 hg (by decide)) fun k3 s3 ⟨e3, es⟩ => ?_
    subst es
    refine ok_mono (av_ok s3 1 hg (by decide)) fun v4 s4 ⟨e4, es⟩ => ?_
    subst es
    refine ok_mono (ak_ok s4 2 hg (by decide)) fun k5 s5 ⟨e5, es⟩ => ?_
    subst es
    refine ok_mono (av_ok s5 2 hg (by decide)) fun v6 s6 ⟨e6, es⟩ => ?_
    subst es
    have p := (put_ok s6 v2.toInt32 k3 k5 0 v4 v6 hg l5 (by rw [e3, e4]; exact ar_vl hg (by decide)) (by rw [e5, e6]; exact ar_vl hg (by decide)) (by rw [hh]; decide) (Or.inl hz)).and (put_er s6 v2.toInt32 k3 k5 v4 v6)
    refine ok_mono p fun r s7 ⟨⟨nx, _, hn, _⟩, er⟩ => ?_
    have rx := nx.rx hz
    have hh7 : v_hand_n s7 = 0 := hn.trans hh
    have l57 : Lv false s7 v2.toInt32 5 := by
      have vl7 := ar_vl (s := s7) (j := 0) rx.1 (by decide)
      have f1 : akv s7 0 = akv s6 0 := by
        unfold akv
        rw [nx.2.1.I 898 (by decide), nx.2.1.2.2.1 8 0 0 (by decide)]
      have f2 : avv s7 0 = avv s6 0 := by
        unfold avv
        rw [nx.2.1.I 898 (by decide), nx.2.1.2.2.2 9 0 0 (by decide)]
      rw [f1, f2, c2 c, ← e2] at vl7
      exact vl7.to (by decide) (by decide)
    exact ⟨fun d => ⟨rx, hh7, Or.inl (er d)⟩, fun _ => ok_mono (give_bo s7 5 _ rx.1 rx.2.1 hh7 (Vl.of l57 ⟨by decide, by decide⟩ rx.1.used.2)) fun _ _ w => w.1.pre rx⟩
  · refine ok_mono (q_border_ok s2 v2.toInt32 hg l5) fun b s3 ⟨gk, gv, es⟩ => ?_
    have rx := got_rx hg hz gk gv
    rw [← es] at rx
    have hh3 : v_hand_n s3 = 0 := by
      rw [es]
      simp only [v_hand_n, gI_sI, gI_sL, gI_sA, gI_sB, gI_sAf, gI_sBf, gL_sI, gL_sL, gL_sA, gL_sB, gL_sAf, gL_sBf, gA_sI, gA_sL, gA_sA, gA_sB, gA_sAf, gA_sBf, gB_sI, gB_sL, gB_sA, gB_sB, gB_sAf, gB_sBf, Nat.reduceEqDiff, Nat.reduceMul, Nat.reduceAdd, false_and, true_and, and_true, and_false, if_true, if_false]
      exact hh
    exact ok_mono (give_bo s3 3 b rx.1 rx.2.1 hh3 (Or.inl ⟨by decide, by decide⟩)) fun _ _ w => w.1.pre rx
theorem rawOf_bo (s : S1) (o : Int32) (h : q_Bi s) : ok (M_Mo_rawOf o) s (fun _ s' => Bo s s') := by
  have h0 := h
  obtain ⟨hr, ht, hh, ha⟩ := h
  have hg := hr.1
  simp only [M_Mo_rawOf, ok_B, ok_C, ok_R, ok_L, ok_K, ok_GI, ok_GL, ok_PI, ok_PL, ok_AI, ok_AL, ok_SI, ok_SL, ok_Pr, ok_CI, cmp_lt, cmp_le, cmp_gt, cmp_ge, cmp_eq, nar0, nar1, Sum.elim_inl, Sum.elim_inr]
  refine ⟨fun _ => ok_mono (is_ok s 0 4 hg (by decide)) fun v s1 ⟨c1, c2, es⟩ => ?_, fun _ => rawOf33_bo s o h0⟩
  subst es
  refine ⟨fun _ => rawOf33_bo s1 o h0, fun c => ok_mono (av_ok s1 0 hg (by decide)) fun v2 s2 ⟨e2, es⟩ => ?_⟩
  subst es
  have vl := ar_vl (j := 0) hg (by decide)
  rw [c2 c, ← e2] at vl
  have l4 := vl.to (by decide) (by decide)
  exact ⟨l4.b hg, ok_mono (give_bo s2 3 _ hg hr.2.1 hh (Or.inl ⟨by decide, by decide⟩)) fun _ _ w => w.1⟩
