/-! What is built in; calls. -/
theorem create_oz (s : S1) (k : Int32) (h : q_Bi s) : ok (M_Mo_builtIn_j344 k) s (fun _ s' => Oz s s') := by
  unfold M_Mo_builtIn_j344
  rw [ok_B]
  refine ok_mono (create_dv s k h) fun _ s1 ⟨dv, m⟩ => ?_
  simp only [M_Mo_builtIn_j388, ok_B, ok_C, ok_R, ok_L, ok_K, ok_GI, ok_GL, ok_PI, ok_PL, ok_AI, ok_AL, ok_SI, ok_SL, ok_Pr, ok_CI, cmp_lt, cmp_le, cmp_gt, cmp_ge, cmp_eq, nar0, nar1, Sum.elim_inl, Sum.elim_inr]
  exact Oz.bo dv.1 (j388_bo ⟨Rx.refl dv.1.1 dv.1.2.1, dv.2⟩) m
theorem builtIn_ok (s : S1) (l : Int32) (h : q_Bi s) (ho : 0 ≤ gI s 95 0) : ok (M_Mo_builtIn l) s (fun _ s' => Oz s s') := by
  have B : ∀ {f : M Unit}, ok f s (fun _ s' => Bo s s') → ok f s (fun _ s' => Oz s s') := fun w => ok_mono w fun _ _ b => Oz.bo h.1 b (Nat.le_refl _)
  have P : ∀ {f : M Unit}, ok f s (fun _ s' => Bo s s' ∨ Bp s s') → ok (oB f fun _ => oR ()) s (fun _ s' => Oz s s') := fun w => by
    rw [ok_B]
    refine ok_mono w fun _ _ b => ?_
    rw [ok_R]
    exact b.elim (fun b => Oz.bo h.1 b (Nat.le_refl _)) (fun b => Oz.bp h.1 b)
  have Z : ∀ {f : M Unit}, ok f s (fun _ s' => Oz s s') → ok (oB f fun _ => oR ()) s (fun _ s' => Oz s s') := fun w => by
    rw [ok_B]
    refine ok_mono w fun _ _ b => ?_
    rw [ok_R]
    exact b
  unfold M_Mo_builtIn
  rw [ok_C]
  refine ⟨fun _ => B (ok_388 (ok_mono (print_bo s h ho) fun _ _ w => w.1)), fun _ => ?_⟩
  rw [ok_C]
  refine ⟨fun _ => P (tostring_bo s h), fun _ => ?_⟩
  rw [ok_C]
  refine ⟨fun _ => B (type_bo s h), fun _ => ?_⟩
  rw [ok_C]
  refine ⟨fun _ => B (error_bo s h), fun _ => ?_⟩
  rw [ok_C]
  refine ⟨fun _ => P (pcall_bo s h), fun _ => ?_⟩
  rw [ok_C]
  refine ⟨fun _ => B (ok_388 (setMeta_bo s h)), fun _ => ?_⟩
  rw [ok_C]
  refine ⟨fun _ => B (ok_388 (getMeta_bo s h)), fun _ => ?_⟩
  rw [ok_C]
  refine ⟨fun _ => B (ok_388 (rawOf_bo s l h)), fun _ => ?_⟩
  rw [ok_C]
  refine ⟨fun _ => B (rawequal_bo s h), fun _ => ?_⟩
  rw [ok_C]
  refine ⟨fun _ => B (ok_388 (next_bo s h)), fun _ => ?_⟩
  rw [ok_C]
  refine ⟨fun _ => B (ok_388 (select_bo s h)), fun _ => ?_⟩
  rw [ok_C]
  refine ⟨fun _ => B (ok_388 (sub_bo s h)), fun _ => ?_⟩
  rw [ok_C]
  refine ⟨fun _ => B (ok_388 (byteOf_bo s h)), fun _ => ?_⟩
  rw [ok_C]
  refine ⟨fun _ => B (ok_388 (characters_bo s h)), fun _ => ?_⟩
  rw [ok_C]
  refine ⟨fun _ => B (len_bo s h), fun _ => ?_⟩
  rw [ok_C]
  refine ⟨fun _ => ?_, fun _ => ?_⟩
  · rw [ok_C]
    exact ⟨fun _ => create_oz s 1 h, fun _ => create_oz s 0 h⟩
  rw [ok_C]
  refine ⟨fun _ => Z (resume_oz s h), fun _ => ?_⟩
  rw [ok_C]
  refine ⟨fun _ => Z (giveWay_oz s h), fun _ => ?_⟩
  rw [ok_C]
  refine ⟨fun _ => B (ok_388 (state_bo s h)), fun _ => ?_⟩
  rw [ok_C]
  exact ⟨fun _ => B (ok_388 (running_bo s h)), fun _ => B (collect_bo s h)⟩
theorem Oz.called {b s : S1} (h : Oz b s) : Oz b (sI s 75 0 0) := by
  obtain ⟨⟨g, nc, hh, w⟩, t0, m⟩ := h
  have rx : Rx s (sI s 75 0 0) := Rx.hy (g.callK ⟨by decide, by decide⟩) ((Hy.refl s).sI (by decide)) nc
  have fr : ∀ τ, Fr τ s → Fr τ (sI s 75 0 0) := fun τ k => k.fe (rx.2.2.1 k.2.2.1)
  have et : f_todo (sI s 75 0 0) = f_todo s := by simp only [f_todo, gI_sI, gI_sL, gI_sA, gI_sB, gI_sAf, gI_sBf, gL_sI, gL_sL, gL_sA, gL_sB, gL_sAf, gL_sBf, gA_sI, gA_sL, gA_sA, gA_sB, gA_sAf, gA_sBf, gB_sI, gB_sL, gB_sA, gB_sB, gB_sAf, gB_sBf, Nat.reduceEqDiff, Nat.reduceMul, Nat.reduceAdd, false_and, true_and, and_true, and_false, if_true, if_false]
  have eh : v_hand_n (sI s 75 0 0) = v_hand_n s := by simp only [v_hand_n, gI_sI, gI_sL, gI_sA, gI_sB, gI_sAf, gI_sBf, gL_sI, gL_sL, gL_sA, gL_sB, gL_sAf, gL_sBf, gA_sI, gA_sL, gA_sA, gA_sB, gA_sAf, gA_sBf, gB_sI, gB_sL, gB_sA, gB_sB, gB_sAf, gB_sBf, Nat.reduceEqDiff, Nat.reduceMul, Nat.reduceAdd, false_and, true_and, and_true, and_false, if_true, if_false]
  have ea : v_args_n (sI s 75 0 0) = v_args_n s := by simp only [v_args_n, gI_sI, gI_sL, gI_sA, gI_sB, gI_sAf, gI_sBf, gL_sI, gL_sL, gL_sA, gL_sB, gL_sAf, gL_sBf, gA_sI, gA_sL, gA_sA, gA_sB, gA_sAf, gA_sBf, gB_sI, gB_sL, gB_sA, gB_sB, gB_sAf, gB_sBf, Nat.reduceEqDiff, Nat.reduceMul, Nat.reduceAdd, false_and, true_and, and_true, and_false, if_true, if_false]
  have er : v_results_n (sI s 75 0 0) = v_results_n s := by simp only [v_results_n, gI_sI, gI_sL, gI_sA, gI_sB, gI_sAf, gI_sBf, gL_sI, gL_sL, gL_sA, gL_sB, gL_sAf, gL_sBf, gA_sI, gA_sL, gA_sA, gA_sB, gA_sAf, gA_sBf, gB_sI, gB_sL, gB_sA, gB_sB, gB_sAf, gB_sBf, Nat.reduceEqDiff, Nat.reduceMul, Nat.reduceAdd, false_and, true_and, and_true, and_false, if_true, if_false]
  refine ⟨⟨rx.1, rx.2.1, by rw [eh]; exact hh, ?_⟩, by rw [et]; exact t0, ?_⟩
  · rw [et, ea, er]
    rcases w with w | w | w | w
    · exact absurd w.1 t0
    · exact Or.inr (Or.inl ⟨w.1, fr _ w.2⟩)
    · exact Or.inr (Or.inr (Or.inl ⟨w.1, fr _ w.2.1, w.2.2⟩))
    · exact Or.inr (Or.inr (Or.inr ⟨w.1, fr _ w.2.1, w.2.2⟩))
  · rw [et, rx.ms.1, rx.ms.2]
    exact m
theorem Oc.pre {a b s : S1} (h : Oc b s) (m : jA b = jA a ∧ sF b = sF a) : Oc a s := by
  unfold Oc at *
  rw [← m.1, ← m.2]
  exact h
theorem Oz.pre {a b s : S1} (h : Oz b s) (m : jA b = jA a ∧ sF b = sF a) : Oz a s := by
  unfold Oz at *
  rw [← m.1, ← m.2]
  exact h
theorem call_ok (s : S1) (h : Out s) (hd : f_todo s = 1) (ho : 0 ≤ gI s 95 0) (kp : ht (oW M_Mo_call_L7 0) (sI s 73 0 0) (fun _ s' => gI s' 95 0 = gI (sI s 73 0 0) 95 0)) : ok M_Mo_call s (fun _ s' => Oc s s') := by
  obtain ⟨g, nc, hh, w⟩ := h
  have w' : Fr true s ∧ v_args_n s ≤ 250 := by
    rcases w with w | w | w | w
    · exact absurd (w.1.symm.trans hd) (by decide)
    · rcases w.1 with q | q <;> exact absurd (q.symm.trans hd) (by decide)
    · exact w.2
    · exact absurd (w.1.symm.trans hd) (by decide)
  clear w
  obtain ⟨fr, ha⟩ := w'
  have r : RI true s := ⟨g, nc, fr⟩
  unfold M_Mo_call
  rw [ok_B, ok_PI]
  have rx0 := todo_rx g nc 0
  have r0 := r.rx rx0
  have h0 : v_hand_n (sI s 73 0 0) = 0 := by
    simp only [v_hand_n, gI_sI, gI_sL, gI_sA, gI_sB, gI_sAf, gI_sBf, gL_sI, gL_sL, gL_sA, gL_sB, gL_sAf, gL_sBf, gA_sI, gA_sL, gA_sA, gA_sB, gA_sAf, gA_sBf, gB_sI, gB_sL, gB_sA, gB_sB, gB_sAf, gB_sBf, Nat.reduceEqDiff, Nat.reduceMul, Nat.reduceAdd, false_and, true_and, and_true, and_false, if_true, if_false]
    exact hh
  have a0 : v_args_n (sI s 73 0 0) ≤ 250 := by
    simp only [v_args_n, gI_sI, gI_sL, gI_sA, gI_sB, gI_sAf, gI_sBf, gL_sI, gL_sL, gL_sA, gL_sB, gL_sAf, gL_sBf, gA_sI, gA_sL, gA_sA, gA_sB, gA_sAf, gA_sBf, gB_sI, gB_sL, gB_sA, gB_sB, gB_sAf, gB_sBf, Nat.reduceEqDiff, Nat.reduceMul, Nat.reduceAdd, false_and, true_and, and_true, and_false, if_true, if_false]
    exact ha
  have t0 : f_todo (sI s 73 0 0) = 0 := by simp only [f_todo, gI_sI, gI_sL, gI_sA, gI_sB, gI_sAf, gI_sBf, gL_sI, gL_sL, gL_sA, gL_sB, gL_sAf, gL_sBf, gA_sI, gA_sL, gA_sA, gA_sB, gA_sAf, gA_sBf, gB_sI, gB_sL, gB_sA, gB_sB, gB_sAf, gB_sBf, Nat.reduceEqDiff, Nat.reduceMul, Nat.reduceAdd, false_and, true_and, and_true, and_false, if_true, if_false]
  have o0 : 0 ≤ gI (sI s 73 0 0) 95 0 := by
    simp only [gI_sI, gI_sL, gI_sA, gI_sB, gI_sAf, gI_sBf, gL_sI, gL_sL, gL_sA, gL_sB, gL_sAf, gL_sBf, gA_sI, gA_sL, gA_sA, gA_sB, gA_sAf, gA_sBf, gB_sI, gB_sL, gB_sA, gB_sB, gB_sAf, gB_sBf, Nat.reduceEqDiff, Nat.reduceMul, Nat.reduceAdd, false_and, true_and, and_true, and_false, if_true, if_false]
    exact ho
  generalize sI s 73 0 0 = s0 at *
  rw [ok_B]
  refine ok_mono ((callL7_ok s0 r0 h0 a0).and kp) fun y s1 ⟨⟨rx1, h1, t1, k1⟩, e95⟩ => ?_
  have r1 := r0.rx rx1
  have m1 : jA s1 = jA s ∧ sF s1 = sF s := ⟨rx1.ms.1.trans rx0.ms.1, rx1.ms.2.trans rx0.ms.2⟩
  have rx2 : Rx s1 (sI s1 75 0 0) := Rx.hy (r1.1.callK ⟨by decide, by decide⟩) ((Hy.refl s1).sI (by decide)) r1.2.1
  have r2 := r1.rx rx2
  have m2 : jA (sI s1 75 0 0) = jA s ∧ sF (sI s1 75 0 0) = sF s := ⟨rx2.ms.1.trans m1.1, rx2.ms.2.trans m1.2⟩
  have h2 : gI (sI s1 75 0 0) 2050 0 = 0 := by
    simp only [gI_sI, gI_sL, gI_sA, gI_sB, gI_sAf, gI_sBf, gL_sI, gL_sL, gL_sA, gL_sB, gL_sAf, gL_sBf, gA_sI, gA_sL, gA_sA, gA_sB, gA_sAf, gA_sBf, gB_sI, gB_sL, gB_sA, gB_sB, gB_sAf, gB_sBf, Nat.reduceEqDiff, Nat.reduceMul, Nat.reduceAdd, false_and, true_and, and_true, and_false, if_true, if_false]
    exact h1
  have bad : ∀ n, ok (oB (oPI 75 0 0) fun _ => oB (M_Mo_raise n) fun _ => oR ()) s1 (fun _ s' => Oc s s') := fun n => by
    simp only [ok_B, ok_C, ok_R, ok_L, ok_K, ok_GI, ok_GL, ok_PI, ok_PL, ok_AI, ok_AL, ok_SI, ok_SL, ok_Pr, ok_CI, cmp_lt, cmp_le, cmp_gt, cmp_ge, cmp_eq, nar0, nar1, Sum.elim_inl, Sum.elim_inr]
    exact ok_mono (raise_bo (sI s1 75 0 0) n r2.1 r2.2.1 h2) fun _ s' b => (Oz.bo r2 b (Nat.le_of_eq m2.1)).oc
  rcases y with y | y | y
  · exact bad 1
  · exact bad 4
  · simp only [Sum.elim_inr]
    have k6 := k1 rfl
    have vl : Vl false s1 6 (gL s1 76 0) := by
      have q : Vl false s1 (gI s1 75 0) (gL s1 76 0) := r1.1.2.2.2.1.2.2.2.2.2.2.2.2.2
      rw [k6] at q
      exact q
    have t1' : f_todo s1 = 0 := t1.trans t0
    rw [ok_B, ok_GI, ok_C]
    refine ⟨fun ca => ?_, fun _ => ?_⟩
    · rw [ok_B, ok_GL, ok_C]
      refine ⟨fun cv => ?_, fun _ => ?_⟩
      · simp only [cmp_ge] at cv
        have lv : Lv false s1 (gL s1 76 0).toInt32 6 := by
          rcases vl with q | q | q
          · exact absurd q.2 (by decide)
          · exact absurd (Int64.lt_of_le_of_lt cv q.2.2) Int64.lt_irrefl
          · exact q.2.2.2.2
        rw [ok_B, ok_GL, ok_B, ok_PI, ok_B, ok_AI]
        have lv2 : Lv false (sI s1 75 0 0) (gL s1 76 0).toInt32 6 := by
          unfold Lv at *
          simp only [f_used, a_sort, a_marked, gI_sI, gI_sL, gI_sA, gI_sB, gI_sAf, gI_sBf, gL_sI, gL_sL, gL_sA, gL_sB, gL_sAf, gL_sBf, gA_sI, gA_sL, gA_sA, gA_sB, gA_sAf, gA_sBf, gB_sI, gB_sL, gB_sA, gB_sB, gB_sAf, gB_sBf, Nat.reduceEqDiff, Nat.reduceMul, Nat.reduceAdd, false_and, true_and, and_true, and_false, if_true, if_false] at *
          exact lv
        have a2 : v_args_n (sI s1 75 0 0) ≤ 250 := by
          simp only [v_args_n, gI_sI, gI_sL, gI_sA, gI_sB, gI_sAf, gI_sBf, gL_sI, gL_sL, gL_sA, gL_sB, gL_sAf, gL_sBf, gA_sI, gA_sL, gA_sA, gA_sB, gA_sAf, gA_sBf, gB_sI, gB_sL, gB_sA, gB_sB, gB_sAf, gB_sBf, Nat.reduceEqDiff, Nat.reduceMul, Nat.reduceAdd, false_and, true_and, and_true, and_false, if_true, if_false]
          exact ca
        have t2 : f_todo (sI s1 75 0 0) = 0 := by
          simp only [f_todo, gI_sI, gI_sL, gI_sA, gI_sB, gI_sAf, gI_sBf, gL_sI, gL_sL, gL_sA, gL_sB, gL_sAf, gL_sBf, gA_sI, gA_sL, gA_sA, gA_sB, gA_sAf, gA_sBf, gB_sI, gB_sL, gB_sA, gB_sB, gB_sAf, gB_sBf, Nat.reduceEqDiff, Nat.reduceMul, Nat.reduceAdd, false_and, true_and, and_true, and_false, if_true, if_false]
          exact t1'
        generalize (gL s1 76 0).toInt32 = x at *
        generalize sI s1 75 0 0 = s2 at *
        refine ⟨lv2.b r2.1, ?_⟩
        rw [ok_C]
        refine ⟨fun cf => ?_, fun cf => ?_⟩
        · rw [ok_B]
          refine ok_mono (q_enter_ok s2 x r2 h2 t2 a2 lv2 cf) fun _ s3 oc => ?_
          rw [ok_R]
          exact oc.pre m2
        · have l7 := ((r2.1.1.1.1.2.2 x lv2.1 lv2.2.1).2.2.1 lv2.2.2.1).1 (Int32.not_le.mp cf)
          have sh := (r2.1.1.1.1.2.2 _ l7.1 l7.2.1).1.2.2.1 l7.2.2.1
          simp only [ok_B, ok_C, ok_R, ok_L, ok_K, ok_GI, ok_GL, ok_PI, ok_PL, ok_AI, ok_AL, ok_SI, ok_SL, ok_Pr, ok_CI, cmp_lt, cmp_le, cmp_gt, cmp_ge, cmp_eq, nar0, nar1, Sum.elim_inl, Sum.elim_inr]
          refine ⟨lv2.b r2.1, l7.b r2.1, ⟨sh.1, sh.2.1⟩, lv2.b r2.1, ?_⟩
          refine ok_mono (goesOn_ok s2 _ _ 3 x 0 r2 h2 a2 ⟨sh.1, sh.2.1⟩ l7.1 (Or.inr rfl) (fun _ => lv2) ⟨Or.inl rfl, r2.1.2.2.2.1.2.1.1⟩) fun _ s3 oz => ?_
          exact (oz.pre m2).oc
      · rw [ok_B, ok_GL, ok_B]
        refine ok_mono (builtIn_ok s1 _ ⟨r1, t1', h1, ca⟩ (by rw [e95]; exact o0)) fun _ s3 oz => ?_
        have oz' := oz.pre m1
        simp only [ok_B, ok_C, ok_R, ok_L, ok_K, ok_GI, ok_GL, ok_PI, ok_PL, ok_AI, ok_AL, ok_SI, ok_SL, ok_Pr, ok_CI, cmp_lt, cmp_le, cmp_gt, cmp_ge, cmp_eq, nar0, nar1, Sum.elim_inl, Sum.elim_inr]
        exact ⟨fun _ => oz'.oc, fun _ => oz'.called.oc⟩
    · simp only [ok_B, ok_C, ok_R, ok_L, ok_K, ok_GI, ok_GL, ok_PI, ok_PL, ok_AI, ok_AL, ok_SI, ok_SL, ok_Pr, ok_CI, cmp_lt, cmp_le, cmp_gt, cmp_ge, cmp_eq, nar0, nar1, Sum.elim_inl, Sum.elim_inr]
      have ag := zero7 r2.1
      have rx3 := ag.rx (Or.inl rfl) r2.2.1
      have r3 := r2.rx rx3
      have h3 : gI (sI (sI s1 75 0 0) 898 0 0) 2050 0 = 0 := (ag.2.1 2050 0 (by decide)).trans h2
      generalize sI (sI s1 75 0 0) 898 0 0 = z at *
      exact ok_mono (raise_bo z 7 r3.1 r3.2.1 h3) fun _ s' b => (Oz.bo r3 b (Nat.le_of_eq (rx3.ms.1.trans m2.1))).oc
