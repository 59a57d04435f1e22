/-! From what was built in back to the machine; frames that are no function's are popped. -/
theorem Fr.weak {s : S1} (h : Fr true s) : Fr false s := by
  obtain ⟨h1, h2, h3, h4⟩ := h
  refine ⟨h1, h2, h3, fun t a b c f d e => ?_⟩
  obtain ⟨k1, k2⟩ := h4 t a b c f d e
  exact ⟨k1, fun z => ⟨(k2 z).1, fun _ => (k2 z).2 (Or.inr (Or.inr rfl))⟩⟩
theorem RI.weak {s : S1} (h : RI true s) : RI false s := ⟨h.1, h.2.1, h.2.2.weak⟩
theorem Bo.out {s s' : S1} (h : RI true s) (b : Bo s s') : Out s' := by
  obtain ⟨rx, hh, w⟩ := b
  have r := h.rx rx
  rcases w with w | w
  · exact ⟨r.1, r.2.1, hh, Or.inr (Or.inl ⟨w, r.2.2.weak⟩)⟩
  · exact ⟨r.1, r.2.1, hh, Or.inr (Or.inr (Or.inr ⟨w.1, r.2.2, w.2⟩))⟩
theorem Bp.out {s s' : S1} (b : Bp s s') : Out s' := ⟨b.1.1, b.1.2.1, b.2.1, Or.inr (Or.inr (Or.inl ⟨b.2.2.1, b.1.2.2, b.2.2.2.1⟩))⟩
theorem called_bo {s s' : S1} (h : Bo s s') : Bo s (sI s' 75 0 0) := by
  have rx : Rx s' (sI s' 75 0 0) := Rx.hy (h.1.1.callK ⟨by decide, by decide⟩) ((Hy.refl s').sI (by decide)) h.1.2.1
  refine ⟨h.1.trans rx, ?_, ?_⟩
  · simp only [v_hand_n, gI_sI, gI_sL, gI_sA, gI_sB, gI_sAf, gI_sBf, gL_sI, gL_sL, gL_sA, gL_sB, gL_sAf, gL_sBf, gA_sI, gA_sL, gA_sA, gA_sB, gA_sAf, gA_sBf, gB_sI, gB_sL, gB_sA, gB_sB, gB_sAf, gB_sBf, Nat.reduceEqDiff, Nat.reduceMul, Nat.reduceAdd, false_and, true_and, and_true, and_false, if_true, if_false]
    exact h.2.1
  · have w := h.2.2
    unfold Er at *
    simp only [f_todo, v_results_n, gI_sI, gI_sL, gI_sA, gI_sB, gI_sAf, gI_sBf, gL_sI, gL_sL, gL_sA, gL_sB, gL_sAf, gL_sBf, gA_sI, gA_sL, gA_sA, gA_sB, gA_sAf, gA_sBf, gB_sI, gB_sL, gB_sA, gB_sB, gB_sAf, gB_sBf, Nat.reduceEqDiff, Nat.reduceMul, Nat.reduceAdd, false_and, true_and, and_true, and_false, if_true, if_false] at *
    exact w
/-- the top frame goes; all others wait -/
theorem RI.popT {s : S1} (h : RI true s) (h0 : 0 ≤ tp s) : RI true (sI s 3586 (cu s) (tp s)) := by
  have hw := h.weak
  have hc := h.2.2.2.2.1.1
  have hpl : 0 ≤ t_place s (cu s) := h.2.2.2.2.1.2.2.2.2.2.2.2.2.1 0 hc.1
  obtain ⟨⟨q1, q2, q3, q4⟩, -⟩ := h.1.thr hc hpl
  obtain ⟨n1, n2, n3, n4⟩ := tp_num q2 h0
  refine ⟨h.1.th (pop_th h.1 hc hpl h0 fun a k => ?_), h.2.1, Fr.pop hw h0⟩
  have lt : tp s - 1 < t_frames s (cu s) := n3 _ (n4 _ rfl)
  have fi := h.2.2.2.2.2 (cu s) hc.1 hc.2 hpl (tp s - 1) a lt
  exact ((fi.2 k).2 (Or.inr (Or.inr rfl))).2.2.1
theorem shiftR_ok (s : S1) (h : GG s) (hn : gI s 1282 0 < 400) : ok (oW M_Mo_deliver_L126 (gI s 1282 0)) s (fun _ s' => Ag 10 s s' ∧ gI s' 1282 0 = gI s 1282 0 ∧ ∀ j, 0 < j → j ≤ gI s 1282 0 → Vl false s (gA s' 11 0 j) (gB s' 12 0 j)) := by
  have ha := h.2.2.2.1.2.2.1
  refine ok_W (fun y s' => (0 ≤ y ∧ y ≤ gI s 1282 0) ∧ Ag 10 s s' ∧ gI s' 1282 0 = gI s 1282 0 ∧ ∀ j, y < j → j ≤ gI s 1282 0 → Vl false s (gA s' 11 0 j) (gB s' 12 0 j)) (fun y _ => y.toNatClampNeg) ?_ (gI s 1282 0) s ⟨⟨ha.1, Int32.le_refl _⟩, Ag.refl 10 h, rfl, fun j a b => absurd (Int32.lt_of_lt_of_le a b) Int32.lt_irrefl⟩
  rintro i s1 ⟨⟨i0, i1⟩, ag, e, hj⟩
  simp only [M_Mo_deliver_L126, ok_B, ok_C, ok_R, ok_L, ok_K, ok_GI, ok_GL, ok_PI, ok_PL, ok_AI, ok_AL, ok_SI, ok_SL, ok_Pr, ok_CI, cmp_lt, cmp_le, cmp_gt, cmp_ge, cmp_eq, nar0, nar1, Sum.elim_inl, Sum.elim_inr]
  refine ⟨fun c => ⟨ag, e, fun j a b => hj j (Int32.lt_of_le_of_lt c a) b⟩, fun c => ?_⟩
  obtain ⟨n1, n2, n3, n4, n5, n6⟩ := up_num i0 i1 hn c
  have vi : Vl false s1 (gA s1 11 0 (i - 1)) (gB s1 12 0 (i - 1)) := ag.1.2.2.2.1.2.2.2.2.2.2.1 (i - 1) n2.1 (by show i - 1 < gI s1 1282 0; rw [e]; exact n3)
  refine ok_mono (setAA_ok s1 10 10 0 (i - 1) (Or.inr (Or.inl rfl)) i ag.1 n1 ⟨n2.1, n2.2, n2.2⟩ vi) fun _ s2 ⟨ag2, es⟩ => ⟨⟨⟨n4, n5⟩, ag.trans ag2, ?_, fun j a b => ?_⟩, n6⟩
  · rw [es]
    simp only [gI_sI, gI_sL, gI_sA, gI_sB, gI_sAf, gI_sBf, gL_sI, gL_sL, gL_sA, gL_sB, gL_sAf, gL_sBf, gA_sI, gA_sL, gA_sA, gA_sB, gA_sAf, gA_sBf, gB_sI, gB_sL, gB_sA, gB_sB, gB_sAf, gB_sBf, Nat.reduceEqDiff, Nat.reduceMul, Nat.reduceAdd, false_and, true_and, and_true, and_false, if_true, if_false]
    exact e
  · rcases up_split c a with q | ⟨q, q2⟩
    · rw [q, es]
      simp only [Nat.reduceAdd, gI_sI, gI_sL, gI_sA, gI_sB, gI_sAf, gI_sBf, gL_sI, gL_sL, gL_sA, gL_sB, gL_sAf, gL_sBf, gA_sI, gA_sL, gA_sA, gA_sB, gA_sAf, gA_sBf, gB_sI, gB_sL, gB_sA, gB_sB, gB_sAf, gB_sBf, Nat.reduceEqDiff, Nat.reduceMul, Nat.reduceAdd, false_and, true_and, and_true, and_false, if_true, if_false]
      exact (Vl.hs ag.h10).mp vi
    · rw [es]
      simp only [Nat.reduceAdd, gI_sI, gI_sL, gI_sA, gI_sB, gI_sAf, gI_sBf, gL_sI, gL_sL, gL_sA, gL_sB, gL_sAf, gL_sBf, gA_sI, gA_sL, gA_sA, gA_sB, gA_sAf, gA_sBf, gB_sI, gB_sL, gB_sA, gB_sB, gB_sAf, gB_sBf, Nat.reduceEqDiff, Nat.reduceMul, Nat.reduceAdd, false_and, true_and, and_true, and_false, if_true, if_false, q]
      exact hj j q2 b
/-- results are handed on -/
def Dv (s s' : S1) : Prop := RI true s' ∧ v_hand_n s' = 0 ∧ (Er s' ∨ (f_todo s' = 2 ∧ v_results_n s' ≤ 250))
theorem Dv.bo {s s1 s' : S1} (h : RI true s1) (b : Bo s1 s') : Dv s s' := ⟨h.rx b.1, b.2⟩
theorem Dv.out {s s' : S1} (h : Dv s s') : Out s' := Bo.out h.1 ⟨Rx.refl h.1.1 h.1.2.1, h.2⟩
theorem deliver3_ok (s : S1) (h : RI true s) (hh : v_hand_n s = 0) (hr : v_results_n s ≤ 250) (h0 : 0 ≤ tp s) : ok (oB (oPI 3586 (cu s) (tp s)) fun _ => oB (oPI 73 0 2) fun _ => oR ()) s (fun _ s' => Dv s s') := by
  simp only [ok_B, ok_C, ok_R, ok_L, ok_K, ok_GI, ok_GL, ok_PI, ok_PL, ok_AI, ok_AL, ok_SI, ok_SL, ok_Pr, ok_CI, cmp_lt, cmp_le, cmp_gt, cmp_ge, cmp_eq, nar0, nar1, Sum.elim_inl, Sum.elim_inr]
  have r := h.popT h0
  have h1 : v_hand_n (sI s 3586 (cu s) (tp s)) = 0 := by
    simp only [v_hand_n, gI_sI, gI_sL, gI_sA, gI_sB, gI_sAf, gI_sBf, gL_sI, gL_sL, gL_sA, gL_sB, gL_sAf, gL_sBf, gA_sI, gA_sL, gA_sA, gA_sB, gA_sAf, gA_sBf, gB_sI, gB_sL, gB_sA, gB_sB, gB_sAf, gB_sBf, Nat.reduceEqDiff, Nat.reduceMul, Nat.reduceAdd, false_and, true_and, and_true, and_false, if_true, if_false]
    exact hh
  have r1 : v_results_n (sI s 3586 (cu s) (tp s)) ≤ 250 := by
    simp only [v_results_n, gI_sI, gI_sL, gI_sA, gI_sB, gI_sAf, gI_sBf, gL_sI, gL_sL, gL_sA, gL_sB, gL_sAf, gL_sBf, gA_sI, gA_sL, gA_sA, gA_sB, gA_sAf, gA_sBf, gB_sI, gB_sL, gB_sA, gB_sB, gB_sAf, gB_sBf, Nat.reduceEqDiff, Nat.reduceMul, Nat.reduceAdd, false_and, true_and, and_true, and_false, if_true, if_false]
    exact hr
  generalize sI s 3586 (cu s) (tp s) = z at *
  have rx := todo_rx r.1 r.2.1 2
  refine ⟨r.rx rx, ?_, Or.inr ⟨?_, ?_⟩⟩
  · simp only [v_hand_n, gI_sI, gI_sL, gI_sA, gI_sB, gI_sAf, gI_sBf, gL_sI, gL_sL, gL_sA, gL_sB, gL_sAf, gL_sBf, gA_sI, gA_sL, gA_sA, gA_sB, gA_sAf, gA_sBf, gB_sI, gB_sL, gB_sA, gB_sB, gB_sAf, gB_sBf, Nat.reduceEqDiff, Nat.reduceMul, Nat.reduceAdd, false_and, true_and, and_true, and_false, if_true, if_false]
    exact h1
  · simp only [f_todo, gI_sI, gI_sL, gI_sA, gI_sB, gI_sAf, gI_sBf, gL_sI, gL_sL, gL_sA, gL_sB, gL_sAf, gL_sBf, gA_sI, gA_sL, gA_sA, gA_sB, gA_sAf, gA_sBf, gB_sI, gB_sL, gB_sA, gB_sB, gB_sAf, gB_sBf, Nat.reduceEqDiff, Nat.reduceMul, Nat.reduceAdd, false_and, true_and, and_true, and_false, if_true, if_false]
  · simp only [v_results_n, gI_sI, gI_sL, gI_sA, gI_sB, gI_sAf, gI_sBf, gL_sI, gL_sL, gL_sA, gL_sB, gL_sAf, gL_sBf, gA_sI, gA_sL, gA_sA, gA_sB, gA_sAf, gA_sBf, gB_sI, gB_sL, gB_sA, gB_sB, gB_sAf, gB_sBf, Nat.reduceEqDiff, Nat.reduceMul, Nat.reduceAdd, false_and, true_and, and_true, and_false, if_true, if_false]
    exact r1
theorem add10n {s : S1} {n : Int32} (h : GG s) (hn : 0 ≤ n ∧ n ≤ 400) (hv : ∀ i, 0 ≤ i → i < n → Vl false s (gA s 11 0 i) (gB s 12 0 i)) : GG (sI s 1282 0 n) := by
  have w := h.nRow 10 (Or.inr (Or.inl rfl)) hn hv
  simp only [Nat.reduceMul, Nat.reduceAdd] at w
  exact w
theorem zero_bo {s1 : S1} {n : Int32} (r : RI true s1) (hh : v_hand_n s1 = 0) : ok (oB (oPI 1282 0 0) fun _ => oB (M_Mo_raise n) fun _ => oR ()) s1 (fun _ s' => Bo s1 s') := by
  simp only [ok_B, ok_C, ok_R, ok_L, ok_K, ok_GI, ok_GL, ok_PI, ok_PL, ok_AI, ok_AL, ok_SI, ok_SL, ok_Pr, ok_CI, cmp_lt, cmp_le, cmp_gt, cmp_ge, cmp_eq, nar0, nar1, Sum.elim_inl, Sum.elim_inr]
  have ag := zero10 r.1
  have rx := ag.rx (Or.inr (Or.inl rfl)) r.2.1
  have h1 : v_hand_n (sI s1 1282 0 0) = 0 := by
    simp only [v_hand_n, gI_sI, gI_sL, gI_sA, gI_sB, gI_sAf, gI_sBf, gL_sI, gL_sL, gL_sA, gL_sB, gL_sAf, gL_sBf, gA_sI, gA_sL, gA_sA, gA_sB, gA_sAf, gA_sBf, gB_sI, gB_sL, gB_sA, gB_sB, gB_sAf, gB_sBf, Nat.reduceEqDiff, Nat.reduceMul, Nat.reduceAdd, false_and, true_and, and_true, and_false, if_true, if_false]
    exact hh
  generalize sI s1 1282 0 0 = z at *
  exact ok_mono (raise_bo z n rx.1 rx.2.1 h1) fun _ _ b => Bo.pre rx b
theorem deliver12_ok (s : S1) (r : RI true s) (hh : v_hand_n s = 0) (hr : v_results_n s ≤ 250) : ok (oC (gI s 1282 0 = 250)
        (oB (oPI 1282 0 0) fun _ =>
        oB (M_Mo_raise 7) fun v111 =>
        oR ())
        (oB (oGI 1282 0) fun v122 =>
        oB (oW M_Mo_deliver_L126 v122) fun e126 =>
        oB (M_Va_set 10 0 0 2 0) fun _ =>
        oB (oGI 1282 0) fun v166 =>
        oB (oPI 1282 0 (v166 + 1)) fun _ =>
        oB (oPI 73 0 2) fun _ =>
        oR ())) s (fun _ s' => Bo s s') := by
  rw [ok_C]
  refine ⟨fun _ => zero_bo r hh, fun c => ?_⟩
  have c0 : (0 : Int32).toInt = 0 := rfl
  have c1 : (1 : Int32).toInt = 1 := rfl
  have c2 : (250 : Int32).toInt = 250 := rfl
  have c4 : (400 : Int32).toInt = 400 := rfl
  have hr' : (gI s 1282 0).toInt ≤ 250 := by
    have : gI s 1282 0 ≤ 250 := hr
    rw [i32_le, c2] at this
    exact this
  have h0' : 0 ≤ (gI s 1282 0).toInt := by
    have : (0 : Int32) ≤ gI s 1282 0 := r.1.2.2.2.1.2.2.1.1
    rw [i32_le, c0] at this
    exact this
  have ne : (gI s 1282 0).toInt ≠ 250 := fun e => c (Int32.toInt_inj.mp (by rw [e, c2]))
  simp only [ok_B, ok_C, ok_R, ok_L, ok_K, ok_GI, ok_GL, ok_PI, ok_PL, ok_AI, ok_AL, ok_SI, ok_SL, ok_Pr, ok_CI, cmp_lt, cmp_le, cmp_gt, cmp_ge, cmp_eq, nar0, nar1, Sum.elim_inl, Sum.elim_inr]
  refine ok_mono (shiftR_ok s r.1 (by rw [i32_lt, c4]; omega)) fun _ s2 ⟨ag, e2, hj⟩ => ?_
  refine ok_mono (setA_ok s2 10 (Or.inr (Or.inl rfl)) 0 2 0 ag.1 ⟨by decide, by decide⟩ (Or.inl ⟨by decide, by decide⟩)) fun _ s3 ⟨ag3, es3⟩ => ?_
  have ag13 := ag.trans ag3
  have e3 : gI s3 1282 0 = gI s 1282 0 := by
    rw [es3]
    simp only [gI_sI, gI_sL, gI_sA, gI_sB, gI_sAf, gI_sBf, gL_sI, gL_sL, gL_sA, gL_sB, gL_sAf, gL_sBf, gA_sI, gA_sL, gA_sA, gA_sB, gA_sAf, gA_sBf, gB_sI, gB_sL, gB_sA, gB_sB, gB_sAf, gB_sBf, Nat.reduceEqDiff, Nat.reduceMul, Nat.reduceAdd, false_and, true_and, and_true, and_false, if_true, if_false]
    exact e2
  have rx3 := ag13.rx (Or.inr (Or.inl rfl)) r.2.1
  have h3 : gI s3 2050 0 = 0 := (ag13.2.1 2050 0 (by decide)).trans hh
  have n1 : (gI s3 1282 0 + 1).toInt = (gI s 1282 0).toInt + 1 := by
    rw [e3]
    exact tI_add (by omega)
  have g4 : GG (sI s3 1282 0 (gI s3 1282 0 + 1)) := by
    refine add10n rx3.1 ⟨?_, ?_⟩ fun i a b => ?_
    · rw [i32_le, n1, c0]
      omega
    · rw [i32_le, n1, c4]
      omega
    · refine (Vl.hs ag13.h10).mpr ?_
      rw [es3]
      by_cases q : i = 0
      · rw [q]
        simp only [Nat.reduceAdd, gI_sI, gI_sL, gI_sA, gI_sB, gI_sAf, gI_sBf, gL_sI, gL_sL, gL_sA, gL_sB, gL_sAf, gL_sBf, gA_sI, gA_sL, gA_sA, gA_sB, gA_sAf, gA_sBf, gB_sI, gB_sL, gB_sA, gB_sB, gB_sAf, gB_sBf, Nat.reduceEqDiff, Nat.reduceMul, Nat.reduceAdd, false_and, true_and, and_true, and_false, if_true, if_false]
        exact Or.inl ⟨by decide, by decide⟩
      · simp only [Nat.reduceAdd, gI_sI, gI_sL, gI_sA, gI_sB, gI_sAf, gI_sBf, gL_sI, gL_sL, gL_sA, gL_sB, gL_sAf, gL_sBf, gA_sI, gA_sL, gA_sA, gA_sB, gA_sAf, gA_sBf, gB_sI, gB_sL, gB_sA, gB_sB, gB_sAf, gB_sBf, Nat.reduceEqDiff, Nat.reduceMul, Nat.reduceAdd, false_and, true_and, and_true, and_false, if_true, if_false, q]
        refine hj i (Int32.lt_of_le_of_ne a (fun z => q z.symm)) ?_
        rw [i32_lt, n1] at b
        rw [i32_le]
        omega
  have rx4 : Rx s3 (sI s3 1282 0 (gI s3 1282 0 + 1)) := Rx.hy g4 ((Hy.refl s3).sI (by decide)) rx3.2.1
  have rx5 := todo_rx rx4.1 rx4.2.1 2
  refine ⟨(rx3.trans rx4).trans rx5, ?_, Or.inr ⟨?_, ?_⟩⟩
  · simp only [v_hand_n, gI_sI, gI_sL, gI_sA, gI_sB, gI_sAf, gI_sBf, gL_sI, gL_sL, gL_sA, gL_sB, gL_sAf, gL_sBf, gA_sI, gA_sL, gA_sA, gA_sB, gA_sAf, gA_sBf, gB_sI, gB_sL, gB_sA, gB_sB, gB_sAf, gB_sBf, Nat.reduceEqDiff, Nat.reduceMul, Nat.reduceAdd, false_and, true_and, and_true, and_false, if_true, if_false]
    exact h3
  · simp only [f_todo, gI_sI, gI_sL, gI_sA, gI_sB, gI_sAf, gI_sBf, gL_sI, gL_sL, gL_sA, gL_sB, gL_sAf, gL_sBf, gA_sI, gA_sL, gA_sA, gA_sB, gA_sAf, gA_sBf, gB_sI, gB_sL, gB_sA, gB_sB, gB_sAf, gB_sBf, Nat.reduceEqDiff, Nat.reduceMul, Nat.reduceAdd, false_and, true_and, and_true, and_false, if_true, if_false]
  · have e5 : v_results_n (sI (sI s3 1282 0 (gI s3 1282 0 + 1)) 73 0 2) = gI s3 1282 0 + 1 := by simp only [v_results_n, gI_sI, gI_sL, gI_sA, gI_sB, gI_sAf, gI_sBf, gL_sI, gL_sL, gL_sA, gL_sB, gL_sAf, gL_sBf, gA_sI, gA_sL, gA_sA, gA_sB, gA_sAf, gA_sBf, gB_sI, gB_sL, gB_sA, gB_sB, gB_sAf, gB_sBf, Nat.reduceEqDiff, Nat.reduceMul, Nat.reduceAdd, false_and, true_and, and_true, and_false, if_true, if_false]
    rw [e5, i32_le, n1, c2]
    omega
