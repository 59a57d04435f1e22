/-! A call: what is called, by way of its metatables. -/
theorem up_num {i n : Int32} (h0 : 0 ≤ i) (hn : i ≤ n) (h4 : n < 400) (c : ¬ i ≤ 0) : (0 ≤ i ∧ i < 400) ∧ (0 ≤ i - 1 ∧ i - 1 < 400) ∧ i - 1 < n ∧ 0 ≤ i + (-1) ∧ i + (-1) ≤ n ∧ (i + (-1)).toNatClampNeg < i.toNatClampNeg := by
  have c0 : (0 : Int32).toInt = 0 := rfl
  have c1 : (1 : Int32).toInt = 1 := rfl
  have c2 : (-1 : Int32).toInt = -1 := rfl
  have c4 : (400 : Int32).toInt = 400 := rfl
  simp only [i32_le, i32_lt, c0, c4] at *
  have y1 := tI_sub (a := i) (b := 1) (by omega)
  have y2 := tI_add (a := i) (b := -1) (by omega)
  unfold Int32.toNatClampNeg
  omega
theorem up_split {i j : Int32} (h0 : ¬ i ≤ 0) (h : i + (-1) < j) : j = i ∨ (j ≠ i ∧ i < j) := by
  have c0 : (0 : Int32).toInt = 0 := rfl
  have c2 : (-1 : Int32).toInt = -1 := rfl
  by_cases e : j = i
  · exact Or.inl e
  · refine Or.inr ⟨e, ?_⟩
    have e' : j.toInt ≠ i.toInt := fun q => e (Int32.toInt_inj.mp q)
    rw [i32_le, c0] at h0
    have y2 := tI_add (a := i) (b := -1) (by
      have := i.toInt_lt
      omega)
    rw [i32_lt, y2, c2] at h
    rw [i32_lt]
    omega
theorem shiftUp_ok (s : S1) (x : Int32) (h : GG s) (hn : gI s 898 0 < 400) : ok (oW M_Mo_call_L73 (x, gI s 898 0)) s (fun y s' => y = x ∧ Ag 7 s s' ∧ gI s' 898 0 = gI s 898 0 ∧ ∀ j, 0 < j → j ≤ gI s 898 0 → Vl false s (gA s' 8 0 j) (gB s' 9 0 j)) := by
  have ha := h.2.2.2.1.2.1
  refine ok_W (fun y s' => y.1 = x ∧ (0 ≤ y.2 ∧ y.2 ≤ gI s 898 0) ∧ Ag 7 s s' ∧ gI s' 898 0 = gI s 898 0 ∧ ∀ j, y.2 < j → j ≤ gI s 898 0 → Vl false s (gA s' 8 0 j) (gB s' 9 0 j)) (fun y _ => y.2.toNatClampNeg) ?_ (x, gI s 898 0) s ⟨rfl, ⟨ha.1, Int32.le_refl _⟩, Ag.refl 7 h, rfl, fun j a b => absurd (Int32.lt_of_lt_of_le a b) Int32.lt_irrefl⟩
  rintro ⟨x', i⟩ s1 ⟨e1, ⟨i0, i1⟩, ag, e, hj⟩
  dsimp only at e1 i0 i1 hj
  subst e1
  simp only [M_Mo_call_L73, ok_B, ok_C, ok_R, ok_L, ok_K, ok_GI, ok_GL, ok_PI, ok_PL, ok_AI, ok_AL, ok_SI, ok_SL, ok_Pr, ok_CI, cmp_lt, cmp_le, cmp_gt, cmp_ge, cmp_eq, nar0, nar1, Sum.elim_inl, Sum.elim_inr]
  refine ⟨fun c => ⟨by trivial, ag, e, fun j a b => hj j (Int32.lt_of_le_of_lt c a) b⟩, fun c => ?_⟩
  obtain ⟨n1, n2, n3, n4, n5, n6⟩ := up_num i0 i1 hn c
  have vi : Vl false s1 (gA s1 8 0 (i - 1)) (gB s1 9 0 (i - 1)) := ag.1.2.2.2.1.2.2.2.2.2.1 (i - 1) n2.1 (by show i - 1 < gI s1 898 0; rw [e]; exact n3)
  refine ok_mono (setAA_ok s1 7 7 0 (i - 1) (Or.inl rfl) i ag.1 n1 ⟨n2.1, n2.2, n2.2⟩ vi) fun _ s2 ⟨ag2, es⟩ => ⟨⟨by trivial, ⟨n4, n5⟩, ag.trans ag2, ?_, fun j a b => ?_⟩, n6⟩
  · rw [es]
    simp only [gI_sI, gI_sL, gI_sA, gI_sB, gI_sAf, gI_sBf, gL_sI, gL_sL, gL_sA, gL_sB, gL_sAf, gL_sBf, gA_sI, gA_sL, gA_sA, gA_sB, gA_sAf, gA_sBf, gB_sI, gB_sL, gB_sA, gB_sB, gB_sAf, gB_sBf, Nat.reduceEqDiff, Nat.reduceMul, Nat.reduceAdd, false_and, true_and, and_true, and_false, if_true, if_false]
    exact e
  · rcases up_split c a with q | ⟨q, q2⟩
    · rw [q, es]
      simp only [Nat.reduceAdd, gI_sI, gI_sL, gI_sA, gI_sB, gI_sAf, gI_sBf, gL_sI, gL_sL, gL_sA, gL_sB, gL_sAf, gL_sBf, gA_sI, gA_sL, gA_sA, gA_sB, gA_sAf, gA_sBf, gB_sI, gB_sL, gB_sA, gB_sB, gB_sAf, gB_sBf, Nat.reduceEqDiff, Nat.reduceMul, Nat.reduceAdd, false_and, true_and, and_true, and_false, if_true, if_false]
      exact (Vl.hs ag.h7).mp vi
    · rw [es]
      simp only [Nat.reduceAdd, gI_sI, gI_sL, gI_sA, gI_sB, gI_sAf, gI_sBf, gL_sI, gL_sL, gL_sA, gL_sB, gL_sAf, gL_sBf, gA_sI, gA_sL, gA_sA, gA_sB, gA_sAf, gA_sBf, gB_sI, gB_sL, gB_sA, gB_sB, gB_sAf, gB_sBf, Nat.reduceEqDiff, Nat.reduceMul, Nat.reduceAdd, false_and, true_and, and_true, and_false, if_true, if_false, q]
      exact hj j q2 b
/-- on the way to a function -/
def Ca (s s' : S1) (x : Int32) : Prop := Rx s s' ∧ v_hand_n s' = 0 ∧ f_todo s' = f_todo s ∧ (gI s' 898 0).toInt ≤ 250 + x.toInt
theorem add7n {s : S1} {n : Int32} (h : GG s) (hn : 0 ≤ n ∧ n ≤ 400) (hv : ∀ i, 0 ≤ i → i < n → Vl false s (gA s 8 0 i) (gB s 9 0 i)) : GG (sI s 898 0 n) := by
  have w := h.nRow 7 (Or.inl rfl) hn hv
  simp only [Nat.reduceMul, Nat.reduceAdd] at w
  exact w
theorem meta_step (s s1 : S1) (x : Int32) (h : RI true s) (hc : Ca s s1 x) (x0 : 0 ≤ x.toInt ∧ x.toInt < 100) (hx : ¬ x + 1 = 100) {gk : Int32} {gv : Int64} (hv : Vl false s1 gk gv) (eg : gI s1 66 0 = gk ∧ gL s1 67 0 = gv) : ok (oB (oGI 898 0) fun v69 =>
        oB (oW M_Mo_call_L73 (x + 1, v69)) fun e73 =>
        oB (oGI 75 0) fun v104 =>
        oB (oGL 76 0) fun v108 =>
        oB (M_Va_set 7 0 0 v104 v108) fun _ =>
        oB (oGI 898 0) fun v119 =>
        oB (oPI 898 0 (v119 + 1)) fun _ =>
        oB (oGI 66 0) fun v129 =>
        oB (oPI 75 0 v129) fun _ =>
        oB (oGL 67 0) fun v137 =>
        oB (oPL 76 0 v137) fun _ =>
        oR (Sum.inl e73 : Int32 ⊕ (Unit ⊕ Unit ⊕ Unit))) s1 (fun y s' => y = Sum.inl (x + 1) ∧ Ca s s' (x + 1) ∧ (x + 1).toInt = x.toInt + 1 ∧ x.toInt + 1 < 100) := by
  obtain ⟨rx, hh, td, na⟩ := hc
  have c4 : (400 : Int32).toInt = 400 := rfl
  have c0 : (0 : Int32).toInt = 0 := rfl
  have c1 : (1 : Int32).toInt = 1 := rfl
  have a0 := rx.1.2.2.2.1.2.1.1
  have a0' : 0 ≤ (gI s1 898 0).toInt := by
    have : (0 : Int32) ≤ gI s1 898 0 := a0
    rw [i32_le, c0] at this
    exact this
  have xx : (x + 1).toInt = x.toInt + 1 := tI_add (by omega)
  have x99 : x.toInt + 1 < 100 := by
    have : (x + 1).toInt ≠ (100 : Int32).toInt := fun e => hx (Int32.toInt_inj.mp e)
    have c100 : (100 : Int32).toInt = 100 := rfl
    rw [xx, c100] at this
    omega
  simp only [ok_B, ok_C, ok_R, ok_L, ok_K, ok_GI, ok_GL, ok_PI, ok_PL, ok_AI, ok_AL, ok_SI, ok_SL, ok_Pr, ok_CI, cmp_lt, cmp_le, cmp_gt, cmp_ge, cmp_eq, nar0, nar1, Sum.elim_inl, Sum.elim_inr]
  refine ok_mono (shiftUp_ok s1 (x + 1) rx.1 (by rw [i32_lt, c4]; omega)) fun y s2 ⟨ey, ag, e2, hj⟩ => ?_
  have vc : Vl false s2 (gI s2 75 0) (gL s2 76 0) := ag.1.2.2.2.1.2.2.2.2.2.2.2.2.2
  refine ok_mono (setA_ok s2 7 (Or.inl rfl) 0 (gI s2 75 0) (gL s2 76 0) ag.1 ⟨by decide, by decide⟩ vc) fun _ s3 ⟨ag3, es3⟩ => ?_
  have ag13 := ag.trans ag3
  have e3 : gI s3 898 0 = gI s1 898 0 := by
    rw [es3]
    simp only [gI_sI, gI_sL, gI_sA, gI_sB, gI_sAf, gI_sBf, gL_sI, gL_sL, gL_sA, gL_sB, gL_sAf, gL_sBf, gA_sI, gA_sL, gA_sA, gA_sB, gA_sAf, gA_sBf, gB_sI, gB_sL, gB_sA, gB_sB, gB_sAf, gB_sBf, Nat.reduceEqDiff, Nat.reduceMul, Nat.reduceAdd, false_and, true_and, and_true, and_false, if_true, if_false]
    exact e2
  have f66 : gI s3 66 0 = gk := (ag13.2.1 66 0 (by decide)).trans eg.1
  have f67 : gL s3 67 0 = gv := (ag13.2.2.1 67 0).trans eg.2
  have rx3 := rx.trans (ag13.rx (Or.inl rfl) rx.2.1)
  have v3 : Vl false s3 gk gv := (Vl.hs ag13.h7).mpr hv
  have h3 : gI s3 2050 0 = 0 := (ag13.2.1 2050 0 (by decide)).trans hh
  have t3 : gI s3 73 0 = f_todo s := (ag13.2.1 73 0 (by decide)).trans td
  have n1 : (gI s3 898 0 + 1).toInt = (gI s1 898 0).toInt + 1 := by
    rw [e3]
    exact tI_add (by omega)
  have g4 : GG (sI s3 898 0 (gI s3 898 0 + 1)) := by
    refine add7n rx3.1 ⟨?_, ?_⟩ fun i a b => ?_
    · rw [i32_le, n1, c0]
      omega
    · rw [i32_le, n1, c4]
      omega
    · refine (Vl.hs ag13.h7).mpr ?_
      rw [es3]
      by_cases q : i = 0
      · rw [q]
        simp only [Nat.reduceAdd, gI_sI, gI_sL, gI_sA, gI_sB, gI_sAf, gI_sBf, gL_sI, gL_sL, gL_sA, gL_sB, gL_sAf, gL_sBf, gA_sI, gA_sL, gA_sA, gA_sB, gA_sAf, gA_sBf, gB_sI, gB_sL, gB_sA, gB_sB, gB_sAf, gB_sBf, Nat.reduceEqDiff, Nat.reduceMul, Nat.reduceAdd, false_and, true_and, and_true, and_false, if_true, if_false]
        exact (Vl.hs ag.h7).mp vc
      · simp only [Nat.reduceAdd, gI_sI, gI_sL, gI_sA, gI_sB, gI_sAf, gI_sBf, gL_sI, gL_sL, gL_sA, gL_sB, gL_sAf, gL_sBf, gA_sI, gA_sL, gA_sA, gA_sB, gA_sAf, gA_sBf, gB_sI, gB_sL, gB_sA, gB_sB, gB_sAf, gB_sBf, Nat.reduceEqDiff, Nat.reduceMul, Nat.reduceAdd, false_and, true_and, and_true, and_false, if_true, if_false, q]
        refine hj i (Int32.lt_of_le_of_ne a (fun z => q z.symm)) ?_
        rw [i32_lt, n1] at b
        rw [i32_le]
        omega
  have rx4 : Rx s3 (sI s3 898 0 (gI s3 898 0 + 1)) := Rx.hy g4 ((Hy.refl s3).sI (by decide)) rx3.2.1
  have v4 : Vl false (sI s3 898 0 (gI s3 898 0 + 1)) gk gv := by
    unfold Vl Lv at *
    simp only [f_used, a_sort, a_marked, gI_sI, gI_sL, gI_sA, gI_sB, gI_sAf, gI_sBf, gL_sI, gL_sL, gL_sA, gL_sB, gL_sAf, gL_sBf, gA_sI, gA_sL, gA_sA, gA_sB, gA_sAf, gA_sBf, gB_sI, gB_sL, gB_sA, gB_sB, gB_sAf, gB_sBf, Nat.reduceEqDiff, Nat.reduceMul, Nat.reduceAdd, false_and, true_and, and_true, and_false, if_true, if_false] at *
    exact v3
  have r66 : gI (sI s3 898 0 (gI s3 898 0 + 1)) 66 0 = gk := by
    simp only [gI_sI, gI_sL, gI_sA, gI_sB, gI_sAf, gI_sBf, gL_sI, gL_sL, gL_sA, gL_sB, gL_sAf, gL_sBf, gA_sI, gA_sL, gA_sA, gA_sB, gA_sAf, gA_sBf, gB_sI, gB_sL, gB_sA, gB_sB, gB_sAf, gB_sBf, Nat.reduceEqDiff, Nat.reduceMul, Nat.reduceAdd, false_and, true_and, and_true, and_false, if_true, if_false]
    exact f66
  have r67 : gL (sI (sI s3 898 0 (gI s3 898 0 + 1)) 75 0 gk) 67 0 = gv := f67
  rw [r66, r67]
  have rx5 := calling_rx rx4.1 rx4.2.1 v4
  refine ⟨by rw [ey], ⟨(rx3.trans rx4).trans rx5, ?_, ?_, ?_⟩, xx, x99⟩
  · simp only [v_hand_n, gI_sI, gI_sL, gI_sA, gI_sB, gI_sAf, gI_sBf, gL_sI, gL_sL, gL_sA, gL_sB, gL_sAf, gL_sBf, gA_sI, gA_sL, gA_sA, gA_sB, gA_sAf, gA_sBf, gB_sI, gB_sL, gB_sA, gB_sB, gB_sAf, gB_sBf, Nat.reduceEqDiff, Nat.reduceMul, Nat.reduceAdd, false_and, true_and, and_true, and_false, if_true, if_false]
    exact h3
  · simp only [f_todo, gI_sI, gI_sL, gI_sA, gI_sB, gI_sAf, gI_sBf, gL_sI, gL_sL, gL_sA, gL_sB, gL_sAf, gL_sBf, gA_sI, gA_sL, gA_sA, gA_sB, gA_sAf, gA_sBf, gB_sI, gB_sL, gB_sA, gB_sB, gB_sAf, gB_sBf, Nat.reduceEqDiff, Nat.reduceMul, Nat.reduceAdd, false_and, true_and, and_true, and_false, if_true, if_false] at *
    exact t3
  · have e5 : gI (sL (sI (sI s3 898 0 (gI s3 898 0 + 1)) 75 0 gk) 76 0 gv) 898 0 = gI s3 898 0 + 1 := by simp only [gI_sI, gI_sL, gI_sA, gI_sB, gI_sAf, gI_sBf, gL_sI, gL_sL, gL_sA, gL_sB, gL_sAf, gL_sBf, gA_sI, gA_sL, gA_sA, gA_sB, gA_sAf, gA_sBf, gB_sI, gB_sL, gB_sA, gB_sB, gB_sAf, gB_sBf, Nat.reduceEqDiff, Nat.reduceMul, Nat.reduceAdd, false_and, true_and, and_true, and_false, if_true, if_false]
    rw [e5, n1, xx]
    omega
