/-! print. -/
/-- what print keeps between its arguments -/
def Pr (s s' : S1) : Prop := Rx s s' ∧ v_hand_n s' = 0 ∧ gI s' 898 0 = gI s 898 0 ∧ 0 ≤ gI s' 95 0
theorem out_num {o i n : Int32} (h0 : 0 ≤ o) (c : ¬ 20000 ≤ o) (i0 : 0 ≤ i) (d : ¬ n ≤ i) (hn : n ≤ 266800) : (0 ≤ o ∧ o < 20000) ∧ 0 ≤ o + 1 ∧ (0 ≤ i ∧ i < 266800) ∧ 0 ≤ i + 1 ∧ (n - (i + 1)).toNatClampNeg < (n - i).toNatClampNeg := by
  refine ⟨⟨h0, by grind⟩, by grind, ⟨i0, by grind⟩, by grind, clamp_lt (by grind) (by grind)⟩
theorem print72_ok (s s0 : S1) (x : Int32) (h : Pr s s0) (hb : gI s0 96 0 ≤ 266800) : ok (oW M_Mo_print_L72 (x, 0)) s0 (fun y s' => y = x ∧ Pr s s') := by
  refine ok_W (fun y s' => y.1 = x ∧ 0 ≤ y.2 ∧ Pr s s' ∧ gI s' 96 0 = gI s0 96 0) (fun y _ => (gI s0 96 0 - y.2).toNatClampNeg) ?_ (x, (0 : Int32)) s0 ⟨rfl, (show (0 : Int32) ≤ 0 by decide), h, rfl⟩
  rintro ⟨y, i⟩ s1 ⟨e1, i0, ⟨rx, hh, ha, ho⟩, e96⟩
  dsimp only at e1 i0
  subst e1
  simp only [M_Mo_print_L72, ok_B, ok_C, ok_R, ok_L, ok_K, ok_GI, ok_GL, ok_PI, ok_PL, ok_AI, ok_AL, ok_SI, ok_SL, ok_Pr, ok_CI, cmp_lt, cmp_le, cmp_gt, cmp_ge, cmp_eq, nar0, nar1, Sum.elim_inl, Sum.elim_inr]
  refine ⟨fun _ => ⟨by trivial, rx, hh, ha, ho⟩, fun c => ⟨fun _ => ⟨by trivial, rx, hh, ha, ho⟩, fun d => ?_⟩⟩
  rw [e96] at c
  obtain ⟨n1, n2, n3, n4, n5⟩ := out_num ho d i0 c hb
  have rx2 : Rx s1 (sA (sI s1 95 0 (gI s1 95 0 + 1)) 88 0 (gI s1 95 0) (gA (sI s1 95 0 (gI s1 95 0 + 1)) 87 0 i).toInt8.toInt32) := Rx.hx rx.1 (((Hx0.refl s1).sI (by decide)).sA (by decide)) (((Hy.refl s1).sI (by decide)).sA (by decide)) rx.2.1
  refine ⟨n3, n1, ⟨by trivial, n4, ⟨rx.trans rx2, ?_, ?_, ?_⟩, ?_⟩, n5⟩
  · simp only [v_hand_n, gI_sI, gI_sL, gI_sA, gI_sB, gI_sAf, gI_sBf, gL_sI, gL_sL, gL_sA, gL_sB, gL_sAf, gL_sBf, gA_sI, gA_sL, gA_sA, gA_sB, gA_sAf, gA_sBf, gB_sI, gB_sL, gB_sA, gB_sB, gB_sAf, gB_sBf, Nat.reduceEqDiff, Nat.reduceMul, Nat.reduceAdd, false_and, true_and, and_true, and_false, if_true, if_false]
    exact hh
  · simp only [gI_sI, gI_sL, gI_sA, gI_sB, gI_sAf, gI_sBf, gL_sI, gL_sL, gL_sA, gL_sB, gL_sAf, gL_sBf, gA_sI, gA_sL, gA_sA, gA_sB, gA_sAf, gA_sBf, gB_sI, gB_sL, gB_sA, gB_sB, gB_sAf, gB_sBf, Nat.reduceEqDiff, Nat.reduceMul, Nat.reduceAdd, false_and, true_and, and_true, and_false, if_true, if_false]
    exact ha
  · simp only [gI_sI, gI_sL, gI_sA, gI_sB, gI_sAf, gI_sBf, gL_sI, gL_sL, gL_sA, gL_sB, gL_sAf, gL_sBf, gA_sI, gA_sL, gA_sA, gA_sB, gA_sAf, gA_sBf, gB_sI, gB_sL, gB_sA, gB_sB, gB_sAf, gB_sBf, Nat.reduceEqDiff, Nat.reduceMul, Nat.reduceAdd, false_and, true_and, and_true, and_false, if_true, if_false]
    exact n2
  · simp only [gI_sI, gI_sL, gI_sA, gI_sB, gI_sAf, gI_sBf, gL_sI, gL_sL, gL_sA, gL_sB, gL_sAf, gL_sBf, gA_sI, gA_sL, gA_sA, gA_sB, gA_sAf, gA_sBf, gB_sI, gB_sL, gB_sA, gB_sB, gB_sAf, gB_sBf, Nat.reduceEqDiff, Nat.reduceMul, Nat.reduceAdd, false_and, true_and, and_true, and_false, if_true, if_false]
    exact e96
theorem print70_ok (s s0 : S1) (x : Int32) (h : Pr s s0) (hb : gI s0 96 0 ≤ 266800) : ok (M_Mo_print_j70 x) s0 (fun y s' => y = Sum.inl (x + 1) ∧ Pr s s') := by
  simp only [M_Mo_print_j70, M_Mo_print_j118, ok_B, ok_C, ok_R, ok_L, ok_K, ok_GI, ok_GL, ok_PI, ok_PL, ok_AI, ok_AL, ok_SI, ok_SL, ok_Pr, ok_CI, cmp_lt, cmp_le, cmp_gt, cmp_ge, cmp_eq, nar0, nar1, Sum.elim_inl, Sum.elim_inr]
  exact ok_mono (print72_ok s s0 x h hb) fun y s1 ⟨e, w⟩ => ⟨by rw [e], w⟩
theorem Pr.sy {s s0 s1 : S1} {L : Int} (h : Pr s s0) (sy : Sy s0 s1 L) : Pr s s1 := ⟨h.1.trans (Rx.hx h.1.1 sy.hx sy.hy h.1.2.1), (sy.1 2050 0 (by decide)).trans h.2.1, (sy.1 898 0 (by decide)).trans h.2.2.1, by rw [sy.1 95 0 (by decide)]; exact h.2.2.2⟩
theorem print48_ok (s s0 : S1) (x : Int32) (h : Pr s s0) (hb : 0 ≤ (f_builtSize s0).toInt ∧ (f_builtSize s0).toInt ≤ 1) (hx : 0 ≤ x ∧ x < gI s0 898 0) : ok (M_Mo_print_j48 x) s0 (fun y s' => y = Sum.inl (x + 1) ∧ Pr s s') := by
  have g := h.1.1
  have xb : 0 ≤ x ∧ x < 400 := ⟨hx.1, Int32.lt_of_lt_of_le hx.2 g.2.2.2.1.2.1.2⟩
  have vl := g.2.2.2.1.2.2.2.2.2.1 x hx.1 hx.2
  have vl' : Vl false s0 (gA s0 8 0 x) (gB s0 9 0 x) := vl
  have zz : 0 ≤ q_sz s0 (gA s0 8 0 x) (gB s0 9 0 x) ∧ q_sz s0 (gA s0 8 0 x) (gB s0 9 0 x) ≤ 266667 := by
    unfold q_sz
    by_cases c4 : gA s0 8 0 x = 4
    · rw [if_pos c4]
      rw [c4] at vl'
      have l4 := vl'.to (by decide) (by decide)
      have h6 := (g.2.1.2.2.2.2 _ l4.1 l4.2.1 l4.2.2.1).2
      have i2 := (str_in g l4).2.1.1
      have c0 : (0 : Int32).toInt = 0 := rfl
      have c6 : (266667 : Int32).toInt = 266667 := rfl
      rw [i32_le, c6] at h6
      rw [i32_le, c0] at i2
      exact ⟨i2, h6⟩
    · rw [if_neg c4]
      by_cases c : gA s0 8 0 x = 3
      · rw [if_pos c]
        omega
      · rw [if_neg c]
        omega
  simp only [M_Mo_print_j48, ok_B, ok_C, ok_R, ok_L, ok_K, ok_GI, ok_GL, ok_PI, ok_PL, ok_AI, ok_AL, ok_SI, ok_SL, ok_Pr, ok_CI, cmp_lt, cmp_le, cmp_gt, cmp_ge, cmp_eq, nar0, nar1, Sum.elim_inl, Sum.elim_inr]
  refine ⟨xb, xb, ok_mono (sayValue_ok s0 _ _ g vl' (by omega)) fun _ s1 sy => print70_ok s s1 x (h.sy sy) ?_⟩
  have up := sy.2.2.2.2.2
  have c8 : (266800 : Int32).toInt = 266800 := rfl
  rw [i32_le, c8]
  have e : (f_builtSize s1).toInt = (gI s1 96 0).toInt := rfl
  omega
theorem prn_num {x n : Int32} (h0 : 0 ≤ x) (c : ¬ n < x) (hn : 0 ≤ n ∧ n ≤ 400) : 0 ≤ x + 1 ∧ (x ≠ n → x < n) ∧ (n + 1 - (x + 1)).toNatClampNeg < (n + 1 - x).toNatClampNeg := by
  refine ⟨by grind, fun d => by grind, clamp_lt (by grind) (by grind)⟩
theorem print_bo (s : S1) (h : q_Bi s) (ho : 0 ≤ gI s 95 0) : ok M_Mo_print s (fun _ s' => Bo s s' ∧ 0 ≤ gI s' 95 0) := by
  obtain ⟨hr, _, hh, ha⟩ := h
  have hg := hr.1
  have hz := hr.2.1
  have an := hg.2.2.2.1.2.1
  simp only [M_Mo_print, ok_B, ok_C, ok_R, ok_L, ok_K, ok_GI, ok_GL, ok_PI, ok_PL, ok_AI, ok_AL, ok_SI, ok_SL, ok_Pr, ok_CI, cmp_lt, cmp_le, cmp_gt, cmp_ge, cmp_eq, nar0, nar1, Sum.elim_inl, Sum.elim_inr]
  refine ok_mono (ok_W (Q := fun _ s' => Pr s s') (fun x s' => 0 ≤ x ∧ Pr s s') (fun x _ => (gI s 898 0 + 1 - x).toNatClampNeg) ?_ (0 : Int32) s ⟨(show (0 : Int32) ≤ 0 by decide), Rx.refl hg hz, hh, rfl, ho⟩) fun _ s1 pr => ?_
  · rintro x s1 ⟨x0, pr⟩
    have ea := pr.2.2.1
    simp only [M_Mo_print_L2, ok_B, ok_C, ok_R, ok_L, ok_K, ok_GI, ok_GL, ok_PI, ok_PL, ok_AI, ok_AL, ok_SI, ok_SL, ok_Pr, ok_CI, cmp_lt, cmp_le, cmp_gt, cmp_ge, cmp_eq, nar0, nar1, Sum.elim_inl, Sum.elim_inr]
    refine ⟨fun _ => pr, fun c => ?_⟩
    rw [ea] at c
    obtain ⟨n1, n2, n3⟩ := prn_num x0 c an
    have p2 : Pr s (sI s1 96 0 0) := by
      refine ⟨pr.1.trans (Rx.hx pr.1.1 ((Hx0.refl s1).sI (by decide)) ((Hy.refl s1).sI (by decide)) pr.1.2.1), ?_, ?_, ?_⟩
      · simp only [v_hand_n, gI_sI, gI_sL, gI_sA, gI_sB, gI_sAf, gI_sBf, gL_sI, gL_sL, gL_sA, gL_sB, gL_sAf, gL_sBf, gA_sI, gA_sL, gA_sA, gA_sB, gA_sAf, gA_sBf, gB_sI, gB_sL, gB_sA, gB_sB, gB_sAf, gB_sBf, Nat.reduceEqDiff, Nat.reduceMul, Nat.reduceAdd, false_and, true_and, and_true, and_false, if_true, if_false]
        exact pr.2.1
      · simp only [gI_sI, gI_sL, gI_sA, gI_sB, gI_sAf, gI_sBf, gL_sI, gL_sL, gL_sA, gL_sB, gL_sAf, gL_sBf, gA_sI, gA_sL, gA_sA, gA_sB, gA_sAf, gA_sBf, gB_sI, gB_sL, gB_sA, gB_sB, gB_sAf, gB_sBf, Nat.reduceEqDiff, Nat.reduceMul, Nat.reduceAdd, false_and, true_and, and_true, and_false, if_true, if_false]
        exact ea
      · simp only [gI_sI, gI_sL, gI_sA, gI_sB, gI_sAf, gI_sBf, gL_sI, gL_sL, gL_sA, gL_sB, gL_sAf, gL_sBf, gA_sI, gA_sL, gA_sA, gA_sB, gA_sAf, gA_sBf, gB_sI, gB_sL, gB_sA, gB_sB, gB_sAf, gB_sBf, Nat.reduceEqDiff, Nat.reduceMul, Nat.reduceAdd, false_and, true_and, and_true, and_false, if_true, if_false]
        exact pr.2.2.2
    have b0 : (f_builtSize (sI s1 96 0 0)).toInt = 0 := by
      have : f_builtSize (sI s1 96 0 0) = 0 := by simp only [f_builtSize, gI_sI, gI_sL, gI_sA, gI_sB, gI_sAf, gI_sBf, gL_sI, gL_sL, gL_sA, gL_sB, gL_sAf, gL_sBf, gA_sI, gA_sL, gA_sA, gA_sB, gA_sAf, gA_sBf, gB_sI, gB_sL, gB_sA, gB_sB, gB_sAf, gB_sBf, Nat.reduceEqDiff, Nat.reduceMul, Nat.reduceAdd, false_and, true_and, and_true, and_false, if_true, if_false]
      rw [this]
      rfl
    generalize sI s1 96 0 0 = z at *
    have fin : ∀ y s2, (y = Sum.inl (x + 1) ∧ Pr s s2) → Sum.elim (fun w => (0 ≤ w ∧ Pr s s2) ∧ (gI s 898 0 + 1 - w).toNatClampNeg < (gI s 898 0 + 1 - x).toNatClampNeg) (fun _ : Unit => Pr s s2) y := fun y s2 w => by
      rw [w.1]
      exact ⟨⟨n1, w.2⟩, n3⟩
    have e2 := p2.2.2.1
    refine ⟨fun _ => ok_mono (say_ok z 10 (by omega)) fun _ s2 sy => ok_mono (print70_ok s s2 x (p2.sy sy) ?_) fun y s3 w => fin y s3 w, fun d => ?_⟩
    · have up := sy.2.2.2.2.2
      have c8 : (266800 : Int32).toInt = 266800 := rfl
      rw [i32_le, c8]
      have e : (f_builtSize s2).toInt = (gI s2 96 0).toInt := rfl
      omega
    · rw [e2] at d
      have xl := n2 d
      refine ⟨fun _ => ok_mono (print48_ok s z x p2 (by omega) ⟨x0, by rw [e2]; exact xl⟩) fun y s3 w => fin y s3 w, fun _ => ok_mono (say_ok z 9 (by omega)) fun _ s2 sy => ?_⟩
      have p3 := p2.sy sy
      have up := sy.2.2.2.2.2
      have lo := sy.2.2.2.2.1
      exact ok_mono (print48_ok s s2 x p3 (by omega) ⟨x0, by rw [p3.2.2.1]; exact xl⟩) fun y s3 w => fin y s3 w
  · refine ok_mono (giveNone_bo s1 pr.1.1 pr.1.2.1 pr.2.1) fun _ s2 ⟨b, _, _, _, es⟩ => ⟨b.pre pr.1, ?_⟩
    rw [es]
    simp only [gI_sI, gI_sL, gI_sA, gI_sB, gI_sAf, gI_sBf, gL_sI, gL_sL, gL_sA, gL_sB, gL_sAf, gL_sBf, gA_sI, gA_sL, gA_sA, gA_sB, gA_sAf, gA_sBf, gB_sI, gB_sL, gB_sA, gB_sB, gB_sAf, gB_sBf, Nat.reduceEqDiff, Nat.reduceMul, Nat.reduceAdd, false_and, true_and, and_true, and_false, if_true, if_false]
    exact pr.2.2.2
