/-! The way to what is called ends; the top of a stack. -/
theorem callL7_ok (s : S1) (h : RI true s) (hh : v_hand_n s = 0) (ha : v_args_n s ≤ 250) : ok (oW M_Mo_call_L7 0) s (fun y s' => Rx s s' ∧ v_hand_n s' = 0 ∧ f_todo s' = f_todo s ∧ (y = Sum.inr (Sum.inr ()) → gI s' 75 0 = 6)) := by
  have c0 : (0 : Int32).toInt = 0 := rfl
  have c2 : (250 : Int32).toInt = 250 := rfl
  refine ok_W (fun x s' => Ca s s' x ∧ 0 ≤ x.toInt ∧ x.toInt < 100) (fun x _ => (100 - x.toInt).toNat) ?_ (0 : Int32) s ⟨⟨Rx.refl h.1 h.2.1, hh, rfl, ?_⟩, ?_, ?_⟩
  · rintro x s1 ⟨ca, x0, x1⟩
    have ca0 := ca
    obtain ⟨rx, hh1, td, na⟩ := ca
    unfold M_Mo_call_L7
    rw [ok_B, ok_GI, ok_C]
    refine ⟨fun c6 => ?_, fun _ => ?_⟩
    · rw [ok_R]
      exact ⟨rx, hh1, td, fun _ => c6⟩
    · rw [ok_B, ok_GI, ok_B, ok_GL, ok_B]
      have vc : Vl false s1 (gI s1 75 0) (gL s1 76 0) := rx.1.2.2.2.1.2.2.2.2.2.2.2.2.2
      refine ok_mono (meta_ok s1 (gI s1 75 0) 2 (gL s1 76 0) rx.1 (h.rx rx).2.2.2.1 vc ⟨by decide, by decide⟩) fun r s2 ⟨gk, gv, es, hm⟩ => ?_
      have rg := got_rx rx.1 rx.2.1 gk gv
      have eg : gI s2 66 0 = gk ∧ gL s2 67 0 = gv := by
        rw [es]
        simp only [gI_sI, gI_sL, gI_sA, gI_sB, gI_sAf, gI_sBf, gL_sI, gL_sL, gL_sA, gL_sB, gL_sAf, gL_sBf, gA_sI, gA_sL, gA_sA, gA_sB, gA_sAf, gA_sBf, gB_sI, gB_sL, gB_sA, gB_sB, gB_sAf, gB_sBf, Nat.reduceEqDiff, Nat.reduceMul, Nat.reduceAdd, false_and, true_and, and_true, and_false, if_true, if_false]
      have ca2 : Ca s s2 x := by
        refine ⟨by rw [es]; exact rx.trans rg, ?_, ?_, ?_⟩
        · rw [es]
          simp only [v_hand_n, gI_sI, gI_sL, gI_sA, gI_sB, gI_sAf, gI_sBf, gL_sI, gL_sL, gL_sA, gL_sB, gL_sAf, gL_sBf, gA_sI, gA_sL, gA_sA, gA_sB, gA_sAf, gA_sBf, gB_sI, gB_sL, gB_sA, gB_sB, gB_sAf, gB_sBf, Nat.reduceEqDiff, Nat.reduceMul, Nat.reduceAdd, false_and, true_and, and_true, and_false, if_true, if_false]
          exact hh1
        · rw [es]
          simp only [f_todo, gI_sI, gI_sL, gI_sA, gI_sB, gI_sAf, gI_sBf, gL_sI, gL_sL, gL_sA, gL_sB, gL_sAf, gL_sBf, gA_sI, gA_sL, gA_sA, gA_sB, gA_sAf, gA_sBf, gB_sI, gB_sL, gB_sA, gB_sB, gB_sAf, gB_sBf, Nat.reduceEqDiff, Nat.reduceMul, Nat.reduceAdd, false_and, true_and, and_true, and_false, if_true, if_false] at *
          exact td
        · have e : gI s2 898 0 = gI s1 898 0 := by
            rw [es]
            simp only [gI_sI, gI_sL, gI_sA, gI_sB, gI_sAf, gI_sBf, gL_sI, gL_sL, gL_sA, gL_sB, gL_sAf, gL_sBf, gA_sI, gA_sL, gA_sA, gA_sB, gA_sAf, gA_sBf, gB_sI, gB_sL, gB_sA, gB_sB, gB_sAf, gB_sBf, Nat.reduceEqDiff, Nat.reduceMul, Nat.reduceAdd, false_and, true_and, and_true, and_false, if_true, if_false]
          rw [e]
          exact na
      have vv : Vl false s1 gk gv → Vl false s2 gk gv := fun w => by
        rw [es]
        unfold Vl Lv at *
        simp only [f_used, a_sort, a_marked, gI_sI, gI_sL, gI_sA, gI_sB, gI_sAf, gI_sBf, gL_sI, gL_sL, gL_sA, gL_sB, gL_sAf, gL_sBf, gA_sI, gA_sL, gA_sA, gA_sB, gA_sAf, gA_sBf, gB_sI, gB_sL, gB_sA, gB_sB, gB_sAf, gB_sBf, Nat.reduceEqDiff, Nat.reduceMul, Nat.reduceAdd, false_and, true_and, and_true, and_false, if_true, if_false] at *
        exact w
      rw [ok_C]
      refine ⟨fun _ => ?_, fun cr => ?_⟩
      · rw [ok_R]
        exact ⟨ca2.1, ca2.2.1, ca2.2.2.1, fun z => by cases z⟩
      · rw [ok_C]
        refine ⟨fun _ => ?_, fun cx => ?_⟩
        · rw [ok_R]
          exact ⟨ca2.1, ca2.2.1, ca2.2.2.1, fun z => by cases z⟩
        · refine ok_mono (meta_step s s2 x h ca2 ⟨x0, x1⟩ cx (vv (hm cr).1) eg) fun y s3 ⟨ey, c3, e3, l3⟩ => ?_
          rw [ey]
          refine ⟨⟨c3, by omega, by omega⟩, ?_⟩
          rw [e3]
          omega
  · have : v_args_n s = gI s 898 0 := rfl
    rw [i32_le, c2, this] at ha
    omega
  · decide
  · decide
theorem down_num {x n : Int32} (hn : x < n) (h2 : n ≤ 200) (c : ¬ x < 0) : (0 ≤ x ∧ x < 201) ∧ x + (-1) < n ∧ (x + (-1) + 1).toNatClampNeg < (x + 1).toNatClampNeg := by
  have c0 : (0 : Int32).toInt = 0 := rfl
  have c1 : (1 : Int32).toInt = 1 := rfl
  have c2 : (-1 : Int32).toInt = -1 := rfl
  have c4 : (200 : Int32).toInt = 200 := rfl
  have c5 : (201 : Int32).toInt = 201 := rfl
  simp only [i32_le, i32_lt, c0, c4, c5] at *
  have y2 := tI_add (a := x) (b := -1) (by omega)
  have y3 := tI_add (a := x + (-1)) (b := 1) (by omega)
  have y4 := tI_add (a := x) (b := 1) (by omega)
  unfold Int32.toNatClampNeg
  omega
theorem top_add {b r : Int32} (hb : 0 ≤ b ∧ b ≤ 4000) (hr : 0 ≤ r ∧ r ≤ 255) : 0 ≤ b + r := by
  have c0 : (0 : Int32).toInt = 0 := rfl
  have c1 : (4000 : Int32).toInt = 4000 := rfl
  have c2 : (255 : Int32).toInt = 255 := rfl
  simp only [i32_le, c0, c1, c2] at *
  have y := tI_add (a := b) (b := r) (by omega)
  omega
theorem topOf_ok (s : S1) (t : Int32) (h : GG s) (ht : 0 ≤ t ∧ t < 33) (hp : 0 ≤ t_place s t) (hpr : f_protos s ≤ 250) : ok (M_Mo_topOf t) s (fun v s' => s' = s ∧ 0 ≤ v ∧ v ≤ 4000) := by
  obtain ⟨⟨q1, q2, q3, q4⟩, p1, p2, p3⟩ := h.thr ht hp
  have fr : t_frames s t - 1 < t_frames s t := by
    clear q4 p1 p2 p3 h
    grind
  simp only [M_Mo_topOf, M_Th_top, ok_B, ok_C, ok_R, ok_L, ok_K, ok_GI, ok_GL, ok_PI, ok_PL, ok_AI, ok_AL, ok_SI, ok_SL, ok_Pr, ok_CI, cmp_lt, cmp_le, cmp_gt, cmp_ge, cmp_eq, nar0, nar1, Sum.elim_inl, Sum.elim_inr]
  refine ok_mono (ok_W (Q := fun y s' => s' = s ∧ Sum.elim (fun z : Int32 × Int32 => z.1 = t ∧ (0 ≤ z.2 ∧ z.2 < t_frames s t) ∧ t_kind s t z.2 = 0) (fun _ => True) y) (fun x s' => x.1 = t ∧ x.2 < t_frames s t ∧ s' = s) (fun x _ => (x.2 + 1).toNatClampNeg) ?_ (t, t_frames s t - 1) s ⟨rfl, fr, rfl⟩) ?_
  · rintro ⟨t', x⟩ s1 ⟨e1, x1, es⟩
    dsimp only at e1 x1 es
    subst e1 es
    simp only [M_Mo_topOf_L5, ok_B, ok_C, ok_R, ok_L, ok_K, ok_GI, ok_GL, ok_PI, ok_PL, ok_AI, ok_AL, ok_SI, ok_SL, ok_Pr, ok_CI, cmp_lt, cmp_le, cmp_gt, cmp_ge, cmp_eq, nar0, nar1, Sum.elim_inl, Sum.elim_inr]
    refine ⟨fun _ => ⟨by trivial, by trivial⟩, fun c => ?_⟩
    obtain ⟨n1, n2, n3⟩ := down_num x1 q2.2 c
    exact ⟨n1, fun k => ⟨by trivial, by trivial, ⟨n1.1, x1⟩, k⟩, fun _ => ⟨⟨by trivial, n2, by trivial⟩, n3⟩⟩
  · rintro y s1 ⟨es, hy⟩
    subst es
    rcases y with ⟨t', f⟩ | y
    · simp only [Sum.elim_inl] at hy ⊢
      obtain ⟨e1, ⟨f0, f1⟩, k0⟩ := hy
      rw [e1]
      have w := q4 f f0 f1 k0
      have fb : 0 ≤ f ∧ f < 201 := ⟨f0, Int32.lt_of_lt_of_le f1 (Int32.le_trans q2.2 (by decide))⟩
      simp only [ok_B, ok_C, ok_R, ok_L, ok_K, ok_GI, ok_GL, ok_PI, ok_PL, ok_AI, ok_AL, ok_SI, ok_SL, ok_Pr, ok_CI, cmp_lt, cmp_le, cmp_gt, cmp_ge, cmp_eq, nar0, nar1, Sum.elim_inl, Sum.elim_inr]
      refine ⟨fb, fb, w.1, w.2.1, by trivial, ?_, ?_⟩
      · exact top_add ⟨Int32.le_trans w.2.2.1.1 w.2.2.1.2.1, w.2.2.1.2.2⟩ ⟨w.2.2.2.1.1, w.2.2.2.1.2.1⟩
      · exact w.2.2.2.1.2.2
    · simp only [Sum.elim_inr, ok_B, ok_C, ok_R, ok_L, ok_K, ok_GI, ok_GL, ok_PI, ok_PL, ok_AI, ok_AL, ok_SI, ok_SL, ok_Pr, ok_CI, cmp_lt, cmp_le, cmp_gt, cmp_ge, cmp_eq, nar0, nar1, Sum.elim_inl, Sum.elim_inr]
      exact ⟨by trivial, by decide, by decide⟩
