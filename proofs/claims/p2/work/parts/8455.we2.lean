/-! What a __tostring handed back. -/
theorem deliver4_ok (s : S1) (r : RI true s) (hh : v_hand_n s = 0) : ok (oC (gI s 1282 0 = 0)
        (M_Mo_deliver_j215)
        (oB (oAI 11 400 0 0) fun v210 =>
        oC (v210 = 4)
          (oB (oPI 1282 0 1) fun _ =>
          oB (oPI 73 0 2) fun _ =>
          oR ())
          (M_Mo_deliver_j215))) s (fun _ s' => Bo s s') := by
  have no : ok M_Mo_deliver_j215 s (fun _ s' => Bo s s') := zero_bo r hh
  have h0 : (0 : Int32) ≤ gI s 1282 0 := r.1.2.2.2.1.2.2.1.1
  rw [ok_C]
  refine ⟨fun _ => no, fun c => ?_⟩
  have h1 : (0 : Int32) < gI s 1282 0 := Int32.lt_of_le_of_ne h0 (fun z => c z.symm)
  simp only [ok_B, ok_C, ok_R, ok_L, ok_K, ok_GI, ok_GL, ok_PI, ok_PL, ok_AI, ok_AL, ok_SI, ok_SL, ok_Pr, ok_CI, cmp_lt, cmp_le, cmp_gt, cmp_ge, cmp_eq, nar0, nar1, Sum.elim_inl, Sum.elim_inr]
  refine ⟨⟨by decide, by decide⟩, fun _ => ?_, fun _ => no⟩
  have g : GG (sI s 1282 0 1) := add10n r.1 ⟨by decide, by decide⟩ fun i a b => r.1.2.2.2.1.2.2.2.2.2.2.1 i a (by
    show i < gI s 1282 0
    clear no
    have e : i = 0 := by
      clear h0 h1 c
      grind
    rw [e]
    exact h1)
  have rx : Rx s (sI s 1282 0 1) := Rx.hy g ((Hy.refl s).sI (by decide)) r.2.1
  have rx2 := todo_rx rx.1 rx.2.1 2
  refine ⟨rx.trans rx2, ?_, Or.inr ⟨?_, ?_⟩⟩
  · simp only [v_hand_n, gI_sI, gI_sL, gI_sA, gI_sB, gI_sAf, gI_sBf, gL_sI, gL_sL, gL_sA, gL_sB, gL_sAf, gL_sBf, gA_sI, gA_sL, gA_sA, gA_sB, gA_sAf, gA_sBf, gB_sI, gB_sL, gB_sA, gB_sB, gB_sAf, gB_sBf, Nat.reduceEqDiff, Nat.reduceMul, Nat.reduceAdd, false_and, true_and, and_true, and_false, if_true, if_false]
    exact hh
  · simp only [f_todo, gI_sI, gI_sL, gI_sA, gI_sB, gI_sAf, gI_sBf, gL_sI, gL_sL, gL_sA, gL_sB, gL_sAf, gL_sBf, gA_sI, gA_sL, gA_sA, gA_sB, gA_sAf, gA_sBf, gB_sI, gB_sL, gB_sA, gB_sB, gB_sAf, gB_sBf, Nat.reduceEqDiff, Nat.reduceMul, Nat.reduceAdd, false_and, true_and, and_true, and_false, if_true, if_false]
  · have e5 : v_results_n (sI (sI s 1282 0 1) 73 0 2) = 1 := by simp only [v_results_n, gI_sI, gI_sL, gI_sA, gI_sB, gI_sAf, gI_sBf, gL_sI, gL_sL, gL_sA, gL_sB, gL_sAf, gL_sBf, gA_sI, gA_sL, gA_sA, gA_sB, gA_sAf, gA_sBf, gB_sI, gB_sL, gB_sA, gB_sB, gB_sAf, gB_sBf, Nat.reduceEqDiff, Nat.reduceMul, Nat.reduceAdd, false_and, true_and, and_true, and_false, if_true, if_false]
    rw [e5]
    decide
