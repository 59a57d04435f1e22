/-! The run. -/
theorem kq_bi (l : Int32) (h : l ≠ 0) : Kq true (M_Mo_builtIn l) := fun s => by
  unfold M_Mo_builtIn
  rw [ht_C]
  refine ⟨fun z => absurd z h, fun _ => ?_⟩
  refine (?_ : Kq true _) s
  repeat' (first | with_reducible (first | apply kq_B | apply kq_C | exact kq_Mo_builtIn_j388 | exact kq_Mo_tostring | exact kq_Mo_ak _ | exact kq_Mo_builtIn_j158 _ _ | exact kq_Mo_av _ | exact kq_Mo_pcall | exact kq_Mo_setMeta | exact kq_Mo_getMeta | exact kq_Mo_rawOf _ | exact kq_Mo_builtIn_j252 _ | exact kq_Mo_builtIn_j251 | exact kq_Mo_next | exact kq_Mo_select | exact kq_Mo_sub | exact kq_Mo_byteOf | exact kq_Mo_characters | exact kq_Mo_is _ _ | exact kq_Mo_raise _ | exact kq_Mo_give _ _ | exact kq_Mo_builtIn_j344 _ | exact kq_Mo_resume | exact kq_Mo_giveWay | exact kq_Mo_state | exact kq_Mo_running | exact kq_Mo_collection | exact kq_R _ | exact kq_GI _ _ | exact kq_GL _ _ | exact kq_PL _ _ _ | exact kq_AI _ _ _ _ | exact kq_AL _ _ _ _ | exact kq_SI _ _ _ _ _ | exact kq_SL _ _ _ _ _ | exact kq_K _ | exact kq_Pr _ _ | apply kq_L | (refine kq_PI ?_) | apply kq_E | intro _) | omega)
theorem bi95 (s : S1) (l : Int32) (h : q_Bi s) (ho : 0 ≤ gI s 95 0) : ht (M_Mo_builtIn l) s (fun _ s' => 0 ≤ gI s' 95 0) := by
  by_cases c : l = 0
  · unfold M_Mo_builtIn
    rw [ht_C]
    refine ⟨fun _ => ?_, fun z => absurd c z⟩
    rw [ht_B]
    refine ht_mono (print_bo s h ho).ht fun _ s1 w => ?_
    unfold M_Mo_builtIn_j388
    rw [ht_B, ht_PI, ht_R, gI_sI, if_neg (fun z => absurd z.1 (by decide))]
    exact w.2
  · exact ht_mono (kq_bi l c s) fun _ _ e => by
      rw [e.2 rfl]
      exact ho
theorem call95 (s : S1) (h : Out s) (hd : f_todo s = 1) (ho : 0 ≤ gI s 95 0) : ht M_Mo_call s (fun _ s' => 0 ≤ gI s' 95 0) := by
  obtain ⟨g, nc, hh, w⟩ := h
  have w' : Fr true s ∧ v_args_n s ≤ 250 := by
    rcases w with w | w | w | w
    · exact absurd (w.1.symm.trans hd) (by decide)
    · rcases w.1 with q | q <;> exact absurd (q.symm.trans hd) (by decide)
    · exact w.2
    · exact absurd (w.1.symm.trans hd) (by decide)
  clear w
  obtain ⟨fr, ha⟩ := w'
  have r : RI true s := ⟨g, nc, fr⟩
  unfold M_Mo_call
  rw [ht_B, ht_PI]
  have r0 := r.rx (todo_rx g nc 0)
  have h0 : v_hand_n (sI s 73 0 0) = 0 := by
    simp only [v_hand_n, gI_sI, gI_sL, gI_sA, gI_sB, gI_sAf, gI_sBf, gL_sI, gL_sL, gL_sA, gL_sB, gL_sAf, gL_sBf, gA_sI, gA_sL, gA_sA, gA_sB, gA_sAf, gA_sBf, gB_sI, gB_sL, gB_sA, gB_sB, gB_sAf, gB_sBf, Nat.reduceEqDiff, Nat.reduceMul, Nat.reduceAdd, false_and, true_and, and_true, and_false, if_true, if_false]
    exact hh
  have a0 : v_args_n (sI s 73 0 0) ≤ 250 := by
    simp only [v_args_n, gI_sI, gI_sL, gI_sA, gI_sB, gI_sAf, gI_sBf, gL_sI, gL_sL, gL_sA, gL_sB, gL_sAf, gL_sBf, gA_sI, gA_sL, gA_sA, gA_sB, gA_sAf, gA_sBf, gB_sI, gB_sL, gB_sA, gB_sB, gB_sAf, gB_sBf, Nat.reduceEqDiff, Nat.reduceMul, Nat.reduceAdd, false_and, true_and, and_true, and_false, if_true, if_false]
    exact ha
  have t0 : f_todo (sI s 73 0 0) = 0 := by simp only [f_todo, gI_sI, gI_sL, gI_sA, gI_sB, gI_sAf, gI_sBf, gL_sI, gL_sL, gL_sA, gL_sB, gL_sAf, gL_sBf, gA_sI, gA_sL, gA_sA, gA_sB, gA_sAf, gA_sBf, gB_sI, gB_sL, gB_sA, gB_sB, gB_sAf, gB_sBf, Nat.reduceEqDiff, Nat.reduceMul, Nat.reduceAdd, false_and, true_and, and_true, and_false, if_true, if_false]
  have o0 : 0 ≤ gI (sI s 73 0 0) 95 0 := by
    simp only [gI_sI, gI_sL, gI_sA, gI_sB, gI_sAf, gI_sBf, gL_sI, gL_sL, gL_sA, gL_sB, gL_sAf, gL_sBf, gA_sI, gA_sL, gA_sA, gA_sB, gA_sAf, gA_sBf, gB_sI, gB_sL, gB_sA, gB_sB, gB_sAf, gB_sBf, Nat.reduceEqDiff, Nat.reduceMul, Nat.reduceAdd, false_and, true_and, and_true, and_false, if_true, if_false]
    exact ho
  generalize sI s 73 0 0 = s0 at *
  rw [ht_B]
  intro y s1 e
  obtain ⟨rx1, h1, t1, k1⟩ := (callL7_ok s0 r0 h0 a0).ht y s1 e
  have ke := kq_W (b := true) (fun x => kq_Mo_call_L7 x) 0 s0 y s1 e
  have r1 := r0.rx rx1
  have o1 : 0 ≤ gI s1 95 0 := by
    rw [ke.2 rfl]
    exact o0
  have K : ∀ {f : M Unit}, Kq true f → ht f s1 (fun _ s' => 0 ≤ gI s' 95 0) := fun k => ht_mono (k s1) fun _ _ e => by
    rw [e.2 rfl]
    exact o1
  rcases y with y | y | y
  · refine K ?_
    simp only [Sum.elim_inl]
    repeat' (first | with_reducible (first | apply kq_B | apply kq_C | exact kq_Mo_raise _ | exact kq_R _ | exact kq_GI _ _ | exact kq_GL _ _ | exact kq_PL _ _ _ | exact kq_AI _ _ _ _ | exact kq_AL _ _ _ _ | exact kq_SI _ _ _ _ _ | exact kq_SL _ _ _ _ _ | exact kq_K _ | exact kq_Pr _ _ | apply kq_L | (refine kq_PI ?_) | apply kq_E | intro _) | omega)
  · refine K ?_
    simp only [Sum.elim_inl, Sum.elim_inr]
    repeat' (first | with_reducible (first | apply kq_B | apply kq_C | exact kq_Mo_raise _ | exact kq_R _ | exact kq_GI _ _ | exact kq_GL _ _ | exact kq_PL _ _ _ | exact kq_AI _ _ _ _ | exact kq_AL _ _ _ _ | exact kq_SI _ _ _ _ _ | exact kq_SL _ _ _ _ _ | exact kq_K _ | exact kq_Pr _ _ | apply kq_L | (refine kq_PI ?_) | apply kq_E | intro _) | omega)
  · simp only [Sum.elim_inr]
    rw [ht_B, ht_GI, ht_C]
    refine ⟨fun ca => ?_, fun _ => K ?_⟩
    · rw [ht_B, ht_GL, ht_C]
      refine ⟨fun _ => K ?_, fun _ => ?_⟩
      · repeat' (first | with_reducible (first | apply kq_B | apply kq_C | exact kq_Mo_enter _ | exact kq_Mo_goesOn _ _ _ _ _ | exact kq_R _ | exact kq_GI _ _ | exact kq_GL _ _ | exact kq_PL _ _ _ | exact kq_AI _ _ _ _ | exact kq_AL _ _ _ _ | exact kq_SI _ _ _ _ _ | exact kq_SL _ _ _ _ _ | exact kq_K _ | exact kq_Pr _ _ | apply kq_L | (refine kq_PI ?_) | apply kq_E | intro _) | omega)
      · rw [ht_B, ht_GL, ht_B]
        refine ht_mono (bi95 s1 _ ⟨r1, t1.trans t0, h1, ca⟩ o1) fun _ s3 o3 => ?_
        rw [ht_B, ht_GI, ht_C]
        refine ⟨fun _ => ?_, fun _ => ?_⟩
        · rw [ht_R]
          exact o3
        · rw [ht_B, ht_PI, ht_R, gI_sI, if_neg (fun z => absurd z.1 (by decide))]
          exact o3
    · repeat' (first | with_reducible (first | apply kq_B | apply kq_C | exact kq_Mo_raise _ | exact kq_R _ | exact kq_GI _ _ | exact kq_GL _ _ | exact kq_PL _ _ _ | exact kq_AI _ _ _ _ | exact kq_AL _ _ _ _ | exact kq_SI _ _ _ _ _ | exact kq_SL _ _ _ _ _ | exact kq_K _ | exact kq_Pr _ _ | apply kq_L | (refine kq_PI ?_) | apply kq_E | intro _) | omega)
theorem kq_run54 (x : Int32) : Kq false (M_Mo_run_L54 x) := by
  unfold M_Mo_run_L54
  repeat' (first | with_reducible (first | apply kq_B | apply kq_C | exact kq_Mo_call | exact kq_Mo_deliver.weak | exact kq_Mo_error.weak | exact kq_Mo_halt.weak | exact kq_Mo_step.weak | exact kq_R _ | exact kq_GI _ _ | intro _))
def Rn (s : S1) : Prop := 0 ≤ gI s 95 0 ∧ (Fin s ∨ (Out s ∧ gI s 80 0 = 0 ∧ f_todo s = 0))
theorem nu_le (s : S1) : q_nu s < 999999999999 := by
  have l1 := sF_le s
  have l2 := rN_le s
  have l3 := jA_le s
  by_cases c : f_todo s = 0
  · rw [nu_zero c]
    omega
  · by_cases d : f_todo s = 1
    · rw [nu_call d]
      omega
    · rw [nu_else c d]
      have q : (if f_todo s = 2 then 2 else if f_todo s = 3 then 1 else 0) ≤ 2 := by
        split
        · omega
        · split <;> omega
      omega
theorem run_num {x : Int32} (h0 : 0 ≤ x) (h1 : x ≠ 0) : 0 ≤ x + (-1) ∧ (x + (-1)).toNatClampNeg + 1 = x.toNatClampNeg := by
  have c0 : (0 : Int32).toInt = 0 := rfl
  have c1 : (-1 : Int32).toInt = -1 := rfl
  have h2 : x.toInt ≠ 0 := fun e => h1 (Int32.toInt_inj.mp (by rw [e, c0]))
  have hx := x.toInt_lt
  rw [i32_le, c0] at h0
  have y := tI_add (a := x) (b := -1) (by rw [c1]; omega)
  rw [c1] at y
  rw [i32_le, c0]
  unfold Int32.toNatClampNeg
  omega
theorem run54_ok (n : Int32) (s : S1) (h : Out s) (ho : 0 ≤ gI s 95 0) (hn : 0 ≤ n) : ok (oW M_Mo_run_L54 n) s (fun _ s' => Rn s') := by
  refine ok_W (fun x z => 0 ≤ x ∧ 0 ≤ gI z 95 0 ∧ (Fin z ∨ Out z)) (fun x z => x.toNatClampNeg * 1000000000000 + (if gI z 80 0 = 0 then q_nu z + 1 else 0)) ?_ n s ⟨hn, ho, Or.inr h⟩
  rintro x z ⟨x0, oz, w⟩
  have K : ∀ {f : M Unit}, Kq true f → ht f z (fun _ s' => 0 ≤ gI s' 95 0) := fun k => ht_mono (k z) fun _ _ e => by
    rw [e.2 rfl]
    exact oz
  unfold M_Mo_run_L54
  rw [ok_B, ok_GI, ok_C]
  refine ⟨fun c => ?_, fun c => ?_⟩
  · have out : Out z := by
      rcases w with w | w
      · exact absurd c w.2.2.2
      · exact w
    rw [if_pos c]
    have fin : ∀ s', 0 ≤ gI s' 95 0 → Od z s' → ok (oR (Sum.inl x) : M (Int32 ⊕ (Unit ⊕ Unit))) s' (fun y s' => Sum.elim (fun q => (0 ≤ q ∧ 0 ≤ gI s' 95 0 ∧ (Fin s' ∨ Out s')) ∧ q.toNatClampNeg * 1000000000000 + (if gI s' 80 0 = 0 then q_nu s' + 1 else 0) < x.toNatClampNeg * 1000000000000 + (q_nu z + 1)) (fun _ => Rn s') y) := fun s' o d => by
      rw [ok_R]
      refine ⟨⟨x0, o, d.imp id (fun q => q.1)⟩, ?_⟩
      by_cases e : gI s' 80 0 = 0
      · rw [if_pos e]
        rcases d with d | d
        · exact absurd e d.2.2.2
        · have := d.2
          omega
      · rw [if_neg e]
        omega
    rw [ok_B, ok_GI, ok_C]
    refine ⟨fun t1 => ?_, fun t1 => ?_⟩
    · have t1' : f_todo z = 1 := t1
      rw [ok_B]
      refine ok_mono ((call_ok z out t1' oz (fun a s' e => (kq_W (b := true) (fun x => kq_Mo_call_L7 x) 0 _ a s' e).2 rfl)).and (call95 z out t1' oz)) fun _ s' ⟨oc, o⟩ => fin s' o (Or.inr ⟨oc.1, oc.nu t1'⟩)
    rw [ok_B, ok_GI, ok_C]
    refine ⟨fun t2 => ?_, fun t2 => ?_⟩
    · rw [ok_B]
      exact ok_mono ((deliver_ok z out t2).and (K kq_Mo_deliver)) fun _ s' ⟨d, o⟩ => fin s' o d
    rw [ok_B, ok_GI, ok_C]
    refine ⟨fun t3 => ?_, fun t3 => ?_⟩
    · rw [ok_B]
      exact ok_mono ((error_ok z out t3).and (K kq_Mo_error)) fun _ s' ⟨d, o⟩ => fin s' o d
    rw [ok_B, ok_GI, ok_C]
    refine ⟨fun t4 => ?_, fun t4 => ?_⟩
    · rw [ok_B]
      exact ok_mono ((halt_ok z out t4).and (K kq_Mo_halt)) fun _ s' ⟨d, o⟩ => fin s' o d
    have t0 : f_todo z = 0 ∧ Fr false z ∧ Run z := by
      rcases out.2.2.2 with q | q | q | q
      · exact q
      · rcases q.1 with q | q
        · exact absurd q t3
        · exact absurd q t4
      · exact absurd q.1 t1
      · exact absurd q.1 t2
    rw [ok_C]
    refine ⟨fun _ => ?_, fun cx => ?_⟩
    · rw [ok_R]
      exact ⟨oz, Or.inr ⟨out, c, t0.1⟩⟩
    · rw [ok_B]
      refine ok_mono ((q_step_ok z ⟨out.1, out.2.1, t0.2.1⟩ out.2.2.1 t0.1 t0.2.2).and (K kq_Mo_step)) fun _ s' ⟨o, p⟩ => ?_
      obtain ⟨n1, n2⟩ := run_num x0 cx
      rw [ok_R]
      refine ⟨⟨n1, p, Or.inr o⟩, ?_⟩
      have b := nu_le s'
      have q : (if gI s' 80 0 = 0 then q_nu s' + 1 else 0) ≤ q_nu s' + 1 := by
        split
        · exact Nat.le_refl _
        · exact Nat.zero_le _
      omega
  · rw [ok_R]
    refine ⟨oz, Or.inl ?_⟩
    rcases w with w | w
    · exact w
    · exact ⟨w.1, w.2.1, w.2.2.1, c⟩
