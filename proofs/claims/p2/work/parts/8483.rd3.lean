/-! Reading: constants, instructions. -/
def RdC (s s' : S1) : Prop := RdS s s' ∧ Rd s' ∧ nuU s' = nuU s ∧ nuC s' = nuC s ∧ nuK s ≤ nuK s' ∧ (f_fault s' = 0 → nuK s' = nuK s + 1)
theorem RdC.pre {s z s' : S1} (h : RdS s z) (u : nuU z = nuU s) (k : nuK z = nuK s) (c : nuC z = nuC s) (q : RdC z s') : RdC s s' := by
  obtain ⟨q1, q2, q3, q4, q5, q6⟩ := q
  exact ⟨h.trans q1, q2, q3.trans u, q4.trans c, by omega, fun w => by have := q6 w; omega⟩
theorem RdC.nb {s z s' : S1} (h : Nb s z) (q : RdC z s') : RdC s s' := by
  obtain ⟨e1, e2, e3, e4, e5⟩ := h.cn
  exact q.pre h.sx (by simp only [nuU, f_upCount, e2]) (by simp only [nuK, f_constCount, e3]) (by simp only [nuC, f_codeCount, e4])
/-- the constant that was read may be stored -/
def RdV (z : S1) (k : Int32) (v : Int64) : Prop := nuK z + nuC z < 20000 ∧ ((0 ≤ k ∧ k < 4) ∨ (k = 4 ∧ 0 ≤ v.toInt ∧ 0 ≤ (a_constText z (f_constCount z)).toInt ∧ (a_constText z (f_constCount z)).toInt + v.toInt ≤ 65536))
theorem rc184_ok (z : S1) (n i k : Int32) (v : Int64) (h : Rd z) (hk : f_fault z = 0 → RdV z k v) : ok (M_Mo_readConstants_j184 n i k v) z (fun y s' => y = Sum.inl (n, i + 1) ∧ RdC z s') := by
  have c1 : (1 : Int32).toInt = 1 := rfl
  have e25 : (gI z 25 0).toInt = nuK z := rfl
  have e26 : (gI z 26 0).toInt = nuC z := rfl
  obtain ⟨k0, c0, kc⟩ := h.2.2.2.1
  have y := tI_add (a := gI z 25 0) (b := 1) (by rw [e25]; omega)
  simp only [M_Mo_readConstants_j184, M_Mo_readConstants_j213, M_Va_set, ok_B, ok_C, ok_R, ok_L, ok_K, ok_GI, ok_GL, ok_PI, ok_PL, ok_AI, ok_AL, ok_SI, ok_SL, ok_Pr, ok_CI, cmp_lt, cmp_le, cmp_gt, cmp_ge, cmp_eq, nar0, nar1, Sum.elim_inl, Sum.elim_inr, Nat.reduceAdd]
  refine ⟨fun c => ?_, fun c => ⟨by trivial, RdS.refl z, h, rfl, rfl, Int.le_refl _, fun w => absurd w c⟩⟩
  obtain ⟨lt, vk⟩ := hk c
  have k8 : 0 ≤ k ∧ k ≤ 8 := by
    rcases vk with q | q
    · exact ⟨q.1, Int32.le_of_lt (Int32.lt_trans q.2 (by decide))⟩
    · rw [q.1]
      exact ⟨by decide, by decide⟩
  rw [i8_id k8, i8_id k8]
  refine ⟨i32_in 20001 rfl (by rw [e25]; omega), i32_in 20001 rfl (by rw [e25]; omega), by trivial, ⟨⟨?_, ?_, ?_, ?_⟩, ?_, ?_, ?_, ?_, fun _ => ?_⟩⟩
  · refine ⟨fun f j q => ?_, fun _ _ => rfl, fun a u j q => ?_, fun a u j q => ?_, fun w => c, ?_, fun a j p q r t => ?_, fun j p q => ?_, fun j _ _ => ?_, fun j _ _ => ?_, fun j p q => ?_⟩
    · have q1 : f ≠ 25 := by omega
      simp only [gI_sI, gI_sL, gI_sA, gI_sB, gI_sAf, gI_sBf, gL_sI, gL_sL, gL_sA, gL_sB, gL_sAf, gL_sBf, gA_sI, gA_sL, gA_sA, gA_sB, gA_sAf, gA_sBf, gB_sI, gB_sL, gB_sA, gB_sB, gB_sAf, gB_sBf, Nat.reduceEqDiff, Nat.reduceMul, Nat.reduceAdd, false_and, true_and, and_true, and_false, if_true, if_false, q1]
    · have q1 : a ≠ 2 := by omega
      simp only [gI_sI, gI_sL, gI_sA, gI_sB, gI_sAf, gI_sBf, gL_sI, gL_sL, gL_sA, gL_sB, gL_sAf, gL_sBf, gA_sI, gA_sL, gA_sA, gA_sB, gA_sAf, gA_sBf, gB_sI, gB_sL, gB_sA, gB_sB, gB_sAf, gB_sBf, Nat.reduceEqDiff, Nat.reduceMul, Nat.reduceAdd, false_and, true_and, and_true, and_false, if_true, if_false, q1]
    · simp only [gI_sI, gI_sL, gI_sA, gI_sB, gI_sAf, gI_sBf, gL_sI, gL_sL, gL_sA, gL_sB, gL_sAf, gL_sBf, gA_sI, gA_sL, gA_sA, gA_sB, gA_sAf, gA_sBf, gB_sI, gB_sL, gB_sA, gB_sB, gB_sAf, gB_sBf, Nat.reduceEqDiff, Nat.reduceMul, Nat.reduceAdd, false_and, true_and, and_true, and_false, if_true, if_false, q]
    · simp only [nuP, nuU, nuK, nuC, nuH, f_protos, f_upCount, f_constCount, f_codeCount, f_childCount, gI_sI, gI_sL, gI_sA, gI_sB, gI_sAf, gI_sBf, gL_sI, gL_sL, gL_sA, gL_sB, gL_sAf, gL_sBf, gA_sI, gA_sL, gA_sA, gA_sB, gA_sAf, gA_sBf, gB_sI, gB_sL, gB_sA, gB_sB, gB_sAf, gB_sBf, Nat.reduceEqDiff, Nat.reduceMul, Nat.reduceAdd, false_and, true_and, and_true, and_false, if_true, if_false]
      rw [y, c1]
      omega
    · have q1 : a ≠ 2 := by omega
      simp only [gI_sI, gI_sL, gI_sA, gI_sB, gI_sAf, gI_sBf, gL_sI, gL_sL, gL_sA, gL_sB, gL_sAf, gL_sBf, gA_sI, gA_sL, gA_sA, gA_sB, gA_sAf, gA_sBf, gB_sI, gB_sL, gB_sA, gB_sB, gB_sAf, gB_sBf, Nat.reduceEqDiff, Nat.reduceMul, Nat.reduceAdd, false_and, true_and, and_true, and_false, if_true, if_false, q1]
    · simp only [gI_sI, gI_sL, gI_sA, gI_sB, gI_sAf, gI_sBf, gL_sI, gL_sL, gL_sA, gL_sB, gL_sAf, gL_sBf, gA_sI, gA_sL, gA_sA, gA_sB, gA_sAf, gA_sBf, gB_sI, gB_sL, gB_sA, gB_sB, gB_sAf, gB_sBf, Nat.reduceEqDiff, Nat.reduceMul, Nat.reduceAdd, false_and, true_and, and_true, and_false, if_true, if_false]
    · simp only [gI_sI, gI_sL, gI_sA, gI_sB, gI_sAf, gI_sBf, gL_sI, gL_sL, gL_sA, gL_sB, gL_sAf, gL_sBf, gA_sI, gA_sL, gA_sA, gA_sB, gA_sAf, gA_sBf, gB_sI, gB_sL, gB_sA, gB_sB, gB_sAf, gB_sBf, Nat.reduceEqDiff, Nat.reduceMul, Nat.reduceAdd, false_and, true_and, and_true, and_false, if_true, if_false]
    · simp only [gI_sI, gI_sL, gI_sA, gI_sB, gI_sAf, gI_sBf, gL_sI, gL_sL, gL_sA, gL_sB, gL_sAf, gL_sBf, gA_sI, gA_sL, gA_sA, gA_sB, gA_sAf, gA_sBf, gB_sI, gB_sL, gB_sA, gB_sB, gB_sAf, gB_sBf, Nat.reduceEqDiff, Nat.reduceMul, Nat.reduceAdd, false_and, true_and, and_true, and_false, if_true, if_false]
    · have q1 : j ≠ gI z 25 0 := fun w => by
        rw [w, e25] at q
        omega
      simp only [gI_sI, gI_sL, gI_sA, gI_sB, gI_sAf, gI_sBf, gL_sI, gL_sL, gL_sA, gL_sB, gL_sAf, gL_sBf, gA_sI, gA_sL, gA_sA, gA_sB, gA_sAf, gA_sBf, gB_sI, gB_sL, gB_sA, gB_sB, gB_sAf, gB_sBf, Nat.reduceEqDiff, Nat.reduceMul, Nat.reduceAdd, false_and, true_and, and_true, and_false, if_true, if_false, q1]
  · simp only [gI_sI, gI_sL, gI_sA, gI_sB, gI_sAf, gI_sBf, gL_sI, gL_sL, gL_sA, gL_sB, gL_sAf, gL_sBf, gA_sI, gA_sL, gA_sA, gA_sB, gA_sAf, gA_sBf, gB_sI, gB_sL, gB_sA, gB_sB, gB_sAf, gB_sBf, Nat.reduceEqDiff, Nat.reduceMul, Nat.reduceAdd, false_and, true_and, and_true, and_false, if_true, if_false]
  · simp only [gI_sI, gI_sL, gI_sA, gI_sB, gI_sAf, gI_sBf, gL_sI, gL_sL, gL_sA, gL_sB, gL_sAf, gL_sBf, gA_sI, gA_sL, gA_sA, gA_sB, gA_sAf, gA_sBf, gB_sI, gB_sL, gB_sA, gB_sB, gB_sAf, gB_sBf, Nat.reduceEqDiff, Nat.reduceMul, Nat.reduceAdd, false_and, true_and, and_true, and_false, if_true, if_false]
  · intro a u j q
    have q1 : a ≠ 2 := by omega
    simp only [gI_sI, gI_sL, gI_sA, gI_sB, gI_sAf, gI_sBf, gL_sI, gL_sL, gL_sA, gL_sB, gL_sAf, gL_sBf, gA_sI, gA_sL, gA_sA, gA_sB, gA_sAf, gA_sBf, gB_sI, gB_sL, gB_sA, gB_sB, gB_sAf, gB_sBf, Nat.reduceEqDiff, Nat.reduceMul, Nat.reduceAdd, false_and, true_and, and_true, and_false, if_true, if_false, q1]
  · obtain ⟨h1, h2, h3, h4, h5, h6⟩ := h
    unfold RdV at *
    unfold Rd Aw RdK at *
    simp only [nuP, nuU, nuK, nuC, nuH, f_size, f_fault, f_at, f_protos, f_upCount, f_constCount, f_codeCount, f_childCount, v_constants_k, v_constants_v, a_constText, gI_sI, gI_sL, gI_sA, gI_sB, gI_sAf, gI_sBf, gL_sI, gL_sL, gL_sA, gL_sB, gL_sAf, gL_sBf, gA_sI, gA_sL, gA_sA, gA_sB, gA_sAf, gA_sBf, gB_sI, gB_sL, gB_sA, gB_sB, gB_sAf, gB_sBf, Nat.reduceEqDiff, Nat.reduceMul, Nat.reduceAdd, false_and, true_and, and_true, and_false, if_true, if_false] at *
    rw [y, c1]
    refine ⟨h1, h2, h3, by omega, h5, fun j p q => ?_⟩
    by_cases w : j = gI z 25 0
    · simp only [w, if_true]
      exact vk
    · simp only [w, if_false]
      have w2 : j.toInt ≠ (gI z 25 0).toInt := fun e => w (Int32.toInt_inj.mp e)
      exact h6 j p (by omega)
  · simp only [nuU, f_upCount, gI_sI, gI_sL, gI_sA, gI_sB, gI_sAf, gI_sBf, gL_sI, gL_sL, gL_sA, gL_sB, gL_sAf, gL_sBf, gA_sI, gA_sL, gA_sA, gA_sB, gA_sAf, gA_sBf, gB_sI, gB_sL, gB_sA, gB_sB, gB_sAf, gB_sBf, Nat.reduceEqDiff, Nat.reduceMul, Nat.reduceAdd, false_and, true_and, and_true, and_false, if_true, if_false]
  · simp only [nuC, f_codeCount, gI_sI, gI_sL, gI_sA, gI_sB, gI_sAf, gI_sBf, gL_sI, gL_sL, gL_sA, gL_sB, gL_sAf, gL_sBf, gA_sI, gA_sL, gA_sA, gA_sB, gA_sAf, gA_sBf, gB_sI, gB_sL, gB_sA, gB_sB, gB_sAf, gB_sBf, Nat.reduceEqDiff, Nat.reduceMul, Nat.reduceAdd, false_and, true_and, and_true, and_false, if_true, if_false]
  · simp only [nuK, f_constCount, gI_sI, gI_sL, gI_sA, gI_sB, gI_sAf, gI_sBf, gL_sI, gL_sL, gL_sA, gL_sB, gL_sAf, gL_sBf, gA_sI, gA_sL, gA_sA, gA_sB, gA_sAf, gA_sBf, gB_sI, gB_sL, gB_sA, gB_sB, gB_sAf, gB_sBf, Nat.reduceEqDiff, Nat.reduceMul, Nat.reduceAdd, false_and, true_and, and_true, and_false, if_true, if_false]
    rw [y, c1]
    omega
  · simp only [nuK, f_constCount, gI_sI, gI_sL, gI_sA, gI_sB, gI_sAf, gI_sBf, gL_sI, gL_sL, gL_sA, gL_sB, gL_sAf, gL_sBf, gA_sI, gA_sL, gA_sA, gA_sB, gA_sAf, gA_sBf, gB_sI, gB_sL, gB_sA, gB_sB, gB_sAf, gB_sBf, Nat.reduceEqDiff, Nat.reduceMul, Nat.reduceAdd, false_and, true_and, and_true, and_false, if_true, if_false]
    rw [y, c1]
theorem rc110_ok (z : S1) (n i k : Int32) (v : Int64) (h : Rd z) (hk : f_fault z = 0 → nuK z + nuC z < 20000 ∧ 0 ≤ k ∧ k ≤ 4) : ok (M_Mo_readConstants_j110 n i k v) z (fun y s' => y = Sum.inl (n, i + 1) ∧ RdC z s') := by
  have c0 : (0 : Int32).toInt = 0 := rfl
  unfold M_Mo_readConstants_j110
  rw [ok_C]
  refine ⟨fun c => ?_, fun c => rc184_ok z n i k v h fun f => ⟨(hk f).1, Or.inl ⟨(hk f).2.1, Int32.lt_of_le_of_ne (hk f).2.2 c⟩⟩⟩
  rw [ok_B]
  refine ok_mono (q_number_ok z 2 (by decide) h.1) fun w s1 ⟨nb, aw, _, v2, v0⟩ => ?_
  have r1 := h.nb nb aw
  have vb := v2 rfl
  obtain ⟨e1, e2, e3, e4, e5⟩ := nb.cn
  have eK : nuK s1 = nuK z := by simp only [nuK, f_constCount, e3]
  have eC : nuC s1 = nuC z := by simp only [nuC, f_codeCount, e4]
  have e25 : (gI s1 25 0).toInt = nuK s1 := rfl
  obtain ⟨k0, cc0, kc⟩ := r1.2.2.2.1
  have w64 : (w.toInt32.toInt64).toInt = w.toInt32.toInt := Int32.toInt_toInt64 _
  rw [ok_B, ok_GI, ok_B, ok_GI, ok_B, ok_SI]
  refine ⟨i32_in 20001 rfl (by rw [e25]; omega), ?_⟩
  -- the place of the text
  have sx : RdS s1 (sA s1 57 0 (gI s1 25 0) (gI s1 28 0)) := by
    refine ⟨⟨fun _ _ _ => rfl, fun _ _ => rfl, fun a u j q => ?_, fun _ _ _ _ => rfl, fun w => w, ⟨Int.le_refl _, Int.le_refl _, Int.le_refl _, Int.le_refl _, Int.le_refl _⟩, fun a j p q r t => ?_, fun j p q => ?_, fun j _ _ => ?_, fun j _ _ => ?_, fun j p q => ⟨?_, rfl, ?_⟩⟩, rfl, rfl, fun a u j q => ?_⟩
    · have q1 : a ≠ 57 := by omega
      simp only [gI_sI, gI_sL, gI_sA, gI_sB, gI_sAf, gI_sBf, gL_sI, gL_sL, gL_sA, gL_sB, gL_sAf, gL_sBf, gA_sI, gA_sL, gA_sA, gA_sB, gA_sAf, gA_sBf, gB_sI, gB_sL, gB_sA, gB_sB, gB_sAf, gB_sBf, Nat.reduceEqDiff, Nat.reduceMul, Nat.reduceAdd, false_and, true_and, and_true, and_false, if_true, if_false, q1]
    · have q1 : a ≠ 57 := by omega
      simp only [gI_sI, gI_sL, gI_sA, gI_sB, gI_sAf, gI_sBf, gL_sI, gL_sL, gL_sA, gL_sB, gL_sAf, gL_sBf, gA_sI, gA_sL, gA_sA, gA_sB, gA_sAf, gA_sBf, gB_sI, gB_sL, gB_sA, gB_sB, gB_sAf, gB_sBf, Nat.reduceEqDiff, Nat.reduceMul, Nat.reduceAdd, false_and, true_and, and_true, and_false, if_true, if_false, q1]
    · simp only [gI_sI, gI_sL, gI_sA, gI_sB, gI_sAf, gI_sBf, gL_sI, gL_sL, gL_sA, gL_sB, gL_sAf, gL_sBf, gA_sI, gA_sL, gA_sA, gA_sB, gA_sAf, gA_sBf, gB_sI, gB_sL, gB_sA, gB_sB, gB_sAf, gB_sBf, Nat.reduceEqDiff, Nat.reduceMul, Nat.reduceAdd, false_and, true_and, and_true, and_false, if_true, if_false]
    · simp only [gI_sI, gI_sL, gI_sA, gI_sB, gI_sAf, gI_sBf, gL_sI, gL_sL, gL_sA, gL_sB, gL_sAf, gL_sBf, gA_sI, gA_sL, gA_sA, gA_sB, gA_sAf, gA_sBf, gB_sI, gB_sL, gB_sA, gB_sB, gB_sAf, gB_sBf, Nat.reduceEqDiff, Nat.reduceMul, Nat.reduceAdd, false_and, true_and, and_true, and_false, if_true, if_false]
    · simp only [gI_sI, gI_sL, gI_sA, gI_sB, gI_sAf, gI_sBf, gL_sI, gL_sL, gL_sA, gL_sB, gL_sAf, gL_sBf, gA_sI, gA_sL, gA_sA, gA_sB, gA_sAf, gA_sBf, gB_sI, gB_sL, gB_sA, gB_sB, gB_sAf, gB_sBf, Nat.reduceEqDiff, Nat.reduceMul, Nat.reduceAdd, false_and, true_and, and_true, and_false, if_true, if_false]
    · simp only [gI_sI, gI_sL, gI_sA, gI_sB, gI_sAf, gI_sBf, gL_sI, gL_sL, gL_sA, gL_sB, gL_sAf, gL_sBf, gA_sI, gA_sL, gA_sA, gA_sB, gA_sAf, gA_sBf, gB_sI, gB_sL, gB_sA, gB_sB, gB_sAf, gB_sBf, Nat.reduceEqDiff, Nat.reduceMul, Nat.reduceAdd, false_and, true_and, and_true, and_false, if_true, if_false]
    · have q1 : j ≠ gI s1 25 0 := fun w => by
        rw [w, e25] at q
        omega
      simp only [gI_sI, gI_sL, gI_sA, gI_sB, gI_sAf, gI_sBf, gL_sI, gL_sL, gL_sA, gL_sB, gL_sAf, gL_sBf, gA_sI, gA_sL, gA_sA, gA_sB, gA_sAf, gA_sBf, gB_sI, gB_sL, gB_sA, gB_sB, gB_sAf, gB_sBf, Nat.reduceEqDiff, Nat.reduceMul, Nat.reduceAdd, false_and, true_and, and_true, and_false, if_true, if_false, q1]
    · have q1 : a ≠ 57 := by omega
      simp only [gI_sI, gI_sL, gI_sA, gI_sB, gI_sAf, gI_sBf, gL_sI, gL_sL, gL_sA, gL_sB, gL_sAf, gL_sBf, gA_sI, gA_sL, gA_sA, gA_sB, gA_sAf, gA_sBf, gB_sI, gB_sL, gB_sA, gB_sB, gB_sAf, gB_sBf, Nat.reduceEqDiff, Nat.reduceMul, Nat.reduceAdd, false_and, true_and, and_true, and_false, if_true, if_false, q1]
  have r2 : Rd (sA s1 57 0 (gI s1 25 0) (gI s1 28 0)) := by
    obtain ⟨h1, h2, h3, h4, h5, h6⟩ := r1
    refine ⟨h1, h2, h3, h4, h5, fun j p q => ?_⟩
    have t := sx.1.2.2.2.2.2.2.2.2.2.2 j p q
    simp only [v_constants_k, v_constants_v, a_constText]
    rw [t.1, t.2.1, t.2.2]
    exact h6 j p q
  have t2 : gA (sA s1 57 0 (gI s1 25 0) (gI s1 28 0)) 57 0 (gI s1 25 0) = gI s1 28 0 := by simp only [gI_sI, gI_sL, gI_sA, gI_sB, gI_sAf, gI_sBf, gL_sI, gL_sL, gL_sA, gL_sB, gL_sAf, gL_sBf, gA_sI, gA_sL, gA_sA, gA_sB, gA_sAf, gA_sBf, gB_sI, gB_sL, gB_sA, gB_sB, gB_sAf, gB_sBf, Nat.reduceEqDiff, Nat.reduceMul, Nat.reduceAdd, false_and, true_and, and_true, and_false, if_true, if_false]
  have I2 : ∀ f j, gI (sA s1 57 0 (gI s1 25 0) (gI s1 28 0)) f j = gI s1 f j := fun _ _ => rfl
  generalize sA s1 57 0 (gI s1 25 0) (gI s1 28 0) = z2 at *
  have fz : f_fault z2 = f_fault s1 := I2 3 0
  have P : ∀ {α : Type} {f : M α} {Q : α → Prop}, ok f z2 (fun y s' => Q y ∧ RdC z2 s') → ok f z2 (fun y s' => Q y ∧ RdC z s') := fun q => ok_mono q fun _ _ ⟨a, b⟩ => ⟨a, (b.pre sx (by simp only [nuU, f_upCount, I2]) (by simp only [nuK, f_constCount, I2]) (by simp only [nuC, f_codeCount, I2])).nb nb⟩
  have go : ∀ s3, Nb z2 s3 → Aw s3 → (f_fault s3 = 0 → gI s3 28 0 = gI z2 28 0 ∧ (f_at z2).toInt + w.toInt32.toInt ≤ (f_size z2).toInt) → ok (M_Mo_readConstants_j173 n i k w.toInt32.toInt64 w.toInt32) s3 (fun y s' => y = Sum.inl (n, i + 1) ∧ RdC z2 s') := fun s3 nb3 aw3 hf => by
    have r3 := r2.nb nb3 aw3
    unfold M_Mo_readConstants_j173
    rw [ok_B, ok_GI, ok_B, ok_PI]
    have nb4 : Nb s3 (sI s3 28 0 (gI s3 28 0 + w.toInt32)) := ⟨fun f j q r t u => by simp only [gI_sI, gI_sL, gI_sA, gI_sB, gI_sAf, gI_sBf, gL_sI, gL_sL, gL_sA, gL_sB, gL_sAf, gL_sBf, gA_sI, gA_sL, gA_sA, gA_sB, gA_sAf, gA_sBf, gB_sI, gB_sL, gB_sA, gB_sB, gB_sAf, gB_sBf, Nat.reduceEqDiff, Nat.reduceMul, Nat.reduceAdd, false_and, true_and, and_true, and_false, if_true, if_false, t], fun _ _ => rfl, fun _ _ _ => rfl, fun _ _ _ => rfl, fun q => by simp only [f_fault, gI_sI, gI_sL, gI_sA, gI_sB, gI_sAf, gI_sBf, gL_sI, gL_sL, gL_sA, gL_sB, gL_sAf, gL_sBf, gA_sI, gA_sL, gA_sA, gA_sB, gA_sAf, gA_sBf, gB_sI, gB_sL, gB_sA, gB_sB, gB_sAf, gB_sBf, Nat.reduceEqDiff, Nat.reduceMul, Nat.reduceAdd, false_and, true_and, and_true, and_false, if_true, if_false] at q; exact q⟩
    have es : f_size s3 = f_size z2 := nb3.1 1 0 (by decide) (by decide) (by decide) (by decide)
    have aw4 : Aw (sI s3 28 0 (gI s3 28 0 + w.toInt32)) := by
      refine ⟨?_, fun q => ?_⟩
      · simp only [f_size, gI_sI, gI_sL, gI_sA, gI_sB, gI_sAf, gI_sBf, gL_sI, gL_sL, gL_sA, gL_sB, gL_sAf, gL_sBf, gA_sI, gA_sL, gA_sA, gA_sB, gA_sAf, gA_sBf, gB_sI, gB_sL, gB_sA, gB_sB, gB_sAf, gB_sBf, Nat.reduceEqDiff, Nat.reduceMul, Nat.reduceAdd, false_and, true_and, and_true, and_false, if_true, if_false]
        exact aw3.1
      · simp only [f_fault, gI_sI, gI_sL, gI_sA, gI_sB, gI_sAf, gI_sBf, gL_sI, gL_sL, gL_sA, gL_sB, gL_sAf, gL_sBf, gA_sI, gA_sL, gA_sA, gA_sB, gA_sAf, gA_sBf, gB_sI, gB_sL, gB_sA, gB_sB, gB_sAf, gB_sBf, Nat.reduceEqDiff, Nat.reduceMul, Nat.reduceAdd, false_and, true_and, and_true, and_false, if_true, if_false] at q
        obtain ⟨g1, g2⟩ := hf q
        have a2 := aw3.2 q
        have e28 : (f_at s3).toInt = (gI s3 28 0).toInt := rfl
        have e28' : (f_at z2).toInt = (gI z2 28 0).toInt := rfl
        have q_sz := aw3.1.2
        rw [g1] at e28
        have y := tI_add (a := gI s3 28 0) (b := w.toInt32) (by rw [g1]; rw [es] at q_sz; omega)
        simp only [f_at, f_size, gI_sI, gI_sL, gI_sA, gI_sB, gI_sAf, gI_sBf, gL_sI, gL_sL, gL_sA, gL_sB, gL_sAf, gL_sBf, gA_sI, gA_sL, gA_sA, gA_sB, gA_sAf, gA_sBf, gB_sI, gB_sL, gB_sA, gB_sB, gB_sAf, gB_sBf, Nat.reduceEqDiff, Nat.reduceMul, Nat.reduceAdd, false_and, true_and, and_true, and_false, if_true, if_false]
        rw [y, g1]
        have e1 : (gI s3 1 0).toInt = (f_size z2).toInt := by rw [← es]
        omega
    have r4 := r3.nb nb4 aw4
    have nn := nb3.trans nb4
    refine ok_mono (rc184_ok _ n i k _ r4 fun q => ?_) fun _ s5 ⟨a, b⟩ => ⟨a, b.nb nn⟩
    have q3 : f_fault s3 = 0 := nb4.2.2.2.2 q
    obtain ⟨g1, g2⟩ := hf q3
    have qz := nb.2.2.2.2 (show f_fault s1 = 0 from by
      rw [← fz]
      exact nb3.2.2.2.2 q3)
    have kz := hk qz
    obtain ⟨x1, x2, x3, x4, x5⟩ := nn.cn
    refine ⟨?_, Or.inr ⟨c, ?_, ?_, ?_⟩⟩
    · simp only [nuK, nuC, f_constCount, f_codeCount, x3, x4, I2] at *
      rw [e3, e4]
      exact kz.1
    · rw [w64]
      exact vb.1
    · simp only [a_constText, f_constCount, x3, nn.2.2.1, I2]
      rw [t2]
      have a2 := (aw.2 (by rw [← fz]; exact nb3.2.2.2.2 q3)).1
      exact a2
    · rw [w64]
      simp only [a_constText, f_constCount, x3, nn.2.2.1, I2]
      rw [t2]
      have q_sz := aw.1.2
      have e1 : (f_at z2).toInt = (gI s1 28 0).toInt := by simp only [f_at, I2]
      have e2 : (f_size z2).toInt = (f_size s1).toInt := by simp only [f_size, I2]
      omega
  have awz : Aw z2 := r2.1
  refine P ?_
  rw [ok_B, ok_GI, ok_C]
  refine ⟨fun f => ?_, fun f => go z2 (Nb.refl z2) awz fun q => absurd q f⟩
  rw [ok_B, ok_GI, ok_B, ok_GI, ok_C]
  have a2 := awz.2 f
  have e1 : (gI z2 1 0).toInt = (f_size z2).toInt := rfl
  have e28 : (gI z2 28 0).toInt = (f_at z2).toInt := rfl
  have y := tI_sub (a := gI z2 1 0) (b := gI z2 28 0) (by have := awz.1; omega)
  refine ⟨fun d => go z2 (Nb.refl z2) awz fun _ => ⟨rfl, ?_⟩, fun d => ?_⟩
  · rw [i32_le, y] at d
    omega
  · rw [ok_B, ok_GI, ok_B]
    exact ok_mono (bad_ok z2 1 _ (by decide) awz) fun _ s3 ⟨nb3, aw3, f3, _⟩ => go s3 nb3 aw3 fun q => absurd q f3
theorem rc90_ok (z : S1) (n i k q : Int32) (h : Rd z) (h0 : 0 ≤ k) (hk : f_fault z = 0 → nuK z + nuC z < 20000) (hq : q = 0 ∨ k ≤ 4) : ok (M_Mo_readConstants_j90 n i k q) z (fun y s' => y = Sum.inl (n, i + 1) ∧ RdC z s') := by
  unfold M_Mo_readConstants_j90
  rw [ok_B]
  refine ok_mono (need_ok z q h.1) fun _ s1 ⟨nb, aw, e28, w⟩ => ?_
  have r1 := h.nb nb aw
  have key : ∀ s2, Nb s1 s2 → Aw s2 → f_fault s2 = 0 → nuK s2 + nuC s2 < 20000 ∧ 0 ≤ k ∧ k ≤ 4 := fun s2 nb2 aw2 f => by
    have f1 := nb2.2.2.2.2 f
    obtain ⟨x1, x2, x3, x4, x5⟩ := (nb.trans nb2).cn
    refine ⟨?_, h0, hq.resolve_left (w f1)⟩
    simp only [nuK, nuC, f_constCount, f_codeCount, x3, x4]
    exact hk (nb.2.2.2.2 f1)
  rw [ok_C]
  refine ⟨fun _ => ?_, fun _ => ok_mono (rc110_ok s1 n i k 0 r1 (key s1 (Nb.refl s1) aw)) fun _ _ ⟨a, b⟩ => ⟨a, b.nb nb⟩⟩
  rw [ok_B]
  refine ok_mono (q_number_ok s1 8 (by decide) aw) fun v s2 ⟨nb2, aw2, _⟩ => ?_
  exact ok_mono (rc110_ok s2 n i k v (r1.nb nb2 aw2) (key s2 nb2 aw2)) fun _ _ ⟨a, b⟩ => ⟨a, b.nb (nb.trans nb2)⟩
theorem rc78_ok (z : S1) (n i k : Int32) (h : Rd z) (h0 : 0 ≤ k) (hk : f_fault z = 0 → nuK z + nuC z < 20000) : ok (M_Mo_readConstants_j78 n i k) z (fun y s' => y = Sum.inl (n, i + 1) ∧ RdC z s') := by
  unfold M_Mo_readConstants_j78
  rw [ok_C]
  refine ⟨fun _ => rc90_ok z n i k 0 h h0 hk (Or.inl rfl), fun c => rc90_ok z n i k 1 h h0 hk (Or.inr ?_)⟩
  clear hk h
  grind
theorem lp_num {n i : Int32} (hn : n.toInt ≤ 65535) (i0 : 0 ≤ i.toInt) (c : ¬ n ≤ i) : (i + 1).toInt = i.toInt + 1 ∧ i.toInt + 1 ≤ n.toInt ∧ (n - (i + 1)).toNatClampNeg < (n - i).toNatClampNeg := by
  have c1 : (1 : Int32).toInt = 1 := rfl
  have c' := Int32.not_le.mp c
  rw [i32_lt] at c'
  have y1 := tI_add (a := i) (b := 1) (by omega)
  have y2 := tI_sub (a := n) (b := i) (by omega)
  have y3 := tI_sub (a := n) (b := i + 1) (by omega)
  unfold Int32.toNatClampNeg
  omega
theorem rc26_ok (s : S1) (n : Int32) (h : Rd s) (hn : 0 ≤ n.toInt ∧ n.toInt ≤ 65535) : ok (oW M_Mo_readConstants_L26 (n, 0)) s (fun _ s' => RdS s s' ∧ Rd s' ∧ nuU s' = nuU s ∧ nuC s' = nuC s ∧ (f_fault s' = 0 → nuK s' = nuK s + n.toInt)) := by
  have c0 : (0 : Int32).toInt = 0 := rfl
  refine ok_W (fun y z => y.1 = n ∧ (0 ≤ y.2.toInt ∧ y.2.toInt ≤ n.toInt) ∧ RdS s z ∧ Rd z ∧ nuU z = nuU s ∧ nuC z = nuC s ∧ (f_fault z = 0 → nuK z = nuK s + y.2.toInt)) (fun y _ => (n - y.2).toNatClampNeg) ?_ (n, 0) s ⟨rfl, ⟨(show (0 : Int) ≤ (0 : Int32).toInt by decide), hn.1⟩, RdS.refl s, h, rfl, rfl, fun _ => by show _ = _ + (0 : Int32).toInt; rw [c0]; omega⟩
  rintro ⟨n', i⟩ z ⟨en, ⟨i0, i1⟩, sx, r, u, c, k⟩
  dsimp only at en i0 i1 k
  rw [en]
  unfold M_Mo_readConstants_L26
  dsimp only
  rw [ok_C]
  refine ⟨fun d => ?_, fun d => ?_⟩
  · rw [ok_R]
    rw [i32_le] at d
    exact ⟨sx, r, u, c, fun f => by have := k f; omega⟩
  obtain ⟨m1, m2, m3⟩ := lp_num hn.2 i0 d
  rw [ok_B, ok_GI, ok_C]
  refine ⟨fun f => ?_, fun f => ?_⟩
  · rw [ok_B]
    refine ok_mono (q_number_ok z 1 (by decide) r.1) fun v s1 ⟨nb, aw, v1, _, _⟩ => ?_
    have r1 := r.nb nb aw
    have v0 : 0 ≤ v.toInt32 := by
      rw [i32_le, c0]
      exact (v1 rfl).1
    have fin : ∀ s2, Nb z s2 → Aw s2 → (f_fault s2 = 0 → nuK s2 + nuC s2 < 20000) → ok (M_Mo_readConstants_j78 n i v.toInt32) s2 (fun y s' => Sum.elim (fun q => (q.1 = n ∧ (0 ≤ q.2.toInt ∧ q.2.toInt ≤ n.toInt) ∧ RdS s s' ∧ Rd s' ∧ nuU s' = nuU s ∧ nuC s' = nuC s ∧ (f_fault s' = 0 → nuK s' = nuK s + q.2.toInt)) ∧ (n - q.2).toNatClampNeg < (n - i).toNatClampNeg) (fun _ => RdS s s' ∧ Rd s' ∧ nuU s' = nuU s ∧ nuC s' = nuC s ∧ (f_fault s' = 0 → nuK s' = nuK s + n.toInt)) y) := fun s2 nb2 aw2 hk => by
      refine ok_mono (rc78_ok s2 n i _ (r.nb nb2 aw2) v0 hk) fun y s' ⟨ey, q⟩ => ?_
      obtain ⟨q1, q2, q3, q4, q5, q6⟩ := q.nb nb2
      rw [ey]
      simp only [Sum.elim_inl]
      refine ⟨⟨by trivial, ⟨by omega, by omega⟩, sx.trans q1, q2, q3.trans u, q4.trans c, fun f' => ?_⟩, m3⟩
      have a := q6 f'
      have b := k (q1.1.2.2.2.2.1 f')
      omega
    rw [ok_B, ok_GI, ok_C]
    refine ⟨fun f1 => ?_, fun f1 => fin s1 nb aw fun w => absurd w f1⟩
    rw [ok_B, ok_GI, ok_B, ok_GI, ok_C]
    have e25 : (gI s1 25 0).toInt = nuK s1 := rfl
    have e26 : (gI s1 26 0).toInt = nuC s1 := rfl
    have b := r1.2.2.2.1
    have y := tI_add (a := gI s1 25 0) (b := gI s1 26 0) (by rw [e25, e26]; omega)
    have c2 : (20000 : Int32).toInt = 20000 := rfl
    refine ⟨fun _ => ?_, fun e => fin s1 nb aw fun _ => ?_⟩
    · rw [ok_B, ok_GI, ok_B]
      exact ok_mono (bad_ok s1 4 _ (by decide) aw) fun _ s2 ⟨nb2, aw2, f2, _⟩ => fin s2 (nb.trans nb2) aw2 fun w => absurd w f2
    · have ne : nuK s1 + nuC s1 ≠ 20000 := fun w => e (Int32.toInt_inj.mp (by rw [y, e25, e26, c2]; exact w))
      omega
  · rw [ok_R]
    exact ⟨sx, r, u, c, fun w => absurd w f⟩
/-- the instructions -/
theorem co307_ok (s : S1) (rec : Int32 → Int32 → M Unit) (a b n : Int32) (h : Rd s) (hn : n.toInt ≤ 65535) : ok (oW (M_Mo_proto_L307 rec) (a, b, n, 0)) s (fun y s' => Sum.elim (fun q => q = (a, b)) (fun q => q = (a, b)) y ∧ RdS s s' ∧ Rd s' ∧ nuU s' = nuU s ∧ nuK s' = nuK s ∧ (f_fault s' = 0 → 0 ≤ n.toInt → nuC s' = nuC s + n.toInt)) := by
  have c0 : (0 : Int32).toInt = 0 := rfl
  have c1 : (1 : Int32).toInt = 1 := rfl
  refine ok_W (fun y z => (y.1 = a ∧ y.2.1 = b ∧ y.2.2.1 = n) ∧ (0 ≤ y.2.2.2.toInt ∧ (0 ≤ n.toInt → y.2.2.2.toInt ≤ n.toInt)) ∧ RdS s z ∧ Rd z ∧ nuU z = nuU s ∧ nuK z = nuK s ∧ (f_fault z = 0 → nuC z = nuC s + y.2.2.2.toInt)) (fun y _ => (n - y.2.2.2).toNatClampNeg) ?_ (a, b, n, 0) s ⟨⟨rfl, rfl, rfl⟩, ⟨(show (0 : Int) ≤ (0 : Int32).toInt by decide), fun w => w⟩, RdS.refl s, h, rfl, rfl, fun _ => by show _ = _ + (0 : Int32).toInt; rw [c0]; omega⟩
  rintro ⟨y1, y2, y3, i⟩ z ⟨⟨e1, e2, e3⟩, ⟨i0, i1⟩, sx, r, u, k, c⟩
  dsimp only at e1 e2 e3 i0 i1 c
  rw [e1, e2, e3]
  unfold M_Mo_proto_L307
  dsimp only
  rw [ok_C]
  refine ⟨fun d => ?_, fun d => ?_⟩
  · rw [ok_R]
    rw [i32_le] at d
    refine ⟨rfl, sx, r, u, k, fun f n0 => ?_⟩
    have := c f
    have := i1 n0
    omega
  obtain ⟨m1, m2, m3⟩ := lp_num hn i0 d
  rw [ok_B, ok_GI, ok_C]
  refine ⟨fun f => ?_, fun f => ?_⟩
  · rw [ok_B, ok_GI, ok_B]
    refine ok_mono (q_number_ok z 4 (by decide) r.1) fun v s1 ⟨nb, aw, _⟩ => ?_
    have r1 := r.nb nb aw
    have fin : ∀ s2 (x w : Int32), Nb z s2 → Aw s2 → (f_fault s2 = 0 → nuK s2 + nuC s2 < 20000) → ok (M_Mo_proto_j365 rec a b n i x w) s2 (fun y s' => Sum.elim (fun q => ((q.1 = a ∧ q.2.1 = b ∧ q.2.2.1 = n) ∧ (0 ≤ q.2.2.2.toInt ∧ (0 ≤ n.toInt → q.2.2.2.toInt ≤ n.toInt)) ∧ RdS s s' ∧ Rd s' ∧ nuU s' = nuU s ∧ nuK s' = nuK s ∧ (f_fault s' = 0 → nuC s' = nuC s + q.2.2.2.toInt)) ∧ (n - q.2.2.2).toNatClampNeg < (n - i).toNatClampNeg) (fun y => Sum.elim (fun q => q = (a, b)) (fun q => q = (a, b)) y ∧ RdS s s' ∧ Rd s' ∧ nuU s' = nuU s ∧ nuK s' = nuK s ∧ (f_fault s' = 0 → 0 ≤ n.toInt → nuC s' = nuC s + n.toInt)) y) := fun s2 x w nb2 aw2 hk => by
      have r2 := r.nb nb2 aw2
      obtain ⟨x1, x2, x3, x4, x5⟩ := nb2.cn
      have e26 : (gI s2 26 0).toInt = nuC s2 := rfl
      have b2 := r2.2.2.2.1
      have yy := tI_add (a := gI s2 26 0) (b := 1) (by rw [e26]; omega)
      simp only [M_Mo_proto_j365, ok_B, ok_C, ok_R, ok_L, ok_K, ok_GI, ok_GL, ok_PI, ok_PL, ok_AI, ok_AL, ok_SI, ok_SL, ok_Pr, ok_CI, cmp_lt, cmp_le, cmp_gt, cmp_ge, cmp_eq, nar0, nar1, Sum.elim_inl, Sum.elim_inr]
      refine ⟨fun g => ?_, fun g => ⟨by trivial, sx.trans nb2.sx, r2, ?_, ?_, fun w' => absurd w' g⟩⟩
      · have lt := hk g
        have in1 : 0 ≤ gI s2 26 0 ∧ gI s2 26 0 < 20001 := i32_in 20001 rfl (by rw [e26]; omega)
        refine ⟨in1, in1, ⟨⟨by trivial, by trivial, by trivial⟩, ⟨by omega, fun n0 => by omega⟩, (sx.trans nb2.sx).trans ⟨?_, ?_, ?_, ?_⟩, ?_, ?_, ?_, ?_⟩, m3⟩
        · refine ⟨fun f' j q => ?_, fun _ _ => rfl, fun a' u' j q => ?_, fun a' u' j q => rfl, fun w' => g, ?_, fun a' j p q r' t => ?_, fun j p q => ?_, fun j _ _ => ?_, fun j p q => ?_, fun j p q => ?_⟩
          · have q1 : f' ≠ 26 := by omega
            simp only [gI_sI, gI_sL, gI_sA, gI_sB, gI_sAf, gI_sBf, gL_sI, gL_sL, gL_sA, gL_sB, gL_sAf, gL_sBf, gA_sI, gA_sL, gA_sA, gA_sB, gA_sAf, gA_sBf, gB_sI, gB_sL, gB_sA, gB_sB, gB_sAf, gB_sBf, Nat.reduceEqDiff, Nat.reduceMul, Nat.reduceAdd, false_and, true_and, and_true, and_false, if_true, if_false, q1]
          · have q1 : a' ≠ 55 := by omega
            have q2 : a' ≠ 56 := by omega
            simp only [gI_sI, gI_sL, gI_sA, gI_sB, gI_sAf, gI_sBf, gL_sI, gL_sL, gL_sA, gL_sB, gL_sAf, gL_sBf, gA_sI, gA_sL, gA_sA, gA_sB, gA_sAf, gA_sBf, gB_sI, gB_sL, gB_sA, gB_sB, gB_sAf, gB_sBf, Nat.reduceEqDiff, Nat.reduceMul, Nat.reduceAdd, false_and, true_and, and_true, and_false, if_true, if_false, q1, q2]
          · simp only [nuP, nuU, nuK, nuC, nuH, f_protos, f_upCount, f_constCount, f_codeCount, f_childCount, gI_sI, gI_sL, gI_sA, gI_sB, gI_sAf, gI_sBf, gL_sI, gL_sL, gL_sA, gL_sB, gL_sAf, gL_sBf, gA_sI, gA_sL, gA_sA, gA_sB, gA_sAf, gA_sBf, gB_sI, gB_sL, gB_sA, gB_sB, gB_sAf, gB_sBf, Nat.reduceEqDiff, Nat.reduceMul, Nat.reduceAdd, false_and, true_and, and_true, and_false, if_true, if_false]
            rw [yy, c1]
            omega
          · have q1 : a' ≠ 55 := by omega
            have q2 : a' ≠ 56 := by omega
            simp only [gI_sI, gI_sL, gI_sA, gI_sB, gI_sAf, gI_sBf, gL_sI, gL_sL, gL_sA, gL_sB, gL_sAf, gL_sBf, gA_sI, gA_sL, gA_sA, gA_sB, gA_sAf, gA_sBf, gB_sI, gB_sL, gB_sA, gB_sB, gB_sAf, gB_sBf, Nat.reduceEqDiff, Nat.reduceMul, Nat.reduceAdd, false_and, true_and, and_true, and_false, if_true, if_false, q1, q2]
          · simp only [gI_sI, gI_sL, gI_sA, gI_sB, gI_sAf, gI_sBf, gL_sI, gL_sL, gL_sA, gL_sB, gL_sAf, gL_sBf, gA_sI, gA_sL, gA_sA, gA_sB, gA_sAf, gA_sBf, gB_sI, gB_sL, gB_sA, gB_sB, gB_sAf, gB_sBf, Nat.reduceEqDiff, Nat.reduceMul, Nat.reduceAdd, false_and, true_and, and_true, and_false, if_true, if_false]
          · simp only [gI_sI, gI_sL, gI_sA, gI_sB, gI_sAf, gI_sBf, gL_sI, gL_sL, gL_sA, gL_sB, gL_sAf, gL_sBf, gA_sI, gA_sL, gA_sA, gA_sB, gA_sAf, gA_sBf, gB_sI, gB_sL, gB_sA, gB_sB, gB_sAf, gB_sBf, Nat.reduceEqDiff, Nat.reduceMul, Nat.reduceAdd, false_and, true_and, and_true, and_false, if_true, if_false]
          · have q1 : j ≠ gI s2 26 0 := fun w' => by
              rw [w', e26] at q
              omega
            simp only [gI_sI, gI_sL, gI_sA, gI_sB, gI_sAf, gI_sBf, gL_sI, gL_sL, gL_sA, gL_sB, gL_sAf, gL_sBf, gA_sI, gA_sL, gA_sA, gA_sB, gA_sAf, gA_sBf, gB_sI, gB_sL, gB_sA, gB_sB, gB_sAf, gB_sBf, Nat.reduceEqDiff, Nat.reduceMul, Nat.reduceAdd, false_and, true_and, and_true, and_false, if_true, if_false, q1]
          · simp only [gI_sI, gI_sL, gI_sA, gI_sB, gI_sAf, gI_sBf, gL_sI, gL_sL, gL_sA, gL_sB, gL_sAf, gL_sBf, gA_sI, gA_sL, gA_sA, gA_sB, gA_sAf, gA_sBf, gB_sI, gB_sL, gB_sA, gB_sB, gB_sAf, gB_sBf, Nat.reduceEqDiff, Nat.reduceMul, Nat.reduceAdd, false_and, true_and, and_true, and_false, if_true, if_false]
        · simp only [gI_sI, gI_sL, gI_sA, gI_sB, gI_sAf, gI_sBf, gL_sI, gL_sL, gL_sA, gL_sB, gL_sAf, gL_sBf, gA_sI, gA_sL, gA_sA, gA_sB, gA_sAf, gA_sBf, gB_sI, gB_sL, gB_sA, gB_sB, gB_sAf, gB_sBf, Nat.reduceEqDiff, Nat.reduceMul, Nat.reduceAdd, false_and, true_and, and_true, and_false, if_true, if_false]
        · simp only [gI_sI, gI_sL, gI_sA, gI_sB, gI_sAf, gI_sBf, gL_sI, gL_sL, gL_sA, gL_sB, gL_sAf, gL_sBf, gA_sI, gA_sL, gA_sA, gA_sB, gA_sAf, gA_sBf, gB_sI, gB_sL, gB_sA, gB_sB, gB_sAf, gB_sBf, Nat.reduceEqDiff, Nat.reduceMul, Nat.reduceAdd, false_and, true_and, and_true, and_false, if_true, if_false]
        · intro a' u' j q
          have q1 : a' ≠ 55 := by omega
          have q2 : a' ≠ 56 := by omega
          simp only [gI_sI, gI_sL, gI_sA, gI_sB, gI_sAf, gI_sBf, gL_sI, gL_sL, gL_sA, gL_sB, gL_sAf, gL_sBf, gA_sI, gA_sL, gA_sA, gA_sB, gA_sAf, gA_sBf, gB_sI, gB_sL, gB_sA, gB_sB, gB_sAf, gB_sBf, Nat.reduceEqDiff, Nat.reduceMul, Nat.reduceAdd, false_and, true_and, and_true, and_false, if_true, if_false, q1, q2]
        · obtain ⟨h1, h2, h3, h4, h5, h6⟩ := r2
          unfold Rd Aw RdK at *
          simp only [nuP, nuU, nuK, nuC, nuH, f_size, f_fault, f_at, f_protos, f_upCount, f_constCount, f_codeCount, f_childCount, v_constants_k, v_constants_v, a_constText, gI_sI, gI_sL, gI_sA, gI_sB, gI_sAf, gI_sBf, gL_sI, gL_sL, gL_sA, gL_sB, gL_sAf, gL_sBf, gA_sI, gA_sL, gA_sA, gA_sB, gA_sAf, gA_sBf, gB_sI, gB_sL, gB_sA, gB_sB, gB_sAf, gB_sBf, Nat.reduceEqDiff, Nat.reduceMul, Nat.reduceAdd, false_and, true_and, and_true, and_false, if_true, if_false] at *
          rw [yy, c1]
          exact ⟨h1, h2, h3, by omega, h5, h6⟩
        · simp only [nuU, f_upCount, gI_sI, gI_sL, gI_sA, gI_sB, gI_sAf, gI_sBf, gL_sI, gL_sL, gL_sA, gL_sB, gL_sAf, gL_sBf, gA_sI, gA_sL, gA_sA, gA_sB, gA_sAf, gA_sBf, gB_sI, gB_sL, gB_sA, gB_sB, gB_sAf, gB_sBf, Nat.reduceEqDiff, Nat.reduceMul, Nat.reduceAdd, false_and, true_and, and_true, and_false, if_true, if_false]
          rw [x2]
          exact u
        · simp only [nuK, f_constCount, gI_sI, gI_sL, gI_sA, gI_sB, gI_sAf, gI_sBf, gL_sI, gL_sL, gL_sA, gL_sB, gL_sAf, gL_sBf, gA_sI, gA_sL, gA_sA, gA_sB, gA_sAf, gA_sBf, gB_sI, gB_sL, gB_sA, gB_sB, gB_sAf, gB_sBf, Nat.reduceEqDiff, Nat.reduceMul, Nat.reduceAdd, false_and, true_and, and_true, and_false, if_true, if_false]
          rw [x3]
          exact k
        · intro _
          have cz := c (nb2.2.2.2.2 g)
          simp only [nuC, f_codeCount, gI_sI, gI_sL, gI_sA, gI_sB, gI_sAf, gI_sBf, gL_sI, gL_sL, gL_sA, gL_sB, gL_sAf, gL_sBf, gA_sI, gA_sL, gA_sA, gA_sB, gA_sAf, gA_sBf, gB_sI, gB_sL, gB_sA, gB_sB, gB_sAf, gB_sBf, Nat.reduceEqDiff, Nat.reduceMul, Nat.reduceAdd, false_and, true_and, and_true, and_false, if_true, if_false]
          rw [yy, c1, m1, x4]
          simp only [nuC, f_codeCount] at cz
          omega
      · simp only [nuU, f_upCount, x2]
        exact u
      · simp only [nuK, f_constCount, x3]
        exact k
    rw [ok_B, ok_GI, ok_C]
    refine ⟨fun f1 => ?_, fun f1 => fin s1 _ _ nb aw fun w => absurd w f1⟩
    rw [ok_B, ok_GI, ok_B, ok_GI, ok_C]
    have e25 : (gI s1 25 0).toInt = nuK s1 := rfl
    have e26 : (gI s1 26 0).toInt = nuC s1 := rfl
    have bb := r1.2.2.2.1
    have y := tI_add (a := gI s1 25 0) (b := gI s1 26 0) (by rw [e25, e26]; omega)
    have c2 : (20000 : Int32).toInt = 20000 := rfl
    refine ⟨fun _ => ?_, fun e => fin s1 _ _ nb aw fun _ => ?_⟩
    · rw [ok_B]
      exact ok_mono (bad_ok s1 4 _ (by decide) aw) fun _ s2 ⟨nb2, aw2, f2, _⟩ => fin s2 _ _ (nb.trans nb2) aw2 fun w => absurd w f2
    · have ne : nuK s1 + nuC s1 ≠ 20000 := fun w => e (Int32.toInt_inj.mp (by rw [y, e25, e26, c2]; exact w))
      omega
  · rw [ok_R]
    exact ⟨rfl, sx, r, u, k, fun w => absurd w f⟩
