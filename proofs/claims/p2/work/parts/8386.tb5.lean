/-! A table is written. -/
theorem Vl.of {s : S1} {x k : Int32} (hx : Lv false s x k) (hk : 4 ≤ k ∧ k ≤ 7) (hu : f_used s ≤ 4000) : Vl false s k x.toInt64 := by
  have e := Int32.toInt_toInt64 x
  have h0 : (0 : Int32).toInt = 0 := rfl
  have h0' : (0 : Int64).toInt = 0 := rfl
  have h4 : (4100 : Int64).toInt = 4100 := rfl
  have h4' : (4000 : Int32).toInt = 4000 := rfl
  have a := hx.1
  have b := Int32.lt_of_lt_of_le hx.2.1 hu
  rw [i32_le, h0] at a
  rw [i32_lt, h4'] at b
  refine Or.inr (Or.inr ⟨hk.1, hk.2, ?_, ?_, by rw [i64_back]; exact hx⟩)
  · rw [i64_le, e, h0']
    exact a
  · rw [i64_lt, e, h4]
    omega
theorem GG.used {s : S1} (h : GG s) : 0 ≤ f_used s ∧ f_used s ≤ 4000 := h.1.1.2.2.2.2.2.2
theorem setVal_tw (s : S1) (t e vk : Int32) (v : Int64) (h : GG s) (ht : Lv false s t 5) (he : a_first s t ≤ e ∧ e < a_first s t + a_third s t) (hv : Vl false s vk v) : Tw s (sB (sA s 70 0 e vk) 72 0 e v) t := by
  obtain ⟨h1, h2, h3, h4, h5, hc, -⟩ := h.tb ht
  have sh := (h.1.1.1.2.2 t ht.1 ht.2.1).1.1 ht.2.2.1
  have hval := ((h.1.1.1.2.2 t ht.1 ht.2.1).2.1 ht.2.2.1).2
  have inn : e < a_first s t + a_second s t := by
    clear h hc hval hv ht
    grind
  refine ⟨fun _ _ => rfl, fun _ _ => rfl, fun a i j _ _ _ _ b _ _ => ?_, fun a i j _ b => ?_, fun z _ => ⟨rfl, rfl, rfl⟩, fun j hj => ?_, fun y b m hy w j j1 j2 j3 j4 => ?_, sh, hc, fun k a b => ?_⟩
  · simp only [gI_sI, gI_sL, gI_sA, gI_sB, gI_sAf, gI_sBf, gL_sI, gL_sL, gL_sA, gL_sB, gL_sAf, gL_sBf, gA_sI, gA_sL, gA_sA, gA_sB, gA_sAf, gA_sBf, gB_sI, gB_sL, gB_sA, gB_sB, gB_sAf, gB_sBf, Nat.reduceEqDiff, Nat.reduceMul, Nat.reduceAdd, false_and, true_and, and_true, and_false, if_true, if_false, b]
  · simp only [gI_sI, gI_sL, gI_sA, gI_sB, gI_sAf, gI_sBf, gL_sI, gL_sL, gL_sA, gL_sB, gL_sAf, gL_sBf, gA_sI, gA_sL, gA_sA, gA_sB, gA_sAf, gA_sBf, gB_sI, gB_sL, gB_sA, gB_sB, gB_sAf, gB_sBf, Nat.reduceEqDiff, Nat.reduceMul, Nat.reduceAdd, false_and, true_and, and_true, and_false, if_true, if_false, b]
  · have d : j ≠ e := fun q => hj (by rw [q]; exact ⟨he.1, inn⟩)
    simp only [a_ek, a_vk, a_follow, a_bucket, a_ev, a_vv, gI_sI, gI_sL, gI_sA, gI_sB, gI_sAf, gI_sBf, gL_sI, gL_sL, gL_sA, gL_sB, gL_sAf, gL_sBf, gA_sI, gA_sL, gA_sA, gA_sB, gA_sAf, gA_sBf, gB_sI, gB_sL, gB_sA, gB_sB, gB_sAf, gB_sBf, Nat.reduceEqDiff, Nat.reduceMul, Nat.reduceAdd, false_and, true_and, and_true, and_false, if_true, if_false, d]
  · exact h.2.2.1.1 t y _ _ b m ⟨⟨ht.1, ht.2.1⟩, Or.inl ⟨ht.2.2.1, rfl, rfl⟩⟩ w (fun e => hy e.symm) j j1 j2 j3 j4
  · have q := hval k a b
    simp only [a_ek, a_vk, a_ev, a_vv, gI_sI, gI_sL, gI_sA, gI_sB, gI_sAf, gI_sBf, gL_sI, gL_sL, gL_sA, gL_sB, gL_sAf, gL_sBf, gA_sI, gA_sL, gA_sA, gA_sB, gA_sAf, gA_sBf, gB_sI, gB_sL, gB_sA, gB_sB, gB_sAf, gB_sBf, Nat.reduceEqDiff, Nat.reduceMul, Nat.reduceAdd, false_and, true_and, and_true, and_false, if_true, if_false]
    by_cases c : k = e
    · rw [if_pos c, if_pos c]
      exact ⟨q.1, hv⟩
    · rw [if_neg c, if_neg c]
      exact q
def Bgn (s : S1) (t n : Int32) : Prop := f_rooms s = a_second s t ∧ a_second s t ≤ 96 ∧ a_third s t ≤ n
/-- what a put leaves -/
def Pt (s : S1) (t n r : Int32) (s' : S1) : Prop := Nx s s' ∧ (r = 0 ∨ r = 1) ∧ gI s' 2050 0 = gI s 2050 0 ∧ (f_noCollection s ≠ 0 → r ≠ 0 → Bgn s' t (n + 1))
theorem put192_ok (s : S1) (t k vk n : Int32) (key v : Int64) (h : GG s) (ht : Lv false s t 5) (hr : a_third s t < a_second s t) (hk : Vl false s k key) (hv : Vl false s vk v) (hnc : f_noCollection s ≠ 0 → Bgn s t n ∧ 0 ≤ n ∧ n ≤ 24) : ok (M_Mo_put_j192 t k key vk v) s (Pt s t n) := by
  simp only [M_Mo_put_j192, ok_B, ok_C, ok_R, ok_L, ok_K, ok_GI, ok_GL, ok_PI, ok_PL, ok_AI, ok_AL, ok_SI, ok_SL, ok_Pr, ok_CI, cmp_lt, cmp_le, cmp_gt, cmp_ge, cmp_eq, nar0, nar1, Sum.elim_inl, Sum.elim_inr]
  refine ok_mono (q_append_ok s t k vk key v h ht hr hk hv) fun _ s' ⟨_, ⟨a1, a2, a3, a4, a5, a6⟩, nx⟩ => ⟨nx, Or.inr (by trivial), a1 2050 0, fun z _ => ?_⟩
  obtain ⟨⟨b1, b2, b3⟩, b4, b5⟩ := hnc z
  have e63 : a_second s' t = a_second s t := a3 63 0 t (by decide) (by decide) (by decide) (by decide) (by decide)
  have e64 : a_third s' t = a_third s t + 1 := by rw [a5, if_pos rfl]
  have e36 : f_rooms s' = f_rooms s := a1 36 0
  refine ⟨by rw [e36, e63]; exact b1, by rw [e63]; exact b2, ?_⟩
  rw [e64]
  clear a1 a2 a3 a4 a5 a6 nx hnc h
  grind
theorem put174_ok (s s0 : S1) (t k vk n m : Int32) (key v : Int64) (h : GG s) (ht : Lv false s t 5) (nx : Nx s0 s) (hm : 0 ≤ m ∧ m ≤ v_hand_n s) (e0 : gI s0 2050 0 = m) (hr : a_third s t < a_second s t) (hk : Vl false s k key) (hv : Vl false s vk v) (hnc : f_noCollection s ≠ 0 → Bgn s t n ∧ 0 ≤ n ∧ n ≤ 24) : ok (M_Mo_put_j174 t k key vk v m 1) s (Pt s0 t n) := by
  have nh := Nx.handN h hm
  have hw : Hw s (sI s 2050 0 m) := (Hw.refl s).sI (by decide)
  have e92 : f_noCollection s = f_noCollection s0 := nx.2.1.I 92 (by decide) 0
  simp only [M_Mo_put_j174, ok_B, ok_C, ok_R, ok_L, ok_K, ok_GI, ok_GL, ok_PI, ok_PL, ok_AI, ok_AL, ok_SI, ok_SL, ok_Pr, ok_CI, cmp_lt, cmp_le, cmp_gt, cmp_ge, cmp_eq, nar0, nar1, Sum.elim_inl, Sum.elim_inr]
  refine ⟨fun c => absurd c (by decide), fun _ => ?_⟩
  refine ok_mono (put192_ok (sI s 2050 0 m) t k vk n key v nh.1 ((Lv.hs hw.hs).mpr ht) hr ((Vl.hs hw.hs).mpr hk) ((Vl.hs hw.hs).mpr hv) (fun z => ?_)) fun r s' ⟨q1, q2, q3, q4⟩ => ⟨nx.trans (nh.trans q1), q2, ?_, fun z => q4 ?_⟩
  · have z' : f_noCollection s ≠ 0 := by
      simp only [f_noCollection, gI_sI, gI_sL, gI_sA, gI_sB, gI_sAf, gI_sBf, gL_sI, gL_sL, gL_sA, gL_sB, gL_sAf, gL_sBf, gA_sI, gA_sL, gA_sA, gA_sB, gA_sAf, gA_sBf, gB_sI, gB_sL, gB_sA, gB_sB, gB_sAf, gB_sBf, Nat.reduceEqDiff, Nat.reduceMul, Nat.reduceAdd, false_and, true_and, and_true, and_false, if_true, if_false] at z
      exact z
    have w := hnc z'
    unfold Bgn at *
    simp only [f_rooms, gI_sI, gI_sL, gI_sA, gI_sB, gI_sAf, gI_sBf, gL_sI, gL_sL, gL_sA, gL_sB, gL_sAf, gL_sBf, gA_sI, gA_sL, gA_sA, gA_sB, gA_sAf, gA_sBf, gB_sI, gB_sL, gB_sA, gB_sB, gB_sAf, gB_sBf, Nat.reduceEqDiff, Nat.reduceMul, Nat.reduceAdd, false_and, true_and, and_true, and_false, if_true, if_false] at *
    exact w
  · rw [q3, e0]
    simp only [gI_sI, gI_sL, gI_sA, gI_sB, gI_sAf, gI_sBf, gL_sI, gL_sL, gL_sA, gL_sB, gL_sAf, gL_sBf, gA_sI, gA_sL, gA_sA, gA_sB, gA_sAf, gA_sBf, gB_sI, gB_sL, gB_sA, gB_sB, gB_sAf, gB_sBf, Nat.reduceEqDiff, Nat.reduceMul, Nat.reduceAdd, false_and, true_and, and_true, and_false, if_true, if_false]
  · simp only [f_noCollection, gI_sI, gI_sL, gI_sA, gI_sB, gI_sAf, gI_sBf, gL_sI, gL_sL, gL_sA, gL_sB, gL_sAf, gL_sBf, gA_sI, gA_sL, gA_sA, gA_sB, gA_sAf, gA_sBf, gB_sI, gB_sL, gB_sA, gB_sB, gB_sAf, gB_sBf, Nat.reduceEqDiff, Nat.reduceMul, Nat.reduceAdd, false_and, true_and, and_true, and_false, if_true, if_false] at *
    rw [e92]
    exact z
theorem put96_ok (s s0 : S1) (t k vk n : Int32) (key v : Int64) (h : GG s) (ht : Lv false s t 5) (nx : Nx s0 s) (e0 : gI s0 2050 0 = v_hand_n s) (hk : Vl false s k key) (hv : Vl false s vk v) (hh : v_hand_n s ≤ 61) (hnc : f_noCollection s = 0 ∨ (Bgn s t n ∧ 0 ≤ n ∧ n ≤ 24)) : ok (M_Mo_put_j96 t k key vk v) s (Pt s0 t n) := by
  obtain ⟨h1, h2, h3, h4, h5, -, -⟩ := h.tb ht
  have n0 := h.2.2.2.1.1.1
  have hvt := Vl.of ht ⟨by decide, by decide⟩ h.used.2
  have hnum : v_hand_n s < 64 ∧ v_hand_n s + 1 < 64 ∧ v_hand_n s + 1 + 1 < 64 ∧ v_hand_n s ≠ v_hand_n s + 1 ∧ v_hand_n s ≠ v_hand_n s + 1 + 1 ∧ v_hand_n s + 1 ≠ v_hand_n s + 1 + 1 ∧ (0 ≤ v_hand_n s ∧ v_hand_n s < v_hand_n s + 1 + 1 + 1 ∧ v_hand_n s ≤ v_hand_n s + 1 + 1 + 1) ∧ (0 ≤ v_hand_n s + 1 ∧ v_hand_n s + 1 < v_hand_n s + 1 + 1 + 1) ∧ (0 ≤ v_hand_n s + 1 + 1 ∧ v_hand_n s + 1 + 1 < v_hand_n s + 1 + 1 + 1) := by
    clear h ht nx hk hv hvt hnc e0 h1 h2 h3 h4 h5
    generalize v_hand_n s = m at *
    exact ⟨by grind, by grind, by grind, by grind, by grind, by grind, ⟨by grind, by grind, by grind⟩, ⟨by grind, by grind⟩, ⟨by grind, by grind⟩⟩
  obtain ⟨c1, c2, c3, c4, c5, c6, c7, c8, c9⟩ := hnum
  simp only [M_Mo_put_j96, ok_B, ok_C, ok_R, ok_L, ok_K, ok_GI, ok_GL, ok_PI, ok_PL, ok_AI, ok_AL, ok_SI, ok_SL, ok_Pr, ok_CI, cmp_lt, cmp_le, cmp_gt, cmp_ge, cmp_eq, nar0, nar1, Sum.elim_inl, Sum.elim_inr]
  refine ok_mono (handAdd_ok s 5 t.toInt64 h c1 (Or.inl hvt) ⟨by decide, by decide⟩) fun _ s1 ⟨nx1, es1⟩ => ?_
  have w1 : Hw s s1 := by
    rw [es1]
    exact (((Hw.refl s).sA (by decide)).sB (by decide)).sI (by decide)
  have m1 : v_hand_n s1 = v_hand_n s + 1 := by
    rw [es1]
    simp only [v_hand_n, gI_sI, gI_sL, gI_sA, gI_sB, gI_sAf, gI_sBf, gL_sI, gL_sL, gL_sA, gL_sB, gL_sAf, gL_sBf, gA_sI, gA_sL, gA_sA, gA_sB, gA_sAf, gA_sBf, gB_sI, gB_sL, gB_sA, gB_sB, gB_sAf, gB_sBf, Nat.reduceEqDiff, Nat.reduceMul, Nat.reduceAdd, false_and, true_and, and_true, and_false, if_true, if_false]
  refine ok_mono (handAdd_ok s1 k key nx1.1 (by rw [m1]; exact c2) (Or.inl ((Vl.hs w1.hs).mpr hk)) hk.kind) fun _ s2 ⟨nx2, es2⟩ => ?_
  have w2 : Hw s s2 := by
    rw [es2, es1]
    exact ((((((Hw.refl s).sA (by decide)).sB (by decide)).sI (by decide)).sA (by decide)).sB (by decide)).sI (by decide)
  have m2 : v_hand_n s2 = v_hand_n s + 1 + 1 := by
    rw [es2, m1]
    simp only [v_hand_n, gI_sI, gI_sL, gI_sA, gI_sB, gI_sAf, gI_sBf, gL_sI, gL_sL, gL_sA, gL_sB, gL_sAf, gL_sBf, gA_sI, gA_sL, gA_sA, gA_sB, gA_sAf, gA_sBf, gB_sI, gB_sL, gB_sA, gB_sB, gB_sAf, gB_sBf, Nat.reduceEqDiff, Nat.reduceMul, Nat.reduceAdd, false_and, true_and, and_true, and_false, if_true, if_false]
  refine ok_mono (handAdd_ok s2 vk v nx2.1 (by rw [m2]; exact c3) (Or.inl ((Vl.hs w2.hs).mpr hv)) hv.kind) fun _ s3 ⟨nx3, es3⟩ => ?_
  have w3 : Hw s s3 := by
    rw [es3, es2, es1]
    exact (((((((((Hw.refl s).sA (by decide)).sB (by decide)).sI (by decide)).sA (by decide)).sB (by decide)).sI (by decide)).sA (by decide)).sB (by decide)).sI (by decide)
  have m3 : v_hand_n s3 = v_hand_n s + 1 + 1 + 1 := by
    rw [es3, m2]
    simp only [v_hand_n, gI_sI, gI_sL, gI_sA, gI_sB, gI_sAf, gI_sBf, gL_sI, gL_sL, gL_sA, gL_sB, gL_sAf, gL_sBf, gA_sI, gA_sL, gA_sA, gA_sB, gA_sAf, gA_sBf, gB_sI, gB_sL, gB_sA, gB_sB, gB_sAf, gB_sBf, Nat.reduceEqDiff, Nat.reduceMul, Nat.reduceAdd, false_and, true_and, and_true, and_false, if_true, if_false]
  have g0 : v_hand_k s3 (v_hand_n s) = 5 ∧ v_hand_v s3 (v_hand_n s) = t.toInt64 := by
    rw [es3, m2, es2, m1, es1]
    simp only [v_hand_k, v_hand_v, gI_sI, gI_sL, gI_sA, gI_sB, gI_sAf, gI_sBf, gL_sI, gL_sL, gL_sA, gL_sB, gL_sAf, gL_sBf, gA_sI, gA_sL, gA_sA, gA_sB, gA_sAf, gA_sBf, gB_sI, gB_sL, gB_sA, gB_sB, gB_sAf, gB_sBf, Nat.reduceEqDiff, Nat.reduceMul, Nat.reduceAdd, false_and, true_and, and_true, and_false, if_true, if_false, c4, c5]
  have g1 : v_hand_k s3 (v_hand_n s + 1) = k ∧ v_hand_v s3 (v_hand_n s + 1) = key := by
    rw [es3, m2, es2, m1, es1]
    simp only [v_hand_k, v_hand_v, gI_sI, gI_sL, gI_sA, gI_sB, gI_sAf, gI_sBf, gL_sI, gL_sL, gL_sA, gL_sB, gL_sAf, gL_sBf, gA_sI, gA_sL, gA_sA, gA_sB, gA_sAf, gA_sBf, gB_sI, gB_sL, gB_sA, gB_sB, gB_sAf, gB_sBf, Nat.reduceEqDiff, Nat.reduceMul, Nat.reduceAdd, false_and, true_and, and_true, and_false, if_true, if_false, c6]
  have g2 : v_hand_k s3 (v_hand_n s + 1 + 1) = vk ∧ v_hand_v s3 (v_hand_n s + 1 + 1) = v := by
    rw [es3, m2, es2, m1, es1]
    simp only [v_hand_k, v_hand_v, gI_sI, gI_sL, gI_sA, gI_sB, gI_sAf, gI_sBf, gL_sI, gL_sL, gL_sA, gL_sB, gL_sAf, gL_sBf, gA_sI, gA_sL, gA_sA, gA_sB, gA_sAf, gA_sBf, gB_sI, gB_sL, gB_sA, gB_sB, gB_sAf, gB_sBf, Nat.reduceEqDiff, Nat.reduceMul, Nat.reduceAdd, false_and, true_and, and_true, and_false, if_true, if_false]
  have e36 : f_rooms s3 = f_rooms s := by
    rw [es3, es2, es1]
    simp only [f_rooms, gI_sI, gI_sL, gI_sA, gI_sB, gI_sAf, gI_sBf, gL_sI, gL_sL, gL_sA, gL_sB, gL_sAf, gL_sBf, gA_sI, gA_sL, gA_sA, gA_sB, gA_sAf, gA_sBf, gB_sI, gB_sL, gB_sA, gB_sB, gB_sAf, gB_sBf, Nat.reduceEqDiff, Nat.reduceMul, Nat.reduceAdd, false_and, true_and, and_true, and_false, if_true, if_false]
  have e92 : f_noCollection s3 = f_noCollection s := w3.I 92 (by decide) 0
  have e63 : ∀ z, gA s3 63 0 z = gA s 63 0 z := fun z => w3.A 63 (by decide) 0 z
  have e64 : ∀ z, gA s3 64 0 z = gA s 64 0 z := fun z => w3.A 64 (by decide) 0 z
  have nxa : Nx s0 s3 := nx.trans (nx1.trans (nx2.trans nx3))
  have ht3 : Lv false s3 t 5 := (Lv.hs w3.hs).mpr ht
  clear es1 es2 es3
  have small : Bgn s t n → Bgn s3 t n := fun w => by
    unfold Bgn at *
    rw [e36]
    show _ = gA s3 63 0 t ∧ gA s3 63 0 t ≤ 96 ∧ gA s3 64 0 t ≤ n
    rw [e63, e64]
    exact w
  have go : (a_second s t < 2 * a_third s t ∨ ¬ 0 < a_second s t) → ok (M_Mo_put_j161 t k key vk v (v_hand_n s)) s3 (Pt s0 t n) := fun hcase => by
    simp only [M_Mo_put_j161, M_Mo_put_j169, ok_B, ok_C, ok_R, ok_L, ok_K, ok_GI, ok_GL, ok_PI, ok_PL, ok_AI, ok_AL, ok_SI, ok_SL, ok_Pr, ok_CI, cmp_lt, cmp_le, cmp_gt, cmp_ge, cmp_eq, nar0, nar1, Sum.elim_inl, Sum.elim_inr]
    refine ok_mono (grow_ok s3 t nx3.1 ht3 ⟨v_hand_n s, c7.1, by rw [m3]; exact c7.2.1, g0.1, g0.2⟩ ?_) fun r s4 ⟨q1, q2, q3, q4, q5⟩ => ?_
    · rcases hnc with w | w
      · exact Or.inl (e92.trans w)
      · right
        rw [e36]
        show _ = gA s3 63 0 t ∧ gA s3 63 0 t ≤ 96
        rw [e63]
        exact ⟨w.1.1, w.1.2.1⟩
    · have hm4 : 0 ≤ v_hand_n s ∧ v_hand_n s ≤ v_hand_n s4 := by
        have : v_hand_n s4 = v_hand_n s3 := q3.1
        rw [this, m3]
        exact ⟨c7.1, c7.2.2⟩
      refine ⟨fun c => ?_, fun c => ?_⟩
      · simp only [M_Mo_put_j174, ok_B, ok_C, ok_R, ok_L, ok_K, ok_GI, ok_GL, ok_PI, ok_PL, ok_AI, ok_AL, ok_SI, ok_SL, ok_Pr, ok_CI, cmp_lt, cmp_le, cmp_gt, cmp_ge, cmp_eq, nar0, nar1, Sum.elim_inl, Sum.elim_inr]
        refine ⟨fun _ => ⟨nxa.trans (q1.trans (Nx.handN q1.1 hm4)), Or.inl (by trivial), ?_, fun _ z => absurd rfl z⟩, fun d => absurd trivial d⟩
        rw [e0]
        simp only [gI_sI, gI_sL, gI_sA, gI_sB, gI_sAf, gI_sBf, gL_sI, gL_sL, gL_sA, gL_sB, gL_sAf, gL_sBf, gA_sI, gA_sL, gA_sA, gA_sB, gA_sAf, gA_sBf, gB_sI, gB_sL, gB_sA, gB_sB, gB_sAf, gB_sBf, Nat.reduceEqDiff, Nat.reduceMul, Nat.reduceAdd, false_and, true_and, and_true, and_false, if_true, if_false]
      · have e92' : f_noCollection s4 = f_noCollection s := (q1.2.1.I 92 (by decide) 0).trans e92
        have row := q1.1.2.2.2.1.2.2.2.2.1
        have m4 : gI s4 2050 0 = v_hand_n s + 1 + 1 + 1 := q3.1.trans m3
        have k1 : Vl false s4 k key := by
          have q : Wl false s4 (gA s4 17 0 (v_hand_n s + 1)) (gB s4 18 0 (v_hand_n s + 1)) := row _ c8.1 (by rw [Int32.zero_add]; show _ < gI s4 2050 0; rw [m4]; exact c8.2)
          rw [q3.2.1, q3.2.2] at q
          have q' : Wl false s4 k key := by
            rw [← g1.1, ← g1.2]
            exact q
          exact q'.vl hk.kind7.2
        have k2 : Vl false s4 vk v := by
          have q : Wl false s4 (gA s4 17 0 (v_hand_n s + 1 + 1)) (gB s4 18 0 (v_hand_n s + 1 + 1)) := row _ c9.1 (by rw [Int32.zero_add]; show _ < gI s4 2050 0; rw [m4]; exact c9.2)
          rw [q3.2.1, q3.2.2] at q
          have q' : Wl false s4 vk v := by
            rw [← g2.1, ← g2.2]
            exact q
          exact q'.vl hv.kind7.2
        refine put174_ok s4 s0 t k vk n (v_hand_n s) key v q1.1 (q4 c).1 (nxa.trans q1) hm4 e0 (q4 c).2 k1 k2 fun z => ?_
        rcases hnc with w | w
        · exact absurd (e92'.trans w) z
        · obtain ⟨x1, x2, x3⟩ := q5 (by rw [e92, ← e92']; exact z) c
          have y3 := w.1.2.2
          have y2 := w.1.2.1
          have y4 := w.2
          have z63 : a_second s3 t = a_second s t := e63 t
          have z64 : a_third s3 t = a_third s t := e64 t
          rw [z63] at x1
          rw [z64] at x3
          refine ⟨⟨x2, ?_, Int32.le_trans x3 y3⟩, w.2⟩
          clear h ht nx hk hv hvt nx1 nx2 nx3 w1 w2 w3 q1 q3 q4 q5 row k1 k2 small nxa ht3 w e63 e64
          grind
  have stay : (¬ a_second s t < 2 * a_third s t) → 0 < a_second s t → ok (M_Mo_put_j169 t k key vk v (v_hand_n s)) s3 (Pt s0 t n) := fun a b => by
    simp only [M_Mo_put_j169]
    refine put174_ok s3 s0 t k vk n (v_hand_n s) key v nx3.1 ht3 nxa (by rw [m3]; exact ⟨c7.1, c7.2.2⟩) e0 ?_ ((Vl.hs w3.hs).mpr hk) ((Vl.hs w3.hs).mpr hv) fun z => ?_
    · show gA s3 64 0 t < gA s3 63 0 t
      rw [e63, e64]
      simp only [a_second, a_third] at *
      clear h ht nx hk hv hvt hnc nx1 nx2 nx3 w1 w2 w3 small nxa ht3 e63 e64 go
      grind
    · rcases hnc with w | w
      · exact absurd (e92.trans w) z
      · exact ⟨small w.1, w.2⟩
  rw [e63, e64]
  refine ⟨h1, h1, fun c => go (Or.inl c), fun c => ⟨h1, fun d => stay c d, fun d => go (Or.inr d)⟩⟩
theorem put_ok (s : S1) (t k vk n : Int32) (key v : Int64) (h : GG s) (ht : Lv false s t 5) (hk : Vl false s k key) (hv : Vl false s vk v) (hh : v_hand_n s ≤ 61) (hnc : f_noCollection s = 0 ∨ (Bgn s t n ∧ 0 ≤ n ∧ n ≤ 24)) : ok (M_Mo_put t k key vk v) s (Pt s t n) := by
  obtain ⟨h1, h2, h3, h4, h5, hc, r1, r2, r3, r4, r5, r6⟩ := id (h.tb ht)
  simp only [p_ek, p_vk, p_ev, p_vv, p_follow, p_bucket] at r1 r2 r3 r4 r5 r6
  have hnz : f_noCollection s ≠ 0 → Bgn s t n ∧ 0 ≤ n ∧ n ≤ 24 := fun z => by
    rcases hnc with w | w
    · exact absurd w z
    · exact w
  have sh := (h.1.1.1.2.2 t ht.1 ht.2.1).1.1 ht.2.2.1
  have up : ∀ a : Int32, 0 ≤ n → n ≤ 24 → a ≤ n → a ≤ n + 1 := fun a p q r => by
    clear h ht hk hv hnc hnz hc
    grind
  simp only [M_Mo_put, ok_B, ok_C, ok_R, ok_L, ok_K, ok_GI, ok_GL, ok_PI, ok_PL, ok_AI, ok_AL, ok_SI, ok_SL, ok_Pr, ok_CI, cmp_lt, cmp_le, cmp_gt, cmp_ge, cmp_eq, nar0, nar1, Sum.elim_inl, Sum.elim_inr]
  refine ⟨fun _ => ok_mono (q_raise_ok s 6) fun v s' ⟨ev, es⟩ => ?_, fun c => ok_mono (entry_ok s t k key (h.tb ht)) fun e s1 ⟨es, he⟩ => ?_⟩
  · subst ev es
    exact ⟨Nx.raise h 6 _ (by decide), Or.inl (by trivial), by simp only [gI_sI, gI_sL, gI_sA, gI_sB, gI_sAf, gI_sBf, gL_sI, gL_sL, gL_sA, gL_sB, gL_sAf, gL_sBf, gA_sI, gA_sL, gA_sA, gA_sB, gA_sAf, gA_sBf, gB_sI, gB_sL, gB_sA, gB_sB, gB_sAf, gB_sBf, Nat.reduceEqDiff, Nat.reduceMul, Nat.reduceAdd, false_and, true_and, and_true, and_false, if_true, if_false], fun _ z => absurd rfl z⟩
  subst es
  have same : Nx s1 s1 ∧ (f_noCollection s1 ≠ 0 → Bgn s1 t (n + 1)) := ⟨Nx.refl h, fun z => ⟨(hnz z).1.1, (hnz z).1.2.1, up _ (hnz z).2.1 (hnz z).2.2 (hnz z).1.2.2⟩⟩
  refine ⟨fun d => ⟨fun f => ⟨same.1, Or.inr (by trivial), rfl, fun z _ => same.2 z⟩, fun f => ⟨h1, h1, fun g => ⟨h1, fun i => put96_ok s1 s1 t k vk n key v h ht (Nx.refl h) rfl hk hv hh hnc, fun i => ⟨h1, h1, ?_⟩⟩, fun g => put192_ok s1 t k vk n key v h ht (Int32.lt_of_le_of_ne h5.2 g) hk hv hnz⟩⟩, fun d => ?_⟩
  · refine ok_mono (q_move_ok s1 t (a_first s1 t) (a_second s1 t) h ht h2 ⟨Int32.not_le.mp i, h3.2⟩ sh.2.2.2.2.2 (fun y b m hy w j j1 j2 j3 j4 => h.2.2.1.1 t y _ _ b m ⟨⟨ht.1, ht.2.1⟩, Or.inl ⟨ht.2.2.1, rfl, rfl⟩⟩ w (fun e => hy e.symm) j j1 j2 j3 j4) h5.2 (Or.inl rfl)) fun _ s2 ⟨nx, mv⟩ => ?_
    have e92 : f_noCollection s2 = f_noCollection s1 := mv.1 92 0
    have e36 : f_rooms s2 = f_rooms s1 := mv.1 36 0
    have e50 : v_hand_n s2 = v_hand_n s1 := mv.1 2050 0
    obtain ⟨m1, m2, m3, m4, m5, m6, m7, m8⟩ := id mv
    refine put96_ok s2 s1 t k vk n key v nx.1 ((Lv.mv mv).mpr ht) nx e50.symm ((Vl.mv mv).mpr hk) ((Vl.mv mv).mpr hv) (by rw [e50]; exact hh) ?_
    rcases hnc with w | w
    · exact Or.inl (e92.trans w)
    · refine Or.inr ⟨⟨?_, ?_, Int32.le_trans m8 w.1.2.2⟩, w.2⟩
      · rw [e36, m6]
        exact w.1.1
      · rw [m6]
        exact w.1.2.1
  · rcases he with he | he
    · rw [he] at d
      exact absurd (by decide) d
    · have b := he.2.1
      simp only [gI_sI, gI_sL, gI_sA, gI_sB, gI_sAf, gI_sBf, gL_sI, gL_sL, gL_sA, gL_sB, gL_sAf, gL_sBf, gA_sI, gA_sL, gA_sA, gA_sB, gA_sAf, gA_sBf, gB_sI, gB_sL, gB_sA, gB_sB, gB_sAf, gB_sBf, Nat.reduceEqDiff, Nat.reduceMul, Nat.reduceAdd, false_and, true_and, and_true, and_false, if_true, if_false, i8_id hv.kind]
      refine ⟨r2, b, r4, b, Nx.tw h (setVal_tw s1 t e vk v h ht he.1 hv) ht, Or.inr (by trivial), ?_, fun z _ => ?_⟩
      · simp only [gI_sI, gI_sL, gI_sA, gI_sB, gI_sAf, gI_sBf, gL_sI, gL_sL, gL_sA, gL_sB, gL_sAf, gL_sBf, gA_sI, gA_sL, gA_sA, gA_sB, gA_sAf, gA_sBf, gB_sI, gB_sL, gB_sA, gB_sB, gB_sAf, gB_sBf, Nat.reduceEqDiff, Nat.reduceMul, Nat.reduceAdd, false_and, true_and, and_true, and_false, if_true, if_false]
      · have w := hnz z
        have u := up _ w.2.1 w.2.2 w.1.2.2
        unfold Bgn at *
        simp only [f_rooms, a_second, a_third, gI_sI, gI_sL, gI_sA, gI_sB, gI_sAf, gI_sBf, gL_sI, gL_sL, gL_sA, gL_sB, gL_sAf, gL_sBf, gA_sI, gA_sL, gA_sA, gA_sB, gA_sAf, gA_sBf, gB_sI, gB_sL, gB_sA, gB_sB, gB_sAf, gB_sBf, Nat.reduceEqDiff, Nat.reduceMul, Nat.reduceAdd, false_and, true_and, and_true, and_false, if_true, if_false] at *
        exact ⟨w.1.1, w.1.2.1, u⟩
