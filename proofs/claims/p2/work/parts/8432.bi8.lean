/-! tostring. -/
theorem j141_bo {s s' : S1} (h : Bo s s') : ok M_Mo_tostring_j141 s' (fun _ s2 => Bo s s2) := by
  simp only [M_Mo_tostring_j141, ok_B, ok_C, ok_R, ok_L, ok_K, ok_GI, ok_GL, ok_PI, ok_PL, ok_AI, ok_AL, ok_SI, ok_SL, ok_Pr, ok_CI, cmp_lt, cmp_le, cmp_gt, cmp_ge, cmp_eq, nar0, nar1, Sum.elim_inl, Sum.elim_inr]
  exact j388_bo h
theorem say_str (s : S1) (k : Int32) (v : Int64) (h : RI true s) (hh : v_hand_n s = 0) (hv : Vl false s k v) (hk : k ≠ 4) : ok (oB (oPI 96 0 0) fun _ =>
      oB (M_Mo_sayValue k v) fun _ =>
      oB (oGI 96 0) fun v120 =>
      oB (M_Mo_string 87 0 0 v120) fun v123 =>
      oC (v123 < 0)
        (M_Mo_tostring_j141)
        (oB (M_Mo_give 4 v123.toInt64) fun _ =>
        M_Mo_tostring_j141)) s (fun _ s' => Bo s s') := by
  simp only [ok_B, ok_C, ok_R, ok_L, ok_K, ok_GI, ok_GL, ok_PI, ok_PL, ok_AI, ok_AL, ok_SI, ok_SL, ok_Pr, ok_CI, cmp_lt, cmp_le, cmp_gt, cmp_ge, cmp_eq, nar0, nar1, Sum.elim_inl, Sum.elim_inr]
  have rx1 : Rx s (sI s 96 0 0) := Rx.hx h.1 ((Hx0.refl s).sI (by decide)) ((Hy.refl s).sI (by decide)) h.2.1
  have v1 : Vl false (sI s 96 0 0) k v := by
    unfold Vl Lv at *
    simp only [f_used, a_sort, a_marked, gI_sI, gI_sL, gI_sA, gI_sB, gI_sAf, gI_sBf, gL_sI, gL_sL, gL_sA, gL_sB, gL_sAf, gL_sBf, gA_sI, gA_sL, gA_sA, gA_sB, gA_sAf, gA_sBf, gB_sI, gB_sL, gB_sA, gB_sB, gB_sAf, gB_sBf, Nat.reduceEqDiff, Nat.reduceMul, Nat.reduceAdd, false_and, true_and, and_true, and_false, if_true, if_false] at *
    exact hv
  have b0 : (f_builtSize (sI s 96 0 0)).toInt = 0 := by
    have : f_builtSize (sI s 96 0 0) = 0 := by simp only [f_builtSize, gI_sI, gI_sL, gI_sA, gI_sB, gI_sAf, gI_sBf, gL_sI, gL_sL, gL_sA, gL_sB, gL_sAf, gL_sBf, gA_sI, gA_sL, gA_sA, gA_sB, gA_sAf, gA_sBf, gB_sI, gB_sL, gB_sA, gB_sB, gB_sAf, gB_sBf, Nat.reduceEqDiff, Nat.reduceMul, Nat.reduceAdd, false_and, true_and, and_true, and_false, if_true, if_false]
    rw [this]
    rfl
  have h1 : v_hand_n (sI s 96 0 0) = 0 := by
    simp only [v_hand_n, gI_sI, gI_sL, gI_sA, gI_sB, gI_sAf, gI_sBf, gL_sI, gL_sL, gL_sA, gL_sB, gL_sAf, gL_sBf, gA_sI, gA_sL, gA_sA, gA_sB, gA_sAf, gA_sBf, gB_sI, gB_sL, gB_sA, gB_sB, gB_sAf, gB_sBf, Nat.reduceEqDiff, Nat.reduceMul, Nat.reduceAdd, false_and, true_and, and_true, and_false, if_true, if_false]
    exact hh
  generalize sI s 96 0 0 = z at *
  have sz41 : 0 ≤ q_sz z k v ∧ q_sz z k v ≤ 41 := by
    unfold q_sz
    rw [if_neg hk]
    by_cases c : k = 3
    · rw [if_pos c]
      omega
    · rw [if_neg c]
      omega
  refine ok_mono (sayValue_ok z k v rx1.1 v1 (by omega)) fun _ s2 sy => ?_
  have rx2 := rx1.trans (Rx.hx rx1.1 sy.hx sy.hy rx1.2.1)
  have h2 : v_hand_n s2 = 0 := (sy.1 2050 0 (by decide)).trans h1
  have lo := sy.2.2.2.2.1
  have up := sy.2.2.2.2.2
  have e96 : (f_builtSize s2).toInt = (gI s2 96 0).toInt := rfl
  have c0 : (0 : Int32).toInt = 0 := rfl
  have c4 : (400000 : Int32).toInt = 400000 := rfl
  have c6 : (266667 : Int32).toInt = 266667 := rfl
  have c8 : (266800 : Int32).toInt = 266800 := rfl
  have n0 : 0 ≤ gI s2 96 0 := by
    rw [i32_le, c0]
    omega
  have n4 : gI s2 96 0 ≤ 400000 := by
    rw [i32_le, c4]
    omega
  have n6 : gI s2 96 0 ≤ 266667 := by
    rw [i32_le, c6]
    omega
  have nl : (0 : Int32) + gI s2 96 0 ≤ lnI 87 := by
    rw [Int32.zero_add]
    exact Int32.le_trans n6 (by decide)
  refine ok_mono ((string_x s2 87 0 0 (gI s2 96 0) rx2.1 rfl ⟨by decide, by decide⟩ ⟨by decide, by decide⟩ ⟨n0, n4⟩ n6 nl (by decide) (by decide)).and (string_er s2 87 0 0 (gI s2 96 0))) fun w s3 ⟨hx, er⟩ => ?_
  have k3 : Rx s2 s3 ∧ v_hand_n s3 = 0 ∧ (¬ w < 0 → Lv false s3 w 4) := by
    rcases hx with hd | ⟨es, hl⟩
    · have vk := Vk.mdx rx2.1 rx2.2.1 hd
      refine ⟨vk.1, vk.2.1.trans h2, fun c => ?_⟩
      rcases hd.2 with ⟨e, _⟩ | ⟨s0, w0, w1, w2, w3, w4, w5⟩
      · rw [e] at c
        exact absurd (by decide) c
      · exact w5
    · subst es
      exact ⟨Rx.refl rx2.1 rx2.2.1, h2, fun _ => hl⟩
  obtain ⟨rx3, h3, lv⟩ := k3
  refine ⟨fun c => j141_bo ⟨rx2.trans rx3, h3, Or.inl (er c)⟩, fun c => ok_mono (give_bo s3 4 _ rx3.1 rx3.2.1 h3 (Vl.of (lv c) ⟨by decide, by decide⟩ rx3.1.used.2)) fun _ s4 b => j141_bo (b.1.pre (rx2.trans rx3))⟩
theorem tostring_bo (s : S1) (h : q_Bi s) : ok M_Mo_tostring s (fun _ s' => Bo s s' ∨ Bp s s') := by
  obtain ⟨hr, _, hh, ha⟩ := h
  have hg := hr.1
  have hz := hr.2.1
  unfold M_Mo_tostring
  rw [ok_B]
  refine ok_mono (ak_ok s 0 hg (by decide)) fun k s1 ⟨ek, es⟩ => ?_
  subst es
  rw [ok_B]
  refine ok_mono (av_ok s1 0 hg (by decide)) fun v s2 ⟨ev, es⟩ => ?_
  subst es
  have vl : Vl false s2 k v := by
    rw [ek, ev]
    exact ar_vl hg (by decide)
  clear ek ev
  rw [ok_B]
  refine ok_mono (meta_ok s2 k 20 v hg hr.2.2.2.1 vl ⟨by decide, by decide⟩) fun r s3 ⟨gk, gv, es, hm⟩ => ?_
  have rx := got_rx hg hz gk gv
  have vv : ∀ a b, Vl false s2 a b → Vl false s3 a b := fun a b w => by
    rw [es]
    unfold Vl Lv at *
    simp only [f_used, a_sort, a_marked, gI_sI, gI_sL, gI_sA, gI_sB, gI_sAf, gI_sBf, gL_sI, gL_sL, gL_sA, gL_sB, gL_sAf, gL_sBf, gA_sI, gA_sL, gA_sA, gA_sB, gA_sAf, gA_sBf, gB_sI, gB_sL, gB_sA, gB_sB, gB_sAf, gB_sBf, Nat.reduceEqDiff, Nat.reduceMul, Nat.reduceAdd, false_and, true_and, and_true, and_false, if_true, if_false] at *
    exact w
  have h3 : v_hand_n s3 = 0 := by
    rw [es]
    simp only [v_hand_n, gI_sI, gI_sL, gI_sA, gI_sB, gI_sAf, gI_sBf, gL_sI, gL_sL, gL_sA, gL_sB, gL_sAf, gL_sBf, gA_sI, gA_sL, gA_sA, gA_sB, gA_sAf, gA_sBf, gB_sI, gB_sL, gB_sA, gB_sB, gB_sAf, gB_sBf, Nat.reduceEqDiff, Nat.reduceMul, Nat.reduceAdd, false_and, true_and, and_true, and_false, if_true, if_false]
    exact hh
  have e3 : gI s3 66 0 = gk ∧ gL s3 67 0 = gv := by
    rw [es]
    simp only [gI_sI, gI_sL, gI_sA, gI_sB, gI_sAf, gI_sBf, gL_sI, gL_sL, gL_sA, gL_sB, gL_sAf, gL_sBf, gA_sI, gA_sL, gA_sA, gA_sB, gA_sAf, gA_sBf, gB_sI, gB_sL, gB_sA, gB_sB, gB_sAf, gB_sBf, Nat.reduceEqDiff, Nat.reduceMul, Nat.reduceAdd, false_and, true_and, and_true, and_false, if_true, if_false]
  rw [← es] at rx
  clear es
  have r3 := hr.rx rx
  rw [ok_C]
  refine ⟨fun _ => ?_, fun c => ?_⟩
  · rw [ok_C]
    refine ⟨fun c4 => ?_, fun c4 => ok_mono (say_str s3 k v r3 h3 (vv k v vl) c4) fun _ _ b => Or.inl (b.pre rx)⟩
    rw [ok_B]
    have vl4 := vv k v vl
    rw [c4] at vl4
    exact ok_mono (give_bo s3 4 v rx.1 rx.2.1 h3 vl4) fun _ s4 b => ok_mono (j141_bo (b.1.pre rx)) fun _ _ w => Or.inl w
  · obtain ⟨hm1, _⟩ := hm c
    simp only [ok_B, ok_C, ok_R, ok_L, ok_K, ok_GI, ok_GL, ok_PI, ok_PL, ok_AI, ok_AL, ok_SI, ok_SL, ok_Pr, ok_CI, cmp_lt, cmp_le, cmp_gt, cmp_ge, cmp_eq, nar0, nar1, Sum.elim_inl, Sum.elim_inr]
    rw [e3.1, e3.2]
    have ag := zero7 rx.1
    have e0 : gI (sI s3 898 0 0) 898 0 = 0 := by simp only [gI_sI, gI_sL, gI_sA, gI_sB, gI_sAf, gI_sBf, gL_sI, gL_sL, gL_sA, gL_sB, gL_sAf, gL_sBf, gA_sI, gA_sL, gA_sA, gA_sB, gA_sAf, gA_sBf, gB_sI, gB_sL, gB_sA, gB_sB, gB_sAf, gB_sBf, Nat.reduceEqDiff, Nat.reduceMul, Nat.reduceAdd, false_and, true_and, and_true, and_false, if_true, if_false]
    have h4 : gI (sI s3 898 0 0) 2050 0 = 0 := by
      simp only [gI_sI, gI_sL, gI_sA, gI_sB, gI_sAf, gI_sBf, gL_sI, gL_sL, gL_sA, gL_sB, gL_sAf, gL_sBf, gA_sI, gA_sL, gA_sA, gA_sB, gA_sAf, gA_sBf, gB_sI, gB_sL, gB_sA, gB_sB, gB_sAf, gB_sBf, Nat.reduceEqDiff, Nat.reduceMul, Nat.reduceAdd, false_and, true_and, and_true, and_false, if_true, if_false]
      exact h3
    generalize sI s3 898 0 0 = z at *
    refine ok_mono (add7_ok z k v ag.1 ((Vl.hs ag.h7).mpr (vv k v vl)) (by rw [e0]; decide)) fun _ s5 ⟨ag2, n5⟩ => ?_
    have ag5 := ag.trans ag2
    have rx5 := ag5.rx (Or.inl rfl) rx.2.1
    have h5 : v_hand_n s5 = 0 := (ag2.2.1 2050 0 (by decide)).trans h4
    have a5 : gI s5 898 0 = 1 := by
      rw [n5, e0]
      rfl
    have vg : Vl false s5 gk gv := (Vl.hs ag5.h7).mpr (vv gk gv hm1)
    refine ok_mono (push_ok s5 4 (-1) (r3.rx rx5) h5 ⟨by decide, by decide, by decide⟩ (fun z => absurd z (by decide))) fun w s6 hw => ?_
    rcases hw with ⟨e, b, _⟩ | ⟨e, r6, ph⟩
    · rw [e]
      exact ⟨fun _ => Or.inl (j388_bo (b.pre (rx.trans rx5))), fun z => absurd (by trivial) z⟩
    · rw [e]
      refine ⟨fun z => absurd z (by decide), fun _ => Or.inr ?_⟩
      have vg6 : Vl false s6 gk gv := (Vl.ph ph).mpr vg
      have rx6 := calling_rx r6.1 r6.2.1 vg6
      have h6 : gI s6 2050 0 = 0 := (ph.I 2050 (by decide) 0).trans h5
      have a6 : gI s6 898 0 = 1 := (ph.I 898 (by decide) 0).trans a5
      have rx7 := todo_rx rx6.1 rx6.2.1 1
      refine ⟨(r6.rx rx6).rx rx7, ?_, ?_, ?_, s5, s6, 4, -1, rx.trans rx5, by decide, ph, rx6.trans rx7⟩
      · simp only [v_hand_n, gI_sI, gI_sL, gI_sA, gI_sB, gI_sAf, gI_sBf, gL_sI, gL_sL, gL_sA, gL_sB, gL_sAf, gL_sBf, gA_sI, gA_sL, gA_sA, gA_sB, gA_sAf, gA_sBf, gB_sI, gB_sL, gB_sA, gB_sB, gB_sAf, gB_sBf, Nat.reduceEqDiff, Nat.reduceMul, Nat.reduceAdd, false_and, true_and, and_true, and_false, if_true, if_false]
        exact h6
      · simp only [f_todo, gI_sI, gI_sL, gI_sA, gI_sB, gI_sAf, gI_sBf, gL_sI, gL_sL, gL_sA, gL_sB, gL_sAf, gL_sBf, gA_sI, gA_sL, gA_sA, gA_sB, gA_sAf, gA_sBf, gB_sI, gB_sL, gB_sA, gB_sB, gB_sAf, gB_sBf, Nat.reduceEqDiff, Nat.reduceMul, Nat.reduceAdd, false_and, true_and, and_true, and_false, if_true, if_false]
      · simp only [v_args_n, gI_sI, gI_sL, gI_sA, gI_sB, gI_sAf, gI_sBf, gL_sI, gL_sL, gL_sA, gL_sB, gL_sAf, gL_sBf, gA_sI, gA_sL, gA_sA, gA_sB, gA_sAf, gA_sBf, gB_sI, gB_sL, gB_sA, gB_sB, gB_sAf, gB_sBf, Nat.reduceEqDiff, Nat.reduceMul, Nat.reduceAdd, false_and, true_and, and_true, and_false, if_true, if_false]
        rw [a6]
        decide
