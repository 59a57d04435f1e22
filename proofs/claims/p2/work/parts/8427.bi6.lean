/-! Strings: char, byte, sub. -/
theorem built_rx {s : S1} (h : GG s) (hz : f_noCollection s = 0) (j x : Int32) : Rx s (sA s 87 0 j x) := Rx.hx h ((Hx0.refl s).sA (by decide)) ((Hy.refl s).sA (by decide)) hz
theorem char_num {x n : Int32} (h0 : 0 ≤ x) (hn : n ≤ 250) (c : ¬ n ≤ x) : (0 ≤ x ∧ x < 266800) ∧ 0 ≤ x + 1 ∧ x + 1 ≤ n ∧ (n - (x + 1)).toNatClampNeg < (n - x).toNatClampNeg := by
  refine ⟨⟨h0, by grind⟩, by grind, by grind, clamp_lt (by grind) (by grind)⟩
theorem characters_bo (s : S1) (h : q_Bi s) : ok M_Mo_characters s (fun _ s' => Bo s s') := by
  obtain ⟨hr, _, hh, ha⟩ := h
  have hg := hr.1
  have hz := hr.2.1
  have a0 : 0 ≤ gI s 898 0 := hg.2.2.2.1.2.1.1
  have ha' : gI s 898 0 ≤ 250 := ha
  simp only [M_Mo_characters, ok_B, ok_C, ok_R, ok_L, ok_K, ok_GI, ok_GL, ok_PI, ok_PL, ok_AI, ok_AL, ok_SI, ok_SL, ok_Pr, ok_CI, cmp_lt, cmp_le, cmp_gt, cmp_ge, cmp_eq, nar0, nar1, Sum.elim_inl, Sum.elim_inr]
  refine ok_mono (ok_W (Q := fun _ s' => Rx s s' ∧ v_hand_n s' = 0 ∧ gI s' 898 0 = gI s 898 0) (fun x s' => (0 ≤ x ∧ x ≤ gI s 898 0) ∧ Rx s s' ∧ v_hand_n s' = 0 ∧ gI s' 898 0 = gI s 898 0) (fun x _ => (gI s 898 0 - x).toNatClampNeg) ?_ (0 : Int32) s ⟨⟨(show (0 : Int32) ≤ 0 by decide), a0⟩, Rx.refl hg hz, hh, rfl⟩) ?_
  · rintro x s1 ⟨⟨x0, x1⟩, rx, hh1, ea⟩
    simp only [M_Mo_characters_L2, ok_B, ok_C, ok_R, ok_L, ok_K, ok_GI, ok_GL, ok_PI, ok_PL, ok_AI, ok_AL, ok_SI, ok_SL, ok_Pr, ok_CI, cmp_lt, cmp_le, cmp_gt, cmp_ge, cmp_eq, nar0, nar1, Sum.elim_inl, Sum.elim_inr]
    refine ⟨fun _ => ⟨rx, hh1, ea⟩, fun c => ?_⟩
    rw [ea] at c
    obtain ⟨n1, n2, n3, n4⟩ := char_num x0 ha' c
    refine ok_mono (is_ok s1 x 3 rx.1 x0) fun v s2 ⟨_, _, es⟩ => ?_
    subst es
    refine ⟨fun _ => ⟨rx, hh1, ea⟩, fun _ => ok_mono (av_ok s2 x rx.1 x0) fun v2 s3 ⟨_, es⟩ => ?_⟩
    subst es
    refine ⟨fun _ => ⟨rx, hh1, ea⟩, fun _ => ok_mono (av_ok s3 x rx.1 x0) fun v3 s4 ⟨_, es⟩ => ?_⟩
    subst es
    refine ⟨fun _ => ok_mono (av_ok s4 x rx.1 x0) fun v4 s5 ⟨_, es⟩ => ?_, fun _ => ⟨rx, hh1, ea⟩⟩
    subst es
    refine ⟨n1, ⟨⟨n2, n3⟩, rx.trans (built_rx rx.1 rx.2.1 _ _), ?_, ?_⟩, n4⟩
    · exact hh1
    · exact ea
  · rintro y s1 ⟨rx, hh1, ea⟩
    rcases y with y | y | y
    · simp only [Sum.elim_inl, ok_B, ok_C, ok_R, ok_L, ok_K, ok_GI, ok_GL, ok_PI, ok_PL, ok_AI, ok_AL, ok_SI, ok_SL, ok_Pr, ok_CI, cmp_lt, cmp_le, cmp_gt, cmp_ge, cmp_eq, nar0, nar1, Sum.elim_inl, Sum.elim_inr]
      exact ok_mono (raise_bo s1 3 rx.1 rx.2.1 hh1) fun _ _ w => w.pre rx
    · simp only [Sum.elim_inl, Sum.elim_inr, M_Mo_characters_j51, ok_B, ok_C, ok_R, ok_L, ok_K, ok_GI, ok_GL, ok_PI, ok_PL, ok_AI, ok_AL, ok_SI, ok_SL, ok_Pr, ok_CI, cmp_lt, cmp_le, cmp_gt, cmp_ge, cmp_eq, nar0, nar1, Sum.elim_inl, Sum.elim_inr]
      exact ok_mono (raise_bo s1 7 rx.1 rx.2.1 hh1) fun _ _ w => w.pre rx
    · simp only [Sum.elim_inr]
      rw [ok_B, ok_GI, ea]
      refine ok_mono (strGive_bo s1 87 0 0 (gI s 898 0) rx.1 rx.2.1 hh1 rfl ⟨by decide, by decide⟩ ⟨by decide, by decide⟩ ⟨a0, Int32.le_trans ha' (by decide)⟩ (Int32.le_trans ha' (by decide)) ?_ (by decide) (by decide)) fun _ _ w => w.pre rx
      rw [Int32.zero_add]
      exact Int32.le_trans ha' (by decide)
theorem integer_ok (s : S1) (j : Int32) (h : GG s) (hj : 0 ≤ j) : ok (M_Mo_integer j) s (fun _ s' => s' = s) := by
  simp only [M_Mo_integer, M_Mo_integer_j18, ok_B, ok_C, ok_R, ok_L, ok_K, ok_GI, ok_GL, ok_PI, ok_PL, ok_AI, ok_AL, ok_SI, ok_SL, ok_Pr, ok_CI, cmp_lt, cmp_le, cmp_gt, cmp_ge, cmp_eq, nar0, nar1, Sum.elim_inl, Sum.elim_inr]
  refine ok_mono (is_ok s j 3 h hj) fun v s1 ⟨_, _, es⟩ => ?_
  subst es
  refine ⟨fun _ => ok_mono (is_ok s1 j 0 h hj) fun v s2 ⟨_, _, es⟩ => ?_, fun _ => by trivial⟩
  subst es
  exact ⟨fun _ => by trivial, fun _ => by trivial⟩
theorem from_ok (s : S1) (k : Int64) (n : Int32) : ok (M_Mo_from k n) s (fun _ s' => s' = s) := by
  simp only [M_Mo_from, ok_B, ok_C, ok_R, ok_L, ok_K, ok_GI, ok_GL, ok_PI, ok_PL, ok_AI, ok_AL, ok_SI, ok_SL, ok_Pr, ok_CI, cmp_lt, cmp_le, cmp_gt, cmp_ge, cmp_eq, nar0, nar1, Sum.elim_inl, Sum.elim_inr]
  exact ⟨fun _ => ⟨fun _ => by trivial, fun _ => by trivial⟩, fun _ => by trivial⟩
theorem text_num {f n : Int32} {i : Int64} (hf : 0 ≤ f ∧ f ≤ 400000) (hn : 0 ≤ n ∧ n ≤ 400000) (hs : f + n ≤ 400000) (h1 : 1 ≤ i) (h2 : i ≤ n.toInt64) : i.toInt32.toInt = i.toInt ∧ 1 ≤ i.toInt ∧ i.toInt ≤ n.toInt ∧ (f + i.toInt32 - 1).toInt = f.toInt + i.toInt - 1 ∧ (0 ≤ f + i.toInt32 - 1 ∧ f + i.toInt32 - 1 < 400000) := by
  have c0 : (0 : Int32).toInt = 0 := rfl
  have c1 : (400000 : Int32).toInt = 400000 := rfl
  have c2 : (1 : Int32).toInt = 1 := rfl
  have c3 : (1 : Int64).toInt = 1 := rfl
  rw [i64_le, c3] at h1
  rw [i64_le, Int32.toInt_toInt64] at h2
  simp only [i32_le, i32_lt, c0, c1] at *
  have y1 := tI_add (a := f) (b := n) (by omega)
  have sm := i64_sm (x := i) (by omega)
  have y2 := tI_add (a := f) (b := i.toInt32) (by omega)
  have y3 := tI_sub (a := f + i.toInt32) (b := 1) (by omega)
  refine ⟨sm, h1, h2, ?_, ?_⟩
  · rw [y3, y2, sm, c2]
  · omega
theorem byte49_bo (s : S1) (x : Int32) (k : Int64) (h : q_Bi s) (hx : Lv false s x 4) : ok (M_Mo_byteOf_j49 x k) s (fun _ s' => Bo s s') := by
  obtain ⟨hr, _, hh, ha⟩ := h
  have hg := hr.1
  have hz := hr.2.1
  obtain ⟨i1, i2, i3, i4⟩ := str_in hg hx
  have no : ok M_Mo_byteOf_j77 s (fun _ s' => Bo s s') := by
    simp only [M_Mo_byteOf_j77, ok_B, ok_C, ok_R, ok_L, ok_K, ok_GI, ok_GL, ok_PI, ok_PL, ok_AI, ok_AL, ok_SI, ok_SL, ok_Pr, ok_CI, cmp_lt, cmp_le, cmp_gt, cmp_ge, cmp_eq, nar0, nar1, Sum.elim_inl, Sum.elim_inr]
    exact ok_mono (give_bo s 0 0 hg hz hh (Or.inl ⟨by decide, by decide⟩)) fun _ _ w => w.1
  simp only [M_Mo_byteOf_j49, ok_B, ok_C, ok_R, ok_L, ok_K, ok_GI, ok_GL, ok_PI, ok_PL, ok_AI, ok_AL, ok_SI, ok_SL, ok_Pr, ok_CI, cmp_lt, cmp_le, cmp_gt, cmp_ge, cmp_eq, nar0, nar1, Sum.elim_inl, Sum.elim_inr]
  refine ⟨i4, ok_mono (from_ok s k _) fun v s1 es => ?_⟩
  subst es
  refine ⟨fun _ => no, fun c => ⟨i4, fun d => ⟨i4, ?_⟩, fun _ => no⟩⟩
  have t := text_num i1 i2 i3 (Int64.not_lt.mp c) d
  exact ⟨t.2.2.2.2, ok_mono (give_bo s1 3 _ hg hz hh (Or.inl ⟨by decide, by decide⟩)) fun _ _ w => w.1⟩
theorem byteOf_bo (s : S1) (h : q_Bi s) : ok M_Mo_byteOf s (fun _ s' => Bo s s') := by
  have h0 := h
  obtain ⟨hr, _, hh, ha⟩ := h
  have hg := hr.1
  have hz := hr.2.1
  have no : ok M_Mo_byteOf_j17 s (fun _ s' => Bo s s') := by
    simp only [M_Mo_byteOf_j17, ok_B, ok_C, ok_R, ok_L, ok_K, ok_GI, ok_GL, ok_PI, ok_PL, ok_AI, ok_AL, ok_SI, ok_SL, ok_Pr, ok_CI, cmp_lt, cmp_le, cmp_gt, cmp_ge, cmp_eq, nar0, nar1, Sum.elim_inl, Sum.elim_inr]
    exact raise_bo s 3 hg hz hh
  simp only [M_Mo_byteOf, ok_B, ok_C, ok_R, ok_L, ok_K, ok_GI, ok_GL, ok_PI, ok_PL, ok_AI, ok_AL, ok_SI, ok_SL, ok_Pr, ok_CI, cmp_lt, cmp_le, cmp_gt, cmp_ge, cmp_eq, nar0, nar1, Sum.elim_inl, Sum.elim_inr]
  refine ok_mono (is_ok s 0 4 hg (by decide)) fun v s1 ⟨c1, c2, es⟩ => ?_
  subst es
  refine ⟨fun _ => no, fun c => ok_mono (integer_ok s1 1 hg (by decide)) fun _ s2 es => ?_⟩
  subst es
  refine ⟨fun _ => no, fun _ => ok_mono (av_ok s2 0 hg (by decide)) fun v2 s3 ⟨e2, es⟩ => ?_⟩
  subst es
  have vl := ar_vl (j := 0) hg (by decide)
  rw [c2 c, ← e2] at vl
  have l4 := vl.to (by decide) (by decide)
  refine ok_mono (is_ok s3 1 0 hg (by decide)) fun v3 s4 ⟨_, _, es⟩ => ?_
  subst es
  refine ⟨fun _ => ok_mono (av_ok s4 1 hg (by decide)) fun v5 s5 ⟨_, es⟩ => ?_, fun _ => byte49_bo s4 _ 1 h0 l4⟩
  subst es
  exact byte49_bo s5 _ v5 h0 l4
theorem min_ok (s : S1) (a b : Int64) : ok (M_Mth_min_ a b) s (fun v s' => (v = a ∨ v = b) ∧ v ≤ a ∧ v ≤ b ∧ s' = s) := by
  simp only [M_Mth_min_, ok_B, ok_C, ok_R, ok_L, ok_K, ok_GI, ok_GL, ok_PI, ok_PL, ok_AI, ok_AL, ok_SI, ok_SL, ok_Pr, ok_CI, cmp_lt, cmp_le, cmp_gt, cmp_ge, cmp_eq, nar0, nar1, Sum.elim_inl, Sum.elim_inr]
  exact ⟨fun c => ⟨Or.inr (by trivial), Int64.le_of_lt c, Int64.le_refl _, by trivial⟩, fun c => ⟨Or.inl (by trivial), Int64.le_refl _, Int64.not_lt.mp c, by trivial⟩⟩
theorem max_ok (s : S1) (a b : Int64) : ok (M_Mth_max_ a b) s (fun v s' => a ≤ v ∧ b ≤ v ∧ s' = s) := by
  simp only [M_Mth_max_, ok_B, ok_C, ok_R, ok_L, ok_K, ok_GI, ok_GL, ok_PI, ok_PL, ok_AI, ok_AL, ok_SI, ok_SL, ok_Pr, ok_CI, cmp_lt, cmp_le, cmp_gt, cmp_ge, cmp_eq, nar0, nar1, Sum.elim_inl, Sum.elim_inr]
  exact ⟨fun c => ⟨Int64.le_of_lt c, Int64.le_refl _, by trivial⟩, fun c => ⟨Int64.le_refl _, Int64.not_lt.mp c, by trivial⟩⟩
theorem sub_num {f n : Int32} {i j : Int64} (hf : 0 ≤ f ∧ f ≤ 400000) (hn : 0 ≤ n ∧ n ≤ 400000) (h6 : n ≤ 266667) (hs : f + n ≤ 400000) (h1 : 1 ≤ i) (h2 : j ≤ n.toInt64) (h3 : i ≤ j) : (0 ≤ f + i.toInt32 - 1 ∧ f + i.toInt32 - 1 ≤ 400000) ∧ (0 ≤ (j - i + 1).toInt32 ∧ (j - i + 1).toInt32 ≤ 400000) ∧ (j - i + 1).toInt32 ≤ 266667 ∧ f + i.toInt32 - 1 + (j - i + 1).toInt32 ≤ 400000 := by
  have t := text_num hf hn hs h1 (Int64.le_trans h3 h2)
  have c0 : (0 : Int32).toInt = 0 := rfl
  have c1 : (400000 : Int32).toInt = 400000 := rfl
  have c6 : (266667 : Int32).toInt = 266667 := rfl
  have c2 : (1 : Int32).toInt = 1 := rfl
  have c3 : (1 : Int64).toInt = 1 := rfl
  rw [i64_le, Int32.toInt_toInt64] at h2
  rw [i64_le] at h3
  have y0 := tI_add (a := f) (b := n) (by
    simp only [i32_le, c0, c1] at hf hn
    omega)
  simp only [i32_le, i32_lt, c0, c1, c6] at *
  have d1 : (j - i).toInt = j.toInt - i.toInt := by
    rw [Int64.toInt_sub, Int.bmod_eq_of_le]
    · omega
    · omega
  have d2 := sel_add (x := j - i) (by omega)
  have d3 := i64_sm (x := j - i + 1) (by omega)
  have d4 := tI_add (a := f + i.toInt32 - 1) (b := (j - i + 1).toInt32) (by omega)
  omega
theorem sub150_bo (s : S1) (a n : Int32) (h : GG s) (hz : f_noCollection s = 0) (hh : v_hand_n s = 0) (ha : 0 ≤ a ∧ a ≤ 400000) (hn : 0 ≤ n ∧ n ≤ 400000) (hn6 : n ≤ 266667) (hl : a + n ≤ 400000) : ok (oB (M_Mo_string 67 0 a n) fun v => M_Mo_sub_j150 v) s (fun _ s' => Bo s s') := strGive_bo s 67 0 a n h hz hh rfl ⟨by decide, by decide⟩ ha hn hn6 hl (by decide) (by decide)
theorem sub95_bo (s : S1) (x : Int32) (i k : Int64) (h : q_Bi s) (hx : Lv false s x 4) (hi : 1 ≤ i) : ok (M_Mo_sub_j95 x (a_second s x) i k (a_second s x).toInt64) s (fun _ s' => Bo s s') := by
  obtain ⟨hr, _, hh, ha⟩ := h
  have hg := hr.1
  have hz := hr.2.1
  obtain ⟨i1, i2, i3, i4⟩ := str_in hg hx
  have h6 : a_second s x ≤ 266667 := (hg.2.1.2.2.2.2 x hx.1 hx.2.1 hx.2.2.1).2
  unfold M_Mo_sub_j95
  rw [ok_B]
  refine ok_mono (from_ok s k _) fun v s1 es => ?_
  subst es
  rw [ok_B]
  refine ok_mono (min_ok s1 _ v) fun j s2 ⟨_, m1, _, es⟩ => ?_
  subst es
  rw [ok_C]
  refine ⟨fun c => ?_, fun _ => ?_⟩
  · rw [ok_B, ok_AI]
    obtain ⟨q1, q2, q3, q4⟩ := sub_num i1 i2 h6 i3 hi m1 ((lg_cmp_le _ _).mp c)
    exact ⟨i4, sub150_bo s2 _ _ hg hz hh q1 q2 q3 q4⟩
  · exact sub150_bo s2 0 0 hg hz hh ⟨by decide, by decide⟩ ⟨by decide, by decide⟩ (by decide) (by decide)
theorem sub65_bo (s : S1) (x : Int32) (k : Int64) (h : q_Bi s) (hx : Lv false s x 4) : ok (M_Mo_sub_j65 x (a_second s x) k 1) s (fun _ s' => Bo s s') := by
  have hg := h.1.1
  unfold M_Mo_sub_j65
  rw [ok_B]
  refine ok_mono (from_ok s k _) fun v s1 es => ?_
  subst es
  rw [ok_B]
  refine ok_mono (max_ok s1 1 v) fun i s2 ⟨m1, _, es⟩ => ?_
  subst es
  rw [ok_B]
  refine ok_mono (is_ok s2 2 0 hg (by decide)) fun v3 s3 ⟨_, _, es⟩ => ?_
  subst es
  rw [ok_C]
  refine ⟨fun _ => ?_, fun _ => sub95_bo s3 x i (-1) h hx m1⟩
  rw [ok_B]
  refine ok_mono (av_ok s3 2 hg (by decide)) fun v4 s4 ⟨_, es⟩ => ?_
  subst es
  exact sub95_bo s4 x i v4 h hx m1
theorem sub_bo (s : S1) (h : q_Bi s) : ok M_Mo_sub s (fun _ s' => Bo s s') := by
  have h0 := h
  obtain ⟨hr, _, hh, ha⟩ := h
  have hg := hr.1
  have hz := hr.2.1
  have no : ok M_Mo_sub_j25 s (fun _ s' => Bo s s') := by
    simp only [M_Mo_sub_j25, ok_B, ok_C, ok_R, ok_L, ok_K, ok_GI, ok_GL, ok_PI, ok_PL, ok_AI, ok_AL, ok_SI, ok_SL, ok_Pr, ok_CI, cmp_lt, cmp_le, cmp_gt, cmp_ge, cmp_eq, nar0, nar1, Sum.elim_inl, Sum.elim_inr]
    exact raise_bo s 3 hg hz hh
  simp only [M_Mo_sub, ok_B, ok_C, ok_R, ok_L, ok_K, ok_GI, ok_GL, ok_PI, ok_PL, ok_AI, ok_AL, ok_SI, ok_SL, ok_Pr, ok_CI, cmp_lt, cmp_le, cmp_gt, cmp_ge, cmp_eq, nar0, nar1, Sum.elim_inl, Sum.elim_inr]
  refine ok_mono (is_ok s 0 4 hg (by decide)) fun v s1 ⟨c1, c2, es⟩ => ?_
  subst es
  refine ⟨fun _ => no, fun c => ok_mono (integer_ok s1 1 hg (by decide)) fun _ s2 es => ?_⟩
  subst es
  refine ⟨fun _ => no, fun _ => ok_mono (integer_ok s2 2 hg (by decide)) fun _ s3 es => ?_⟩
  subst es
  refine ⟨fun _ => no, fun _ => ok_mono (av_ok s3 0 hg (by decide)) fun v2 s4 ⟨e2, es⟩ => ?_⟩
  subst es
  have vl := ar_vl (j := 0) hg (by decide)
  rw [c2 c, ← e2] at vl
  have l4 := vl.to (by decide) (by decide)
  refine ⟨l4.b hg, ok_mono (is_ok s4 1 0 hg (by decide)) fun v3 s5 ⟨_, _, es⟩ => ?_⟩
  subst es
  refine ⟨fun _ => ok_mono (av_ok s5 1 hg (by decide)) fun v5 s6 ⟨_, es⟩ => ?_, fun _ => sub65_bo s5 _ 1 h0 l4⟩
  subst es
  exact sub65_bo s6 _ v5 h0 l4
