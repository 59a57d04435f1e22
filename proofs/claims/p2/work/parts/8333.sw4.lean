/-! The sweep's second round: places are free again. -/
def Frl (s : S1) : Prop := 0 ≤ f_freed s ∧ (∀ j, 0 ≤ j → j < f_freed s → 0 ≤ a_free s j ∧ a_free s j < f_used s ∧ a_sort s (a_free s j) = 0) ∧ (∀ i j, 0 ≤ i → i < j → j < f_freed s → a_free s i ≠ a_free s j) ∧ f_existing s + f_freed s = f_used s
theorem Frl.le {s : S1} (h : Frl s) (hu : 0 ≤ f_used s) : f_freed s ≤ f_used s := pigeon (a_free s) _ _ h.1 hu (fun i a b => ⟨(h.2.1 i a b).1, (h.2.1 i a b).2.1⟩) h.2.2.1
theorem Frl.lt {s : S1} (h : Frl s) (hu : 0 ≤ f_used s ∧ f_used s ≤ 4000) {x : Int32} (hx : 0 ≤ x ∧ x < f_used s) (hn : a_sort s x ≠ 0) : f_freed s < f_used s := by
  have hle := h.le hu.1
  have h0 := h.1
  have := pigeon (fun i => if i = f_freed s then x else a_free s i) (f_freed s + 1) (f_used s) (by clear h; grind) hu.1
    (fun i a b => by have := h.2.1 i a; clear h; grind)
    (fun i j a b c => by
      have e1 := h.2.1 i a
      have e2 := h.2.2.1 i j a b
      clear h
      have e3 : a_free s i = x → a_sort s (a_free s i) = a_sort s x := fun z => by rw [z]
      grind)
  clear h
  grind
def J2 (s s' : S1) (x : Int32) : Prop := (∀ f i, f ≠ 34 → f ≠ 54 → gI s' f i = gI s f i) ∧ (∀ f i, gL s' f i = gL s f i) ∧ (∀ a i j, a ≠ 58 → a ≠ 66 → gA s' a i j = gA s a i j) ∧ (∀ a i j, gB s' a i j = gB s a i j) ∧ ∀ z, gA s' 58 0 z = if z = x then 0 else gA s 58 0 z
theorem z8 : (0 : Int32).toInt8.toInt32 = 0 := rfl
theorem j204_ok (s : S1) (a : Int32) (b : Int64) (x : Int32) (hu : 0 ≤ f_used s ∧ f_used s ≤ 4000) (hf : Frl s) (hx : 0 ≤ x ∧ x < f_used s) (h0 : a_sort s x ≠ 0) : ok (M_Mo_sweep_j204 a b x) s (fun y s' => y = Sum.inl (a, b, x + 1) ∧ Frl s' ∧ J2 s s' x) := by
  have hlt := hf.lt hu hx h0
  have hx1 : 0 ≤ x ∧ x < 4100 := by clear hf; grind
  obtain ⟨f1, f2, f3, f4⟩ := hf
  simp only [M_Mo_sweep_j204, M_Mo_sweep_j240, ok_B, ok_C, ok_R, ok_L, ok_K, ok_GI, ok_GL, ok_PI, ok_PL, ok_AI, ok_AL, ok_SI, ok_SL, ok_Pr, ok_CI, cmp_lt, cmp_le, cmp_gt, cmp_ge, cmp_eq, nar0, nar1, Sum.elim_inl, Sum.elim_inr, z8]
  simp only [gI_sI, gI_sL, gI_sA, gI_sB, gI_sAf, gI_sBf, gL_sI, gL_sL, gL_sA, gL_sB, gL_sAf, gL_sBf, gA_sI, gA_sL, gA_sA, gA_sB, gA_sAf, gA_sBf, gB_sI, gB_sL, gB_sA, gB_sB, gB_sAf, gB_sBf, Nat.reduceEqDiff, Nat.reduceMul, Nat.reduceAdd, false_and, true_and, and_true, and_false, if_true, if_false]
  refine ⟨hx1, ?_, ⟨?_, fun j p q => ?_, fun i j p q r => ?_, ?_⟩, ⟨fun f i p q => ?_, fun f i => rfl, fun c i j p q => ?_, fun c i j => rfl, fun z => ?_⟩⟩
  · simp only [a_sort, a_tag, a_first, a_second, a_third, a_chain, a_free, a_text, a_heads, a_ek, a_ev, a_vk, a_vv, a_follow, a_bucket, a_registers, f_used, v_variable_k, v_variable_v, v_stack_k, v_stack_v, v_row_k, v_row_v, v_start_n, v_start_k, v_start_v, t_place, t_frames, t_openCount, t_open, t_kind, t_function, t_base, t_extra, t_rowCount, p_ek, p_vk, p_ev, p_vv, p_follow, f_freed, f_existing] at *
    clear f2 f3
    grind
  · simp only [a_sort, a_tag, a_first, a_second, a_third, a_chain, a_free, a_text, a_heads, a_ek, a_ev, a_vk, a_vv, a_follow, a_bucket, a_registers, f_used, v_variable_k, v_variable_v, v_stack_k, v_stack_v, v_row_k, v_row_v, v_start_n, v_start_k, v_start_v, t_place, t_frames, t_openCount, t_open, t_kind, t_function, t_base, t_extra, t_rowCount, p_ek, p_vk, p_ev, p_vv, p_follow, f_freed, f_existing, gI_sI, gI_sL, gI_sA, gI_sB, gI_sAf, gI_sBf, gL_sI, gL_sL, gL_sA, gL_sB, gL_sAf, gL_sBf, gA_sI, gA_sL, gA_sA, gA_sB, gA_sAf, gA_sBf, gB_sI, gB_sL, gB_sA, gB_sB, gB_sAf, gB_sBf, Nat.reduceEqDiff, Nat.reduceMul, Nat.reduceAdd, false_and, true_and, and_true, and_false, if_true, if_false] at *
    clear f2 f3
    grind
  · have e := f2 j p
    simp only [a_sort, a_tag, a_first, a_second, a_third, a_chain, a_free, a_text, a_heads, a_ek, a_ev, a_vk, a_vv, a_follow, a_bucket, a_registers, f_used, v_variable_k, v_variable_v, v_stack_k, v_stack_v, v_row_k, v_row_v, v_start_n, v_start_k, v_start_v, t_place, t_frames, t_openCount, t_open, t_kind, t_function, t_base, t_extra, t_rowCount, p_ek, p_vk, p_ev, p_vv, p_follow, f_freed, f_existing, gI_sI, gI_sL, gI_sA, gI_sB, gI_sAf, gI_sBf, gL_sI, gL_sL, gL_sA, gL_sB, gL_sAf, gL_sBf, gA_sI, gA_sL, gA_sA, gA_sB, gA_sAf, gA_sBf, gB_sI, gB_sL, gB_sA, gB_sB, gB_sAf, gB_sBf, Nat.reduceEqDiff, Nat.reduceMul, Nat.reduceAdd, false_and, true_and, and_true, and_false, if_true, if_false] at *
    clear f2 f3
    by_cases d : j = gI s 54 0
    · rw [if_pos d]
      exact ⟨hx.1, hx.2, if_pos rfl⟩
    · rw [if_neg d]
      have e2 := e (by grind)
      refine ⟨e2.1, e2.2.1, ?_⟩
      rw [e2.2.2]
      exact ite_self 0
  · have e := f3 i j p q
    have e1 := f2 i p
    simp only [a_sort, a_tag, a_first, a_second, a_third, a_chain, a_free, a_text, a_heads, a_ek, a_ev, a_vk, a_vv, a_follow, a_bucket, a_registers, f_used, v_variable_k, v_variable_v, v_stack_k, v_stack_v, v_row_k, v_row_v, v_start_n, v_start_k, v_start_v, t_place, t_frames, t_openCount, t_open, t_kind, t_function, t_base, t_extra, t_rowCount, p_ek, p_vk, p_ev, p_vv, p_follow, f_freed, f_existing, gI_sI, gI_sL, gI_sA, gI_sB, gI_sAf, gI_sBf, gL_sI, gL_sL, gL_sA, gL_sB, gL_sAf, gL_sBf, gA_sI, gA_sL, gA_sA, gA_sB, gA_sAf, gA_sBf, gB_sI, gB_sL, gB_sA, gB_sB, gB_sAf, gB_sBf, Nat.reduceEqDiff, Nat.reduceMul, Nat.reduceAdd, false_and, true_and, and_true, and_false, if_true, if_false] at *
    clear f2 f3
    have hi : i ≠ gI s 54 0 := by grind
    rw [if_neg hi]
    by_cases d : j = gI s 54 0
    · rw [if_pos d]
      intro z
      have := (e1 (by grind)).2.2
      rw [z] at this
      exact h0 this
    · rw [if_neg d]
      exact e (by grind)
  · simp only [a_sort, a_tag, a_first, a_second, a_third, a_chain, a_free, a_text, a_heads, a_ek, a_ev, a_vk, a_vv, a_follow, a_bucket, a_registers, f_used, v_variable_k, v_variable_v, v_stack_k, v_stack_v, v_row_k, v_row_v, v_start_n, v_start_k, v_start_v, t_place, t_frames, t_openCount, t_open, t_kind, t_function, t_base, t_extra, t_rowCount, p_ek, p_vk, p_ev, p_vv, p_follow, f_freed, f_existing, gI_sI, gI_sL, gI_sA, gI_sB, gI_sAf, gI_sBf, gL_sI, gL_sL, gL_sA, gL_sB, gL_sAf, gL_sBf, gA_sI, gA_sL, gA_sA, gA_sB, gA_sAf, gA_sBf, gB_sI, gB_sL, gB_sA, gB_sB, gB_sAf, gB_sBf, Nat.reduceEqDiff, Nat.reduceMul, Nat.reduceAdd, false_and, true_and, and_true, and_false, if_true, if_false] at *
    clear f2 f3
    grind
  · simp only [gI_sI, gI_sL, gI_sA, gI_sB, gI_sAf, gI_sBf, gL_sI, gL_sL, gL_sA, gL_sB, gL_sAf, gL_sBf, gA_sI, gA_sL, gA_sA, gA_sB, gA_sAf, gA_sBf, gB_sI, gB_sL, gB_sA, gB_sB, gB_sAf, gB_sBf, Nat.reduceEqDiff, Nat.reduceMul, Nat.reduceAdd, false_and, true_and, and_true, and_false, if_true, if_false, p, q]
  · simp only [gI_sI, gI_sL, gI_sA, gI_sB, gI_sAf, gI_sBf, gL_sI, gL_sL, gL_sA, gL_sB, gL_sAf, gL_sBf, gA_sI, gA_sL, gA_sA, gA_sB, gA_sAf, gA_sBf, gB_sI, gB_sL, gB_sA, gB_sB, gB_sAf, gB_sBf, Nat.reduceEqDiff, Nat.reduceMul, Nat.reduceAdd, false_and, true_and, and_true, and_false, if_true, if_false, p, q]
  · simp only [gI_sI, gI_sL, gI_sA, gI_sB, gI_sAf, gI_sBf, gL_sI, gL_sL, gL_sA, gL_sB, gL_sAf, gL_sBf, gA_sI, gA_sL, gA_sA, gA_sB, gA_sAf, gA_sBf, gB_sI, gB_sL, gB_sA, gB_sB, gB_sAf, gB_sBf, Nat.reduceEqDiff, Nat.reduceMul, Nat.reduceAdd, false_and, true_and, and_true, and_false, if_true, if_false]
theorem Str.drop {s : S1} {x : Int32} (hs : Str s) (hx : a_sort s x ≠ 4) : Str (sA s 58 0 x 0) := by
  have e58 : ∀ z, gA (sA s 58 0 x 0) 58 0 z = if z = x then 0 else gA s 58 0 z := fun z => by simp only [gI_sI, gI_sL, gI_sA, gI_sB, gI_sAf, gI_sBf, gL_sI, gL_sL, gL_sA, gL_sB, gL_sAf, gL_sBf, gA_sI, gA_sL, gA_sA, gA_sB, gA_sAf, gA_sBf, gB_sI, gB_sL, gB_sA, gB_sB, gB_sAf, gB_sBf, Nat.reduceEqDiff, Nat.reduceMul, Nat.reduceAdd, false_and, true_and, and_true, and_false, if_true, if_false]
  have eo : ∀ a z, a ≠ 58 → gA (sA s 58 0 x 0) a 0 z = gA s a 0 z := fun a z c1 => by simp only [gA_sA, c1, false_and, if_false]
  have e4 : ∀ z, (gA (sA s 58 0 x 0) 58 0 z = 4) ↔ gA s 58 0 z = 4 := fun z => by
    rw [e58]
    by_cases c : z = x
    · rw [if_pos c, c]
      exact ⟨fun w => absurd w (by decide), fun w => absurd w hx⟩
    · rw [if_neg c]
  have g : ∀ z k, Sg (sA s 58 0 x 0) z k ↔ Sg s z k := fun z k => by
    unfold Sg
    simp only [a_sort, a_tag, a_first, a_second, a_third, a_chain, a_free, a_text, a_heads, a_ek, a_ev, a_vk, a_vv, a_follow, a_bucket, a_registers, f_used, v_variable_k, v_variable_v, v_stack_k, v_stack_v, v_row_k, v_row_v, v_start_n, v_start_k, v_start_v, t_place, t_frames, t_openCount, t_open, t_kind, t_function, t_base, t_extra, t_rowCount, p_ek, p_vk, p_ev, p_vv, p_follow, e4, gI_sA, eo 62 _ (by decide), eo 63 _ (by decide), hF_congr (fun j => eo 67 j (by decide))]
  obtain ⟨t1, t2, t3, t4, t5, t6⟩ := hs
  unfold Str H1 H2 H3 H4 StS at *
  simp only [a_sort, a_tag, a_first, a_second, a_third, a_chain, a_free, a_text, a_heads, a_ek, a_ev, a_vk, a_vv, a_follow, a_bucket, a_registers, f_used, v_variable_k, v_variable_v, v_stack_k, v_stack_v, v_row_k, v_row_v, v_start_n, v_start_k, v_start_v, t_place, t_frames, t_openCount, t_open, t_kind, t_function, t_base, t_extra, t_rowCount, p_ek, p_vk, p_ev, p_vv, p_follow, f_textMade, g, e4, gI_sA, eo 61 _ (by decide), eo 62 _ (by decide), eo 63 _ (by decide), eo 65 _ (by decide), eo 68 _ (by decide)] at *
  exact ⟨t1, t2, t3, t4, t5, t6⟩
def S2R (s0 s : S1) (i : Int32) : Prop := (∀ f j, f ≠ 34 → f ≠ 36 → f ≠ 54 → gI s f j = gI s0 f j) ∧ (∀ f j, gL s f j = gL s0 f j) ∧ (∀ a u j, a ≠ 58 → a ≠ 65 → a ≠ 66 → a ≠ 68 → gA s a u j = gA s0 a u j) ∧ (∀ a u j, gB s a u j = gB s0 a u j) ∧
  (∀ z, 0 ≤ z → z < f_used s0 → a_sort s z = if z < i ∧ a_marked s0 z = 0 then 0 else a_sort s0 z) ∧ ∀ z, 0 ≤ z → z < f_used s0 → a_sort s0 z ≠ 4 → a_chain s z = a_chain s0 z
theorem S2R.next {s0 s s2 : S1} {x : Int32} (h : S2R s0 s x) (hx : x < 4000) (hm : a_marked s0 x = 0) (hj : J2 s s2 x) : S2R s0 s2 (x + 1) := by
  obtain ⟨h1, h2, h3, h4, h5, h6⟩ := h
  obtain ⟨j1, j2, j3, j4, j5⟩ := hj
  refine ⟨fun f j p q r => (j1 f j p r).trans (h1 f j p q r), fun f j => (j2 f j).trans (h2 f j), fun a u j p q r w => (j3 a u j p r).trans (h3 a u j p q r w), fun a u j => (j4 a u j).trans (h4 a u j), fun z z1 z2 => ?_, fun z z1 z2 z3 => (j3 65 0 z (by decide) (by decide)).trans (h6 z z1 z2 z3)⟩
  show gA s2 58 0 z = _
  rw [j5]
  by_cases c : z = x
  · subst c
    rw [if_pos rfl, if_pos ⟨by clear h1 h2 h3 h4 h5 h6 j1 j2 j3 j4 j5; grind, hm⟩]
  · rw [if_neg c]
    show a_sort s z = _
    rw [h5 z z1 z2]
    have : (z < x ∧ a_marked s0 z = 0) ↔ (z < x + 1 ∧ a_marked s0 z = 0) := by
      have e : z < x ↔ z < x + 1 := by
        clear h1 h2 h3 h4 h5 h6 j1 j2 j3 j4 j5 hm
        grind
      rw [e]
    simp only [this]
theorem S2R.skip {s0 s : S1} {x : Int32} (h : S2R s0 s x) (hx : x < 4000) (hm : a_marked s0 x ≠ 0 ∨ a_sort s0 x = 0) : S2R s0 s (x + 1) := by
  obtain ⟨h1, h2, h3, h4, h5, h6⟩ := h
  refine ⟨h1, h2, h3, h4, fun z z1 z2 => ?_, h6⟩
  rw [h5 z z1 z2]
  by_cases c : z = x
  · subst c
    rw [if_neg (fun w => absurd w.1 Int32.lt_irrefl)]
    rcases hm with w | w
    · rw [if_neg (fun y => w y.2)]
    · rw [w]
      exact (ite_self 0).symm
  · have : (z < x ∧ a_marked s0 z = 0) ↔ (z < x + 1 ∧ a_marked s0 z = 0) := by
      have e : z < x ↔ z < x + 1 := by
        clear h1 h2 h3 h4 h5 h6 hm
        grind
      rw [e]
    simp only [this]
/-- an open variable that nothing reaches is of a thread that went -/
theorem SwI.opn {s : S1} (h : SwI s (f_used s)) {x : Int32} (hx : Lv false s x 8) (hm : a_marked s x = 0) : a_first s x < 0 := by
  obtain ⟨hu, hb, ho, hc, hp, hq, hd⟩ := h
  apply Int32.not_le.mp
  intro h0
  obtain ⟨c1, k, c2, c3, c4⟩ := hc x hx h0
  have b := (hb x hx.1 hx.2.1).2.2.2.2.2 hx.2.2.1
  obtain ⟨p1, p2⟩ := hp _ h0 b.1 c1
  by_cases m : a_marked s (t_place s (a_first s x)) = 0
  · have := hd _ p1.1 p1.2.1 p1.2.2.1 m
    rw [p2] at this
    exact absurd (Int32.lt_of_le_of_lt c1 this) Int32.lt_irrefl
  · have v := ((hb _ p1.1 p1.2.1).2.1 m).2.2.1 p1.2.2.1
    rw [p2] at v
    have w := (v.2.2 k c2 c3).2.2.2 rfl
    rw [c4] at w
    exact w hm
theorem sweep2_ok (s0 : S1) (a : Int32) (b : Int64) (hI : SwI s0 (f_used s0)) (hs0 : Str s0) (hf0 : Frl s0) : ok (oW M_Mo_sweep_L82 (a, b, 0)) s0 (fun y s' => y = (a, b) ∧ S2R s0 s' (f_used s0) ∧ Str s' ∧ Frl s') := by
  have hu := hI.1
  refine ok_W (fun y s' => y.1 = a ∧ y.2.1 = b ∧ (0 ≤ y.2.2 ∧ y.2.2 ≤ f_used s0) ∧ S2R s0 s' y.2.2 ∧ Str s' ∧ Frl s') (fun y _ => (f_used s0 - y.2.2).toNatClampNeg) ?_ _ _
    ⟨rfl, rfl, ⟨(show (0 : Int32) ≤ 0 by decide), hu.1⟩, ⟨fun _ _ _ _ _ => rfl, fun _ _ => rfl, fun _ _ _ _ _ _ _ => rfl, fun _ _ _ => rfl, fun z p q => (if_neg (fun w => absurd (Int32.lt_of_le_of_lt p w.1) Int32.lt_irrefl)).symm, fun _ _ _ _ => rfl⟩, hs0, hf0⟩
  rintro ⟨a', b', x⟩ s ⟨e1, e2, ⟨h1, h2⟩, hr, hs, hf⟩
  dsimp only at e1 e2 h1 h2 hr
  subst e1 e2
  have eu : gI s 40 0 = f_used s0 := hr.1 40 0 (by decide) (by decide) (by decide)
  have eu' : f_used s = f_used s0 := eu
  simp only [M_Mo_sweep_L82, M_Mo_sweep_j240, ok_B, ok_C, ok_R, ok_L, ok_K, ok_GI, ok_GL, ok_PI, ok_PL, ok_AI, ok_AL, ok_SI, ok_SL, ok_Pr, ok_CI, cmp_lt, cmp_le, cmp_gt, cmp_ge, cmp_eq, nar0, nar1, Sum.elim_inl, Sum.elim_inr]
  rw [eu]
  have nn : x < f_used s0 → (0 ≤ x ∧ x < 4100) ∧ (0 ≤ x + 1 ∧ x + 1 ≤ f_used s0) ∧ (f_used s0 - (x + 1)).toNatClampNeg < (f_used s0 - x).toNatClampNeg := fun c => by
    clear hr hs hf hI hs0 hf0
    exact ⟨by grind, by grind, clamp_lt (by grind) (by grind)⟩
  refine ⟨fun c => ⟨by trivial, ?_, hs, hf⟩, fun c => ?_⟩
  · rw [← Int32.le_antisymm h2 c]
    exact hr
  have hlt := Int32.not_le.mp c
  obtain ⟨n1, n2, n3⟩ := nn hlt
  have hx4 : x < 4000 := Int32.lt_of_lt_of_le hlt hu.2
  have e58 : gA s 58 0 x = a_sort s0 x := by
    have := hr.2.2.2.2.1 x h1 hlt
    rw [if_neg (fun w => absurd w.1 Int32.lt_irrefl)] at this
    exact this
  have e59 : gA s 59 0 x = a_marked s0 x := hr.2.2.1 59 0 x (by decide) (by decide) (by decide) (by decide)
  have e62 : gA s 62 0 x = a_first s0 x := hr.2.2.1 62 0 x (by decide) (by decide) (by decide) (by decide)
  rw [e58, e59, e62]
  -- how each road ends
  have fin : ∀ s1, a_marked s0 x = 0 → a_sort s0 x ≠ 0 → S2R s0 s1 x → Frl s1 → (∀ s2, J2 s1 s2 x → Str s2) → ok (M_Mo_sweep_j204 a' b' x) s1 (fun y s' => Sum.elim (fun z => (z.1 = a' ∧ z.2.1 = b' ∧ (0 ≤ z.2.2 ∧ z.2.2 ≤ f_used s0) ∧ S2R s0 s' z.2.2 ∧ Str s' ∧ Frl s') ∧ (f_used s0 - z.2.2).toNatClampNeg < (f_used s0 - x).toNatClampNeg) (fun e => e = (a', b') ∧ S2R s0 s' (f_used s0) ∧ Str s' ∧ Frl s') y) := fun s1 m0 k0 r1 f1 t1 => by
    have u1 : f_used s1 = f_used s0 := r1.1 40 0 (by decide) (by decide) (by decide)
    have q := r1.2.2.2.2.1 x h1 hlt
    rw [if_neg (fun w => absurd w.1 Int32.lt_irrefl)] at q
    refine ok_mono (j204_ok s1 a' b' x (by rw [u1]; exact hu) f1 ⟨h1, by rw [u1]; exact hlt⟩ (by rw [q]; exact k0)) fun y s2 ⟨ey, f2, j2⟩ => ?_
    subst ey
    exact ⟨⟨rfl, rfl, n2, r1.next hx4 m0 j2, t1 s2 j2, f2⟩, n3⟩
  have sq : ∀ s1 s2, J2 s1 s2 x → Sq (sA s1 58 0 x 0) s2 := fun s1 s2 j2 => by
    refine ⟨fun c j hc => ?_, j2.1 40 0 (by decide) (by decide), j2.1 38 0 (by decide) (by decide)⟩
    by_cases d : c = 58
    · subst d
      rw [j2.2.2.2.2]
      simp only [gI_sI, gI_sL, gI_sA, gI_sB, gI_sAf, gI_sBf, gL_sI, gL_sL, gL_sA, gL_sB, gL_sAf, gL_sBf, gA_sI, gA_sL, gA_sA, gA_sB, gA_sAf, gA_sBf, gB_sI, gB_sL, gB_sA, gB_sB, gB_sAf, gB_sBf, Nat.reduceEqDiff, Nat.reduceMul, Nat.reduceAdd, false_and, true_and, and_true, and_false, if_true, if_false]
    · rw [j2.2.2.1 c 0 j d (by rcases hc with w | w | w | w | w | w | w <;> rw [w] <;> decide)]
      simp only [gA_sA, d, false_and, if_false]
  refine ⟨n1, fun d => ⟨⟨by trivial, by trivial, n2, hr.skip hx4 (Or.inr d), hs, hf⟩, n3⟩, fun d => ⟨n1, fun e => ⟨n1, fun f => ?_, fun f => ⟨n1, fun g => ⟨n1, ?_⟩, fun g => ⟨n1, fun k => ⟨n1, fun l => ?_, fun l => ⟨n1, ?_⟩⟩, fun k => ?_⟩⟩⟩, fun e => ⟨⟨by trivial, by trivial, n2, hr.skip hx4 (Or.inl e), hs, hf⟩, n3⟩⟩⟩
  · -- a string
    have hg : Sg s x (hF s 67 0 (a_first s x) (a_second s x)) := ⟨h1, by rw [eu']; exact hlt, by show gA s 58 0 x = 4; rw [e58]; exact f, rfl⟩
    refine ok_mono (unchain_ok s x _ (by rw [eu']; exact Int32.le_trans hu.2 (by decide)) hs hg) fun _ s1 hc => ?_
    refine fin s1 e d ?_ ?_ (fun s2 j2 => (hs.unc hg hc).sq (sq s1 s2 j2))
    · obtain ⟨r1, r2, r3, r4, r5, r6⟩ := hr
      rcases hc with ⟨-, rfl⟩ | ⟨y, y1, y2, y3, rfl⟩
      · refine ⟨r1, r2, fun c u j p q r w => ?_, r4, fun z p q => ?_, fun z p q r => ?_⟩
        · rw [gA_sA, if_neg (fun z => w z.1)]
          exact r3 c u j p q r w
        · show gA (sA s 68 0 _ _) 58 0 z = _
          simp only [gI_sI, gI_sL, gI_sA, gI_sB, gI_sAf, gI_sBf, gL_sI, gL_sL, gL_sA, gL_sB, gL_sAf, gL_sBf, gA_sI, gA_sL, gA_sA, gA_sB, gA_sAf, gA_sBf, gB_sI, gB_sL, gB_sA, gB_sB, gB_sAf, gB_sBf, Nat.reduceEqDiff, Nat.reduceMul, Nat.reduceAdd, false_and, true_and, and_true, and_false, if_true, if_false]
          exact r5 z p q
        · show gA (sA s 68 0 _ _) 65 0 z = _
          simp only [gI_sI, gI_sL, gI_sA, gI_sB, gI_sAf, gI_sBf, gL_sI, gL_sL, gL_sA, gL_sB, gL_sAf, gL_sBf, gA_sI, gA_sL, gA_sA, gA_sB, gA_sAf, gA_sBf, gB_sI, gB_sL, gB_sA, gB_sB, gB_sAf, gB_sBf, Nat.reduceEqDiff, Nat.reduceMul, Nat.reduceAdd, false_and, true_and, and_true, and_false, if_true, if_false]
          exact r6 z p q r
      · refine ⟨r1, r2, fun c u j p q r w => ?_, r4, fun z p q => ?_, fun z p q r => ?_⟩
        · rw [gA_sA, if_neg (fun z => q z.1)]
          exact r3 c u j p q r w
        · show gA (sA s 65 0 _ _) 58 0 z = _
          simp only [gI_sI, gI_sL, gI_sA, gI_sB, gI_sAf, gI_sBf, gL_sI, gL_sL, gL_sA, gL_sB, gL_sAf, gL_sBf, gA_sI, gA_sL, gA_sA, gA_sB, gA_sAf, gA_sBf, gB_sI, gB_sL, gB_sA, gB_sB, gB_sAf, gB_sBf, Nat.reduceEqDiff, Nat.reduceMul, Nat.reduceAdd, false_and, true_and, and_true, and_false, if_true, if_false]
          exact r5 z p q
        · show gA (sA s 65 0 _ _) 65 0 z = _
          simp only [gI_sI, gI_sL, gI_sA, gI_sB, gI_sAf, gI_sBf, gL_sI, gL_sL, gL_sA, gL_sB, gL_sAf, gL_sBf, gA_sI, gA_sL, gA_sA, gA_sB, gA_sAf, gA_sBf, gB_sI, gB_sL, gB_sA, gB_sB, gB_sAf, gB_sBf, Nat.reduceEqDiff, Nat.reduceMul, Nat.reduceAdd, false_and, true_and, and_true, and_false, if_true, if_false]
          rw [if_neg]
          · exact r6 z p q r
          · intro w
            have y4 := y1.2.2.1
            rw [← w, r5 z p q] at y4
            by_cases v : z < x ∧ a_marked s0 z = 0
            · rw [if_pos v] at y4
              exact absurd y4 (by decide)
            · rw [if_neg v] at y4
              exact r y4
    · rcases hc with ⟨-, rfl⟩ | ⟨y, y1, y2, y3, rfl⟩ <;> (unfold Frl at *; simp only [a_sort, a_tag, a_first, a_second, a_third, a_chain, a_free, a_text, a_heads, a_ek, a_ev, a_vk, a_vv, a_follow, a_bucket, a_registers, f_used, v_variable_k, v_variable_v, v_stack_k, v_stack_v, v_row_k, v_row_v, v_start_n, v_start_k, v_start_v, t_place, t_frames, t_openCount, t_open, t_kind, t_function, t_base, t_extra, t_rowCount, p_ek, p_vk, p_ev, p_vv, p_follow, f_freed, f_existing, gI_sI, gI_sL, gI_sA, gI_sB, gI_sAf, gI_sBf, gL_sI, gL_sL, gL_sA, gL_sB, gL_sAf, gL_sBf, gA_sI, gA_sL, gA_sA, gA_sB, gA_sAf, gA_sBf, gB_sI, gB_sL, gB_sA, gB_sB, gB_sAf, gB_sBf, Nat.reduceEqDiff, Nat.reduceMul, Nat.reduceAdd, false_and, true_and, and_true, and_false, if_true, if_false] at *; exact hf)
  · -- a table
    refine fin _ e d ?_ ?_ (fun s2 j2 => ?_)
    · obtain ⟨r1, r2, r3, r4, r5, r6⟩ := hr
      refine ⟨fun c j p q r => ?_, r2, r3, r4, r5, r6⟩
      rw [gI_sI, if_neg (fun z => q z.1)]
      exact r1 c j p q r
    · unfold Frl at *
      simp only [a_sort, a_tag, a_first, a_second, a_third, a_chain, a_free, a_text, a_heads, a_ek, a_ev, a_vk, a_vv, a_follow, a_bucket, a_registers, f_used, v_variable_k, v_variable_v, v_stack_k, v_stack_v, v_row_k, v_row_v, v_start_n, v_start_k, v_start_v, t_place, t_frames, t_openCount, t_open, t_kind, t_function, t_base, t_extra, t_rowCount, p_ek, p_vk, p_ev, p_vv, p_follow, f_freed, f_existing, gI_sI, gI_sL, gI_sA, gI_sB, gI_sAf, gI_sBf, gL_sI, gL_sL, gL_sA, gL_sB, gL_sAf, gL_sBf, gA_sI, gA_sL, gA_sA, gA_sB, gA_sAf, gA_sBf, gB_sI, gB_sL, gB_sA, gB_sB, gB_sAf, gB_sBf, Nat.reduceEqDiff, Nat.reduceMul, Nat.reduceAdd, false_and, true_and, and_true, and_false, if_true, if_false] at *
      exact hf
    · have hd : Str (sA s 58 0 x 0) := hs.drop (by show gA s 58 0 x ≠ 4; rw [e58]; exact f)
      refine (hd.sq (s2 := sA (sI s 36 0 (gI s 36 0 - gA s 63 0 x)) 58 0 x 0) ⟨fun c j _ => by simp only [gI_sI, gI_sL, gI_sA, gI_sB, gI_sAf, gI_sBf, gL_sI, gL_sL, gL_sA, gL_sB, gL_sAf, gL_sBf, gA_sI, gA_sL, gA_sA, gA_sB, gA_sAf, gA_sBf, gB_sI, gB_sL, gB_sA, gB_sB, gB_sAf, gB_sBf, Nat.reduceEqDiff, Nat.reduceMul, Nat.reduceAdd, false_and, true_and, and_true, and_false, if_true, if_false], by simp only [gI_sI, gI_sL, gI_sA, gI_sB, gI_sAf, gI_sBf, gL_sI, gL_sL, gL_sA, gL_sB, gL_sAf, gL_sBf, gA_sI, gA_sL, gA_sA, gA_sB, gA_sAf, gA_sBf, gB_sI, gB_sL, gB_sA, gB_sB, gB_sAf, gB_sBf, Nat.reduceEqDiff, Nat.reduceMul, Nat.reduceAdd, false_and, true_and, and_true, and_false, if_true, if_false], by simp only [gI_sI, gI_sL, gI_sA, gI_sB, gI_sAf, gI_sBf, gL_sI, gL_sL, gL_sA, gL_sB, gL_sAf, gL_sBf, gA_sI, gA_sL, gA_sA, gA_sB, gA_sAf, gA_sBf, gB_sI, gB_sL, gB_sA, gB_sB, gB_sAf, gB_sBf, Nat.reduceEqDiff, Nat.reduceMul, Nat.reduceAdd, false_and, true_and, and_true, and_false, if_true, if_false]⟩).sq (sq _ s2 j2)
  · exact fin s e d hr hf (fun s2 j2 => (hs.drop (by show gA s 58 0 x ≠ 4; rw [e58]; exact f)).sq (sq s s2 j2))
  · exfalso
    exact l (hI.opn ⟨h1, hlt, k, fun z => by cases z⟩ e)
  · exact fin s e d hr hf (fun s2 j2 => (hs.drop (by show gA s 58 0 x ≠ 4; rw [e58]; exact f)).sq (sq s s2 j2))
