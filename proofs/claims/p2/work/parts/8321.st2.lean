/-! A string goes out of its bucket and out of the world. -/
def Sq (s s2 : S1) : Prop := (∀ a j, (a = 58 ∨ a = 61 ∨ a = 62 ∨ a = 63 ∨ a = 65 ∨ a = 67 ∨ a = 68) → gA s2 a 0 j = gA s a 0 j) ∧ gI s2 40 0 = gI s 40 0 ∧ gI s2 38 0 = gI s 38 0
theorem Sg.sq {s s2 : S1} (h : Sq s s2) (x k : Int32) : Sg s2 x k ↔ Sg s x k := by
  unfold Sg
  simp only [a_sort, a_tag, a_first, a_second, a_third, a_chain, a_free, a_text, a_heads, a_ek, a_ev, a_vk, a_vv, a_follow, a_bucket, a_registers, f_used, v_variable_k, v_variable_v, v_stack_k, v_stack_v, v_row_k, v_row_v, v_start_n, v_start_k, v_start_v, t_place, t_frames, t_openCount, t_open, t_kind, t_function, t_base, t_extra, t_rowCount, p_ek, p_vk, p_ev, p_vv, p_follow, h.1 58 _ (by decide), h.1 62 _ (by decide), h.1 63 _ (by decide), h.2.1, hF_congr (fun j => h.1 67 j (by decide))]
theorem Str.sq {s s2 : S1} (hs : Str s) (h : Sq s s2) : Str s2 := by
  obtain ⟨t1, t2, t3, t4, t5, t6⟩ := hs
  have g := Sg.sq h
  unfold Str H1 H2 H3 H4 StS at *
  simp only [a_sort, a_tag, a_first, a_second, a_third, a_chain, a_free, a_text, a_heads, a_ek, a_ev, a_vk, a_vv, a_follow, a_bucket, a_registers, f_used, v_variable_k, v_variable_v, v_stack_k, v_stack_v, v_row_k, v_row_v, v_start_n, v_start_k, v_start_v, t_place, t_frames, t_openCount, t_open, t_kind, t_function, t_base, t_extra, t_rowCount, p_ek, p_vk, p_ev, p_vv, p_follow, f_textMade, g, h.1 58 _ (by decide), h.1 61 _ (by decide), h.1 62 _ (by decide), h.1 63 _ (by decide), h.1 65 _ (by decide), h.1 68 _ (by decide), h.2.1, h.2.2] at *
  exact ⟨t1, t2, t3, t4, t5, t6⟩
theorem Str.unc {s s' : S1} {x h : Int32} (hs : Str s) (hx : Sg s x h) (hc : Unc s s' x h) : Str (sA s' 58 0 x 0) := by
  obtain ⟨t1, t2, t3, t4, t5, t6⟩ := hs
  have hh : 0 ≤ h ∧ h < 1024 := by rw [← hx.2.2.2]; exact hF_lt _ _ _ _ _
  obtain ⟨x1, x2, x3⟩ := t4 x h hx
  -- what the new world reads
  have e58 : ∀ z, gA (sA s' 58 0 x 0) 58 0 z = if z = x then 0 else gA s 58 0 z := fun z => by
    rcases hc with ⟨-, rfl⟩ | ⟨y, -, -, -, rfl⟩ <;> simp only [gI_sI, gI_sL, gI_sA, gI_sB, gI_sAf, gI_sBf, gL_sI, gL_sL, gL_sA, gL_sB, gL_sAf, gL_sBf, gA_sI, gA_sL, gA_sA, gA_sB, gA_sAf, gA_sBf, gB_sI, gB_sL, gB_sA, gB_sB, gB_sAf, gB_sBf, Nat.reduceEqDiff, Nat.reduceMul, Nat.reduceAdd, false_and, true_and, and_true, and_false, if_true, if_false]
  have e40 : gI (sA s' 58 0 x 0) 40 0 = gI s 40 0 := by rcases hc with ⟨-, rfl⟩ | ⟨y, -, -, -, rfl⟩ <;> rfl
  have e38 : gI (sA s' 58 0 x 0) 38 0 = gI s 38 0 := by rcases hc with ⟨-, rfl⟩ | ⟨y, -, -, -, rfl⟩ <;> rfl
  have eo : ∀ a z, a ≠ 58 → a ≠ 65 → a ≠ 68 → gA (sA s' 58 0 x 0) a 0 z = gA s a 0 z := fun a z c1 c2 c3 => by
    rcases hc with ⟨-, rfl⟩ | ⟨y, -, -, -, rfl⟩ <;> simp only [gA_sA, c1, c2, c3, false_and, if_false]
  have eS : ∀ z k, Sg (sA s' 58 0 x 0) z k ↔ Sg s z k ∧ z ≠ x := fun z k => by
    unfold Sg
    simp only [a_sort, a_tag, a_first, a_second, a_third, a_chain, a_free, a_text, a_heads, a_ek, a_ev, a_vk, a_vv, a_follow, a_bucket, a_registers, f_used, v_variable_k, v_variable_v, v_stack_k, v_stack_v, v_row_k, v_row_v, v_start_n, v_start_k, v_start_v, t_place, t_frames, t_openCount, t_open, t_kind, t_function, t_base, t_extra, t_rowCount, p_ek, p_vk, p_ev, p_vv, p_follow, e58, e40, eo 62 _ (by decide) (by decide) (by decide), eo 63 _ (by decide) (by decide) (by decide), hF_congr (fun j => eo 67 j (by decide) (by decide) (by decide))]
    by_cases c : z = x
    · simp [c]
    · simp [c]
  have sd : ∀ z k, Sg s z k → k ≠ h → z ≠ x := fun z k a b c => b ((c ▸ a).fn hx)
  refine ⟨?_, ?_, ?_⟩
  · show 0 ≤ gI (sA s' 58 0 x 0) 38 0 ∧ gI (sA s' 58 0 x 0) 38 0 ≤ 400000
    rw [e38]
    exact t1
  · intro z a b
    have b' : z < f_used s := by
      show z < gI s 40 0
      rw [← e40]
      exact b
    have := t2 z a b'
    unfold StS at *
    simp only [a_sort, a_tag, a_first, a_second, a_third, a_chain, a_free, a_text, a_heads, a_ek, a_ev, a_vk, a_vv, a_follow, a_bucket, a_registers, f_used, v_variable_k, v_variable_v, v_stack_k, v_stack_v, v_row_k, v_row_v, v_start_n, v_start_k, v_start_v, t_place, t_frames, t_openCount, t_open, t_kind, t_function, t_base, t_extra, t_rowCount, p_ek, p_vk, p_ev, p_vv, p_follow, f_textMade, e58, e38, eo 62 _ (by decide) (by decide) (by decide), eo 63 _ (by decide) (by decide) (by decide)] at *
    by_cases c : z = x
    · rw [if_pos c]
      exact fun d => absurd d (by decide)
    · rw [if_neg c]
      exact this
  have et : ∀ z, a_tag (sA s' 58 0 x 0) z = a_tag s z := fun z => eo 61 z (by decide) (by decide) (by decide)
  generalize ew : sA s' 58 0 x 0 = w at *
  have h4 : H4 w := fun a b k k' ha hb e => by
    rw [et, et] at e
    exact t6 a b k k' ((eS a k).mp ha).1 ((eS b k').mp hb).1 e
  rcases hc with ⟨hd, es⟩ | ⟨y, hy, hyx, hcy, es⟩
  · subst es
    have ec : ∀ z, a_chain w z = a_chain s z := fun z => by rw [← ew]; simp only [a_sort, a_tag, a_first, a_second, a_third, a_chain, a_free, a_text, a_heads, a_ek, a_ev, a_vk, a_vv, a_follow, a_bucket, a_registers, f_used, v_variable_k, v_variable_v, v_stack_k, v_stack_v, v_row_k, v_row_v, v_start_n, v_start_k, v_start_v, t_place, t_frames, t_openCount, t_open, t_kind, t_function, t_base, t_extra, t_rowCount, p_ek, p_vk, p_ev, p_vv, p_follow, gI_sI, gI_sL, gI_sA, gI_sB, gI_sAf, gI_sBf, gL_sI, gL_sL, gL_sA, gL_sB, gL_sAf, gL_sBf, gA_sI, gA_sL, gA_sA, gA_sB, gA_sAf, gA_sBf, gB_sI, gB_sL, gB_sA, gB_sB, gB_sAf, gB_sBf, Nat.reduceEqDiff, Nat.reduceMul, Nat.reduceAdd, false_and, true_and, and_true, and_false, if_true, if_false]
    have eh : ∀ k, a_heads w k = if k = h then a_chain s x else a_heads s k := fun k => by rw [← ew]; simp only [a_sort, a_tag, a_first, a_second, a_third, a_chain, a_free, a_text, a_heads, a_ek, a_ev, a_vk, a_vv, a_follow, a_bucket, a_registers, f_used, v_variable_k, v_variable_v, v_stack_k, v_stack_v, v_row_k, v_row_v, v_start_n, v_start_k, v_start_v, t_place, t_frames, t_openCount, t_open, t_kind, t_function, t_base, t_extra, t_rowCount, p_ek, p_vk, p_ev, p_vv, p_follow, gI_sI, gI_sL, gI_sA, gI_sB, gI_sAf, gI_sBf, gL_sI, gL_sL, gL_sA, gL_sB, gL_sAf, gL_sBf, gA_sI, gA_sL, gA_sA, gA_sB, gA_sAf, gA_sBf, gB_sI, gB_sL, gB_sA, gB_sB, gB_sAf, gB_sBf, Nat.reduceEqDiff, Nat.reduceMul, Nat.reduceAdd, false_and, true_and, and_true, and_false, if_true, if_false]
    have hdx : a_heads s h - 1 = x := by rw [hd]; grind
    refine ⟨fun k k1 k2 => ?_, fun z k hz => ?_, fun a b k ha hb e => ?_, h4⟩
    · rw [eh]
      by_cases c : k = h
      · subst c
        rw [if_pos rfl]
        refine ⟨x1, fun d => (eS _ _).mpr ⟨(x3 d).1, fun e => ?_⟩, fun z hz => ?_⟩
        · have := (x3 d).2
          rw [e] at this
          exact absurd this Int32.lt_irrefl
        · obtain ⟨z1, z2⟩ := (eS z k).mp hz
          have l1 := ((t3 k k1 k2).2.2 z z1).2
          rw [hdx] at l1
          have l2 := t6 z x k k z1 hx
          have l3 := t5 z x k z1 hx
          rw [et, et]
          exact l3 (by
            clear t2 t3 t4 t5 t6 eS sd ec eh et h4 e58 eo l3 hx hz z1 x3
            grind)
      · rw [if_neg c]
        obtain ⟨q1, q2, q3⟩ := t3 k k1 k2
        refine ⟨q1, fun d => (eS _ _).mpr ⟨q2 d, sd _ _ (q2 d) c⟩, fun z hz => ?_⟩
        rw [et, et]
        exact q3 z ((eS z k).mp hz).1
    · obtain ⟨z1, z2⟩ := (eS z k).mp hz
      obtain ⟨q1, q2, q3⟩ := t4 z k z1
      rw [ec, et, et]
      refine ⟨q1, q2, fun d => ⟨(eS _ _).mpr ⟨(q3 d).1, fun e => ?_⟩, (q3 d).2⟩⟩
      have l1 := (q3 d).2
      have l0 := (q3 d).1
      rw [e] at l1 l0
      have ek := l0.fn hx
      subst ek
      have l2 := ((t3 k hh.1 hh.2).2.2 z z1).2
      rw [hdx] at l2
      exact absurd (Int32.lt_of_lt_of_le l1 l2) Int32.lt_irrefl
    · rw [et, et] at e
      rw [ec, et, et]
      exact t5 a b k ((eS a k).mp ha).1 ((eS b k).mp hb).1 e
  · subst es
    have ec : ∀ z, a_chain w z = if z = y then a_chain s x else a_chain s z := fun z => by rw [← ew]; simp only [a_sort, a_tag, a_first, a_second, a_third, a_chain, a_free, a_text, a_heads, a_ek, a_ev, a_vk, a_vv, a_follow, a_bucket, a_registers, f_used, v_variable_k, v_variable_v, v_stack_k, v_stack_v, v_row_k, v_row_v, v_start_n, v_start_k, v_start_v, t_place, t_frames, t_openCount, t_open, t_kind, t_function, t_base, t_extra, t_rowCount, p_ek, p_vk, p_ev, p_vv, p_follow, gI_sI, gI_sL, gI_sA, gI_sB, gI_sAf, gI_sBf, gL_sI, gL_sL, gL_sA, gL_sB, gL_sAf, gL_sBf, gA_sI, gA_sL, gA_sA, gA_sB, gA_sAf, gA_sBf, gB_sI, gB_sL, gB_sA, gB_sB, gB_sAf, gB_sBf, Nat.reduceEqDiff, Nat.reduceMul, Nat.reduceAdd, false_and, true_and, and_true, and_false, if_true, if_false]
    have eh : ∀ k, a_heads w k = a_heads s k := fun k => by rw [← ew]; simp only [a_sort, a_tag, a_first, a_second, a_third, a_chain, a_free, a_text, a_heads, a_ek, a_ev, a_vk, a_vv, a_follow, a_bucket, a_registers, f_used, v_variable_k, v_variable_v, v_stack_k, v_stack_v, v_row_k, v_row_v, v_start_n, v_start_k, v_start_v, t_place, t_frames, t_openCount, t_open, t_kind, t_function, t_base, t_extra, t_rowCount, p_ek, p_vk, p_ev, p_vv, p_follow, gI_sI, gI_sL, gI_sA, gI_sB, gI_sAf, gI_sBf, gL_sI, gL_sL, gL_sA, gL_sB, gL_sAf, gL_sBf, gA_sI, gA_sL, gA_sA, gA_sB, gA_sAf, gA_sBf, gB_sI, gB_sL, gB_sA, gB_sB, gB_sAf, gB_sBf, Nat.reduceEqDiff, Nat.reduceMul, Nat.reduceAdd, false_and, true_and, and_true, and_false, if_true, if_false]
    have hyx' : a_chain s y - 1 = x := by rw [hcy]; grind
    obtain ⟨y1, y2, y3⟩ := t4 y h hy
    have hy0 : a_chain s y ≠ 0 := by
      rw [hcy]
      have := hx.1
      have := hx.2.1
      have := t3
      intro z
      have hz : x = -1 := by clear t2 t3 t4 t5 t6 eS sd ec eh et h4 e58 eo hx; grind
      have h0 := hx.1
      rw [hz] at h0
      exact absurd h0 (by decide)
    have yt := (y3 hy0).2
    rw [hyx'] at yt
    -- no other one goes on to x
    have one : ∀ z k, Sg s z k → a_chain s z ≠ 0 → a_chain s z - 1 = x → z = y := fun z k hz z0 ze => by
      obtain ⟨q1, q2, q3⟩ := t4 z k hz
      have l := q3 z0
      rw [ze] at l
      have ek := l.1.fn hx
      subst ek
      have l1 := t5 z y k hz hy
      have l2 := t5 y z k hy hz
      rw [hyx'] at l1
      rw [ze] at l2
      have l3 := t6 z y k k hz hy
      have l4 := l.2
      clear t2 t3 t4 t5 t6 eS sd ec eh et h4 e58 eo hx hz hy x3 y3 q3 l
      grind
    refine ⟨fun k k1 k2 => ?_, fun z k hz => ?_, fun a b k ha hb e => ?_, h4⟩
    · rw [eh]
      obtain ⟨q1, q2, q3⟩ := t3 k k1 k2
      refine ⟨q1, fun d => (eS _ _).mpr ⟨q2 d, fun e => ?_⟩, fun z hz => ?_⟩
      · have l0 := q2 d
        rw [e] at l0
        have ek := l0.fn hx
        subst ek
        have l2 := (q3 y hy).2
        rw [e] at l2
        exact absurd (Int32.lt_of_lt_of_le yt l2) Int32.lt_irrefl
      · rw [et, et]
        exact q3 z ((eS z k).mp hz).1
    · obtain ⟨z1, z2⟩ := (eS z k).mp hz
      obtain ⟨q1, q2, q3⟩ := t4 z k z1
      rw [ec, et, et]
      by_cases c : z = y
      · subst c
        have ek := z1.fn hy
        subst ek
        rw [if_pos rfl]
        refine ⟨x1, q2, fun d => ⟨(eS _ _).mpr ⟨(x3 d).1, fun e => ?_⟩, Int32.lt_trans (x3 d).2 yt⟩⟩
        have := (x3 d).2
        rw [e] at this
        exact absurd this Int32.lt_irrefl
      · rw [if_neg c]
        exact ⟨q1, q2, fun d => ⟨(eS _ _).mpr ⟨(q3 d).1, fun e => c (one z k z1 d e)⟩, (q3 d).2⟩⟩
    · obtain ⟨a1, a2⟩ := (eS a k).mp ha
      obtain ⟨b1, b2⟩ := (eS b k).mp hb
      rw [et, et] at e
      rw [ec, et, et]
      have l := t5 a b k a1 b1 e
      by_cases c : b = y
      · subst c
        have ek := b1.fn hy
        subst ek
        rw [if_pos rfl]
        have l2 := l.2
        rw [hyx'] at l2
        have l3 := t6 a x k k a1 hx
        refine t5 a x k a1 hx ?_
        clear t2 t3 t4 t5 t6 eS sd ec eh et h4 e58 eo hx ha hb hy a1 b1 x3 y3 one l
        grind
      · rw [if_neg c]
        exact l
