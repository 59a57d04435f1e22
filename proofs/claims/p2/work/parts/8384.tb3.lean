/-! A table's entries are moved; a table grows. -/
theorem fillI_ok (s : S1) (r : Nat) (u a b v : Int32) (hr : (dyF r = true → gI s (128 * r + 127) u = 1) ∧ 0 ≤ u ∧ u.toNatClampNeg < cnF r) (h : 0 ≤ a ∧ a ≤ b ∧ b ≤ lnI r) (hl : lnI r ≤ 500000) :
    ok (M_Arr_fill_____ r u a b v) s (fun _ s' => Flld s s' r u a b v) := by
  simp only [M_Arr_fill_____, M_Arr_rangeCheck, ok_B, ok_C, ok_R, ok_L, ok_K, ok_GI, ok_GL, ok_PI, ok_PL, ok_AI, ok_AL, ok_SI, ok_SL, ok_Pr, ok_CI, cmp_lt, cmp_le, cmp_gt, cmp_ge, cmp_eq, nar0, nar1, Sum.elim_inl, Sum.elim_inr, ok_F]
  refine ⟨fun _ => ⟨fun _ => ⟨fun _ => ⟨hr, ?_⟩, fun c => c h.2.2⟩, fun c => c h.1⟩, fun c => c h.2.1⟩
  refine ok_W (fun y s' => (y.1 = r ∧ y.2.1 = u ∧ y.2.2.1 = b ∧ y.2.2.2.1 = v) ∧ (a ≤ y.2.2.2.2 ∧ y.2.2.2.2 ≤ b) ∧ Flld s s' r u a y.2.2.2.2 v) (fun y _ => (b - y.2.2.2.2).toNatClampNeg) ?_ _ _ ⟨⟨rfl, rfl, rfl, rfl⟩, ⟨(show a ≤ a by grind), h.2.1⟩, Flld.nil⟩
  rintro ⟨r', u', b', v', i⟩ s1 ⟨⟨e1, e2, e3, e4⟩, ⟨h1, h2⟩, hf⟩
  dsimp only at e1 e2 e3 e4 h1 h2 hf
  subst e1 e2 e3 e4
  simp only [M_Arr_fill______L10, ok_B, ok_C, ok_R, ok_L, ok_K, ok_GI, ok_GL, ok_PI, ok_PL, ok_AI, ok_AL, ok_SI, ok_SL, ok_Pr, ok_CI, cmp_lt, cmp_le, cmp_gt, cmp_ge, cmp_eq, nar0, nar1, Sum.elim_inl, Sum.elim_inr]
  refine ⟨fun c => ?_, fun c => ⟨?_, ⟨⟨by trivial, by trivial, by trivial, by trivial⟩, ⟨?_, ?_⟩, ?_⟩, ?_⟩⟩
  · have : i = b' := by clear hf; grind
    rw [← this]
    exact hf
  · clear hf
    grind
  · clear hf
    grind
  · clear hf
    grind
  · exact hf.next ⟨h1, by clear hf; grind⟩
  · clear hf
    exact clamp_lt (by grind) (by grind)
def Mv (s s' : S1) (t to room m : Int32) : Prop := (∀ f i, gI s' f i = gI s f i) ∧ (∀ f i, gL s' f i = gL s f i) ∧ (∀ a i j, a ≠ 62 → a ≠ 63 → a ≠ 64 → a ≠ 69 → a ≠ 70 → a ≠ 73 → a ≠ 74 → gA s' a i j = gA s a i j) ∧ (∀ a i j, a ≠ 71 → a ≠ 72 → gB s' a i j = gB s a i j) ∧ a_first s' t = to ∧ a_second s' t = room ∧ 0 ≤ a_third s' t ∧ a_third s' t ≤ m
theorem Lv.mv {m : Bool} {s s' : S1} {x k t to room n : Int32} (hs : Mv s s' t to room n) : Lv m s' x k ↔ Lv m s x k := by
  unfold Lv
  simp only [f_used, a_sort, a_marked, hs.1, hs.2.2.1 58 _ _ (by decide) (by decide) (by decide) (by decide) (by decide) (by decide) (by decide), hs.2.2.1 59 _ _ (by decide) (by decide) (by decide) (by decide) (by decide) (by decide) (by decide)]
theorem Vl.mv {m : Bool} {s s' : S1} {k : Int32} {v : Int64} {t to room n : Int32} (hs : Mv s s' t to room n) : Vl m s' k v ↔ Vl m s k v := by
  unfold Vl
  simp only [Lv.mv hs]
theorem q_move_ok (s : S1) (t to room : Int32) (h : GG s) (ht : Lv false s t 5) (hto : 0 ≤ to ∧ to ≤ 300000) (hro : 0 < room ∧ room ≤ 300000) (htop : to + room ≤ f_entryTop s)
    (hd : ∀ y b m, y ≠ t → q_Rg s y b m → ∀ j, to ≤ j → j < to + room → b ≤ j → j < b + m → False) (hn : a_third s t ≤ room) (hc : to = a_first s t ∨ a_first s t + a_second s t ≤ to) : ok (M_Mo_move t to room) s (fun _ s' => Nx s s' ∧ Mv s s' t to room (a_third s t)) := by
  obtain ⟨h1, h2, h3, h4, h5, -, r1, r2, r3, r4, r5, r6⟩ := h.tb ht
  have ht3 := Int32.le_trans htop h.1.1.1.2.1.2
  simp only [M_Mo_move, ok_B, ok_C, ok_R, ok_L, ok_K, ok_GI, ok_GL, ok_PI, ok_PL, ok_AI, ok_AL, ok_SI, ok_SL, ok_Pr, ok_CI, cmp_lt, cmp_le, cmp_gt, cmp_ge, cmp_eq, nar0, nar1, Sum.elim_inl, Sum.elim_inr]
  simp only [gI_sI, gI_sL, gI_sA, gI_sB, gI_sAf, gI_sBf, gL_sI, gL_sL, gL_sA, gL_sB, gL_sAf, gL_sBf, gA_sI, gA_sL, gA_sA, gA_sB, gA_sAf, gA_sBf, gB_sI, gB_sL, gB_sA, gB_sB, gB_sAf, gB_sBf, Nat.reduceEqDiff, Nat.reduceMul, Nat.reduceAdd, false_and, true_and, and_true, and_false, if_true, if_false]
  simp only [p_ek, p_vk, p_ev, p_vv, p_follow, p_bucket] at r1 r2 r3 r4 r5 r6
  refine ⟨h1, h1, h1, h1, h1, r6, ?_⟩
  have hle : to ≤ to + room := by
    clear h hd hc
    grind
  refine ok_mono (fillI_ok _ 74 0 to (to + room) 0 ⟨fun _ => r6, by decide, by decide⟩ ⟨hto.1, hle, ht3⟩ (by decide)) fun _ s3 hf => ?_
  obtain ⟨f1, f2, f3, f4⟩ := hf
  have rI : ∀ f i, gI s3 f i = gI s f i := f1
  have rL : ∀ f i, gL s3 f i = gL s f i := f2
  have rB : ∀ a i j, gB s3 a i j = gB s a i j := f3
  have rA : ∀ a i j, a ≠ 62 → a ≠ 63 → a ≠ 64 → a ≠ 74 → gA s3 a i j = gA s a i j := fun a i j e1 e2 e3 e4 => by
    rw [f4, if_neg (fun z => e4 z.1)]
    simp only [gI_sI, gI_sL, gI_sA, gI_sB, gI_sAf, gI_sBf, gL_sI, gL_sL, gL_sA, gL_sB, gL_sAf, gL_sBf, gA_sI, gA_sL, gA_sA, gA_sB, gA_sAf, gA_sBf, gB_sI, gB_sL, gB_sA, gB_sB, gB_sAf, gB_sBf, Nat.reduceEqDiff, Nat.reduceMul, Nat.reduceAdd, false_and, true_and, and_true, and_false, if_true, if_false, e1, e2, e3]
  have r62 : ∀ z, a_first s3 z = if z = t then to else a_first s z := fun z => by
    show gA s3 62 0 z = _
    rw [f4, if_neg (fun z => absurd z.1 (by decide))]
    simp only [gI_sI, gI_sL, gI_sA, gI_sB, gI_sAf, gI_sBf, gL_sI, gL_sL, gL_sA, gL_sB, gL_sAf, gL_sBf, gA_sI, gA_sL, gA_sA, gA_sB, gA_sAf, gA_sBf, gB_sI, gB_sL, gB_sA, gB_sB, gB_sAf, gB_sBf, Nat.reduceEqDiff, Nat.reduceMul, Nat.reduceAdd, false_and, true_and, and_true, and_false, if_true, if_false]
  have r63 : ∀ z, a_second s3 z = if z = t then room else a_second s z := fun z => by
    show gA s3 63 0 z = _
    rw [f4, if_neg (fun z => absurd z.1 (by decide))]
    simp only [gI_sI, gI_sL, gI_sA, gI_sB, gI_sAf, gI_sBf, gL_sI, gL_sL, gL_sA, gL_sB, gL_sAf, gL_sBf, gA_sI, gA_sL, gA_sA, gA_sB, gA_sAf, gA_sBf, gB_sI, gB_sL, gB_sA, gB_sB, gB_sAf, gB_sBf, Nat.reduceEqDiff, Nat.reduceMul, Nat.reduceAdd, false_and, true_and, and_true, and_false, if_true, if_false]
  have r64 : ∀ z, a_third s3 z = if z = t then 0 else a_third s z := fun z => by
    show gA s3 64 0 z = _
    rw [f4, if_neg (fun z => absurd z.1 (by decide))]
    simp only [gI_sI, gI_sL, gI_sA, gI_sB, gI_sAf, gI_sBf, gL_sI, gL_sL, gL_sA, gL_sB, gL_sAf, gL_sBf, gA_sI, gA_sL, gA_sA, gA_sB, gA_sAf, gA_sBf, gB_sI, gB_sL, gB_sA, gB_sB, gB_sAf, gB_sBf, Nat.reduceEqDiff, Nat.reduceMul, Nat.reduceAdd, false_and, true_and, and_true, and_false, if_true, if_false]
  have r74 : ∀ z, a_bucket s3 z = if to ≤ z ∧ z < to + room then 0 else a_bucket s z := fun z => by
    show gA s3 74 0 z = _
    rw [f4]
    simp only [gI_sI, gI_sL, gI_sA, gI_sB, gI_sAf, gI_sBf, gL_sI, gL_sL, gL_sA, gL_sB, gL_sAf, gL_sBf, gA_sI, gA_sL, gA_sA, gA_sB, gA_sAf, gA_sBf, gB_sI, gB_sL, gB_sA, gB_sB, gB_sAf, gB_sBf, Nat.reduceEqDiff, Nat.reduceMul, Nat.reduceAdd, false_and, true_and, and_true, and_false, if_true, if_false]
  clear f1 f2 f3 f4
  have t62 : a_first s3 t = to := by rw [r62, if_pos rfl]
  have t63 : a_second s3 t = room := by rw [r63, if_pos rfl]
  have t64 : a_third s3 t = 0 := by rw [r64, if_pos rfl]
  have hw : Tw s s3 t := by
    refine ⟨rI, rL, fun a i j e1 e2 e3 e4 e5 e6 e7 => rA a i j e1 e2 e3 e7, fun a i j _ _ => rB a i j, fun z hz => ⟨?_, ?_, ?_⟩, fun j hj => ⟨rA 69 0 j (by decide) (by decide) (by decide) (by decide), rA 70 0 j (by decide) (by decide) (by decide) (by decide), rA 73 0 j (by decide) (by decide) (by decide) (by decide), ?_, rB 71 0 j, rB 72 0 j⟩, ?_, ?_, ⟨fun j a b => ?_, fun j a b => ?_⟩, fun k a b => ?_⟩
    · rw [r62, if_neg hz]
    · rw [r63, if_neg hz]
    · rw [r64, if_neg hz]
    · rw [t62, t63] at hj
      rw [r74, if_neg hj]
    · rw [t62, t63]
      exact hd
    · rw [t62, t63, t64]
      exact ⟨hto.1, by decide, Int32.le_of_lt hro.1, hto.2, hro.2, htop⟩
    · rw [t62, t64]
      rw [t63] at b
      have w : to ≤ to + j ∧ to + j < to + room := reg_in ⟨hto.1, Int32.le_trans hto.2 (by decide)⟩ a b (Int32.le_trans hro.2 (by decide))
      rw [r74, if_pos w]
      exact ⟨by decide, by decide⟩
    · rw [t64] at b
      exact absurd (Int32.lt_of_le_of_lt a b) Int32.lt_irrefl
    · rw [t64, Int32.add_zero] at b
      exact absurd (Int32.lt_of_le_of_lt a b) Int32.lt_irrefl
  have nx := Nx.tw h hw ht
  have hval := ((h.1.1.1.2.2 t ht.1 ht.2.1).2.1 ht.2.2.1).2
  have mv0 : Mv s s3 t to room 0 := ⟨rI, rL, hw.2.2.1, hw.2.2.2.1, t62, t63, by rw [t64]; decide, by rw [t64]; decide⟩
  have fk : ∀ j, 0 ≤ j → j < a_third s t → a_first s t ≤ a_first s t + j ∧ a_first s t + j < a_first s t + a_third s t := fun j a b => reg_in ⟨h2.1, Int32.le_trans h2.2 (by decide)⟩ a b (Int32.le_trans h5.2 (Int32.le_trans h3.2 (by decide)))
  have fb : ∀ j, 0 ≤ j → j < a_third s t → 0 ≤ a_first s t + j ∧ a_first s t + j < 300000 := fun j a b => add_in (a := a_first s t) (i := j) (n := a_second s t) (L := 300000) ⟨h2.1, Int32.le_trans h2.2 (by decide)⟩ a (Int32.lt_of_lt_of_le b h5.2) (Int32.le_trans h3.2 (by decide)) h4
  have ne : ∀ i j e, 0 ≤ i → i < j → j < a_third s t → 0 ≤ e → e ≤ i → a_first s t + j ≠ to + e := fun i j e i0 a b c d w => by
    clear h hd hn rI rL rB rA r62 r63 r64 r74 hval nx hw mv0 fk fb
    rcases hc with hc | hc
    · rw [hc] at w
      grind
    · have q1 : a_first s t + j < a_first s t + a_second s t := by
        clear hc w
        grind
      have q2 : to ≤ to + e := by
        clear hc w q1
        grind
      have q3 := Int32.lt_of_lt_of_le q1 (Int32.le_trans hc q2)
      rw [w] at q3
      exact absurd q3 Int32.lt_irrefl
  clear hd hc r62 r63 r64 r74 t62 t63 t64 rI rL
  refine ok_W (fun y s' => (y.1 = t ∧ y.2.1 = a_first s t ∧ y.2.2.1 = a_third s t) ∧ (0 ≤ y.2.2.2 ∧ y.2.2.2 ≤ a_third s t) ∧ Nx s s' ∧ Mv s s' t to room y.2.2.2 ∧ ∀ j, y.2.2.2 ≤ j → j < a_third s t → Vl false s (a_ek s' (a_first s t + j)) (a_ev s' (a_first s t + j)) ∧ Vl false s (a_vk s' (a_first s t + j)) (a_vv s' (a_first s t + j)))
    (fun y _ => (a_third s t - y.2.2.2).toNatClampNeg) ?_ _ _ ⟨⟨rfl, rfl, rfl⟩, ⟨(show (0 : Int32) ≤ 0 by decide), h5.1⟩, nx, mv0, fun j a b => ?_⟩
  · rintro ⟨t', fr, n', i⟩ s4 ⟨⟨e1, e2, e3⟩, ⟨i1, i2⟩, nx4, mv4, hv4⟩
    dsimp only at e1 e2 e3 i1 i2 mv4 hv4
    subst e1 e2 e3
    have mv5 := mv4
    obtain ⟨m1, m2, m3, m4, m5, m6, m7, m8⟩ := mv5
    have p1 : gI s4 8959 0 = 1 := (m1 8959 0).trans r1
    have p2 : gI s4 9087 0 = 1 := (m1 9087 0).trans r2
    have p3 : gI s4 9215 0 = 1 := (m1 9215 0).trans r3
    have p4 : gI s4 9343 0 = 1 := (m1 9343 0).trans r4
    simp only [M_Mo_move_L52, M_Mo_move_j117, ok_B, ok_C, ok_R, ok_L, ok_K, ok_GI, ok_GL, ok_PI, ok_PL, ok_AI, ok_AL, ok_SI, ok_SL, ok_Pr, ok_CI, cmp_lt, cmp_le, cmp_gt, cmp_ge, cmp_eq, nar0, nar1, Sum.elim_inl, Sum.elim_inr, p1, p2, p3, p4]
    refine ⟨fun c => ⟨nx4, ?_⟩, fun c => ?_⟩
    · have e := Int32.le_antisymm i2 c
      rw [← e]
      exact mv4
    have hlt := Int32.not_le.mp c
    have b := fb i i1 hlt
    have st : (0 ≤ i + 1 ∧ i + 1 ≤ a_third s t') ∧ (a_third s t' - (i + 1)).toNatClampNeg < (a_third s t' - i).toNatClampNeg ∧ (∀ j, i + 1 ≤ j → i < j) ∧ i ≤ i + 1 := by
      have z3 := h3
      have z5 := h5
      clear nx4 mv4 hv4 m1 m2 m3 m4 ne fk fb hval nx hw mv0 h rA rB b
      refine ⟨⟨by grind, by grind⟩, clamp_lt (by grind) (by grind), fun j w => by grind, by grind⟩
    have go := hv4 i (Int32.le_refl i) hlt
    refine ⟨by trivial, b, fun d => ⟨⟨⟨by trivial, by trivial, by trivial⟩, st.1, nx4, ⟨m1, m2, m3, m4, m5, m6, m7, Int32.le_trans m8 st.2.2.2⟩, fun j a b => hv4 j (Int32.le_of_lt (st.2.2.1 j a)) b⟩, st.2.1⟩, fun d => ⟨by trivial, b, by trivial, b, by trivial, b, by trivial, b, ?_⟩⟩
    have ht4 : Lv false s4 t' 5 := (Lv.mv mv4).mpr ht
    have hlt4 : a_third s4 t' < a_second s4 t' := by
      rw [m6]
      exact Int32.lt_of_le_of_lt m8 (Int32.lt_of_lt_of_le hlt hn)
    refine ok_mono (q_append_ok s4 t' _ _ _ _ nx4.1 ht4 hlt4 ((Vl.mv mv4).mpr go.1) ((Vl.mv mv4).mpr go.2)) fun _ s5 ⟨g5, ⟨a1, a2, a3, a4, a5, a6⟩, nx5⟩ => ?_
    have a64 : a_third s5 t' = a_third s4 t' + 1 := by rw [a5, if_pos rfl]
    have th : 0 ≤ a_third s4 t' + 1 ∧ a_third s4 t' + 1 ≤ i + 1 := by
      have z3 := h3
      have z5 := h5
      clear nx4 mv4 hv4 m1 m2 m3 m4 ne fk fb hval nx hw mv0 h rA rB b a1 a2 a3 a4 a5 a6 nx5 g5 go ht4
      exact ⟨by grind, by grind⟩
    refine ⟨⟨⟨by trivial, by trivial, by trivial⟩, st.1, nx4.trans nx5, ⟨fun f j => (a1 f j).trans (m1 f j), fun f j => (a2 f j).trans (m2 f j), fun a u j e1 e2 e3 e4 e5 e6 e7 => (a3 a u j e3 e4 e5 e6 e7).trans (m3 a u j e1 e2 e3 e4 e5 e6 e7), fun a u j e1 e2 => (a4 a u j e1 e2).trans (m4 a u j e1 e2), ?_, ?_, ?_, ?_⟩, fun j a b => ?_⟩, st.2.1⟩
    · exact (a3 62 0 t' (by decide) (by decide) (by decide) (by decide) (by decide)).trans m5
    · exact (a3 63 0 t' (by decide) (by decide) (by decide) (by decide) (by decide)).trans m6
    · rw [a64]
      exact th.1
    · rw [a64]
      exact th.2
    · have q := ne i j (a_third s4 t') i1 (st.2.2.1 j a) b m7 m8
      rw [← m5] at q
      obtain ⟨w1, w2, w3, w4⟩ := a6 _ q
      rw [w1, w2, w3, w4]
      exact hv4 j (Int32.le_of_lt (st.2.2.1 j a)) b
  · have w := fk j a b
    have q := hval _ w.1 w.2
    show Vl false s (gA s3 69 0 _) (gB s3 71 0 _) ∧ Vl false s (gA s3 70 0 _) (gB s3 72 0 _)
    rw [rA 69 0 _ (by decide) (by decide) (by decide) (by decide), rA 70 0 _ (by decide) (by decide) (by decide) (by decide), rB, rB]
    exact q
