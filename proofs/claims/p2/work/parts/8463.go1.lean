/-! A thread goes on, or gives way. -/
theorem shiftd_num {l x n : Int32} (hl : l = 0 ∨ l = 1) (h1 : l ≤ x) (hn : n ≤ 400) (c : ¬ n ≤ x) : (0 ≤ x - l ∧ x - l < 400) ∧ (0 ≤ x ∧ x < 400) ∧ x < n ∧ l ≤ x + 1 ∧ (n - (x + 1)).toNatClampNeg < (n - x).toNatClampNeg := by
  rcases hl with e | e <;> subst e <;> refine ⟨⟨by grind, by grind⟩, ⟨by grind, by grind⟩, by grind, by grind, clamp_lt (by grind) (by grind)⟩
theorem shiftd_ok (s : S1) (l : Int32) (h : GG s) (hl : l = 0 ∨ l = 1) : ok (oW M_Mo_goesOn_L232 (l, l)) s (fun e s' => e = l ∧ Ag 7 s s' ∧ gI s' 898 0 = gI s 898 0) := by
  have ha := h.2.2.2.1.2.1
  refine ok_W (fun x s' => (x.1 = l ∧ l ≤ x.2) ∧ Ag 7 s s' ∧ gI s' 898 0 = gI s 898 0) (fun x _ => (gI s 898 0 - x.2).toNatClampNeg) ?_ (l, l) s ⟨⟨rfl, Int32.le_refl l⟩, Ag.refl 7 h, rfl⟩
  rintro ⟨y, x⟩ s1 ⟨⟨e1, x1⟩, ag, e⟩
  dsimp only at e1 x1
  rw [e1]
  simp only [M_Mo_goesOn_L232, ok_B, ok_C, ok_R, ok_L, ok_K, ok_GI, ok_GL, ok_PI, ok_PL, ok_AI, ok_AL, ok_SI, ok_SL, ok_Pr, ok_CI, cmp_lt, cmp_le, cmp_gt, cmp_ge, cmp_eq, nar0, nar1, Sum.elim_inl, Sum.elim_inr]
  refine ⟨fun _ => ⟨by trivial, ag, e⟩, fun c => ?_⟩
  rw [e] at c
  obtain ⟨n1, n2, n3, n4, n5⟩ := shiftd_num hl x1 ha.2 c
  refine ok_mono (setAA_ok s1 7 7 0 x (Or.inl rfl) (x - l) ag.1 n1 ⟨n2.1, n2.2, n2.2⟩ (ag.1.2.2.2.1.2.2.2.2.2.1 x n2.1 (by show x < gI s1 898 0; rw [e]; exact n3))) fun _ s2 ⟨ag2, es⟩ => ⟨⟨⟨by trivial, n4⟩, ag.trans ag2, ?_⟩, n5⟩
  rw [es]
  simp only [gI_sI, gI_sL, gI_sA, gI_sB, gI_sAf, gI_sBf, gL_sI, gL_sL, gL_sA, gL_sB, gL_sAf, gL_sBf, gA_sI, gA_sL, gA_sA, gA_sB, gA_sAf, gA_sBf, gB_sI, gB_sL, gB_sA, gB_sB, gB_sAf, gB_sBf, Nat.reduceEqDiff, Nat.reduceMul, Nat.reduceAdd, false_and, true_and, and_true, and_false, if_true, if_false]
  exact e
theorem mv_num {l x n r : Int32} (hl : l = 0 ∨ l = 1) (h1 : l ≤ x) (hn : n ≤ 250) (c : ¬ n ≤ x) (hr : r.toInt = x.toInt - l.toInt) : r < 400 ∧ l ≤ x + 1 ∧ (r + 1).toInt = (x + 1).toInt - l.toInt ∧ (r + 1).toInt ≤ 250 ∧ (0 ≤ x ∧ x < 400) ∧ x < n ∧ (n - (x + 1)).toNatClampNeg < (n - x).toNatClampNeg := by
  have c0 : (0 : Int32).toInt = 0 := rfl
  have c1 : (1 : Int32).toInt = 1 := rfl
  have c2 : (250 : Int32).toInt = 250 := rfl
  have c4 : (400 : Int32).toInt = 400 := rfl
  have hl' : 0 ≤ l.toInt ∧ l.toInt ≤ 1 := by
    rcases hl with e | e <;> subst e
    · rw [c0]
      omega
    · rw [c1]
      omega
  have c' := Int32.not_le.mp c
  have k : (n - (x + 1)).toNatClampNeg < (n - x).toNatClampNeg := by
    have x0 : 0 ≤ x := by
      rcases hl with e | e <;> subst e <;> grind
    clear hr
    exact clamp_lt (by grind) (by grind)
  rw [i32_le] at h1 hn
  rw [c2] at hn
  have cl := c'
  rw [i32_lt] at cl
  have ex : (x + 1).toInt = x.toInt + 1 := tI_add (by omega)
  have er : (r + 1).toInt = r.toInt + 1 := tI_add (by omega)
  refine ⟨?_, ?_, ?_, ?_, ⟨?_, ?_⟩, c', k⟩
  · rw [i32_lt, c4]
    omega
  · rw [i32_le, ex]
    omega
  · rw [ex, er]
    omega
  · rw [er]
    omega
  · rw [i32_le, c0]
    omega
  · rw [i32_lt, c4]
    omega
theorem mv_step (s : S1) (x : Int32) (h : GG s) (hx : 0 ≤ x ∧ x < 400) (hn : x < gI s 898 0) (hr : gI s 1282 0 < 400) : ok (M_Va_add_ 10 0 7 0 x) s (fun _ s2 => Ag 10 s s2 ∧ gI s2 1282 0 = gI s 1282 0 + 1) := by
  have w := addFrom_ok s 10 7 0 x (Or.inr (Or.inl rfl)) h ⟨hx.1, hx.2, hx.2⟩ (h.2.2.2.1.2.2.2.2.2.1 x hx.1 hn) (by simp only [Nat.reduceMul, Nat.reduceAdd]; exact hr)
  simp only [Nat.reduceMul, Nat.reduceAdd] at w
  exact w
theorem toRes_ok (s : S1) (l : Int32) (h : GG s) (hl : l = 0 ∨ l = 1) (hn : gI s 1282 0 = 0) (ha : gI s 898 0 ≤ 250) : ok (oW M_Mo_goesOn_L144 l) s (fun _ s' => Ag 10 s s' ∧ gI s' 1282 0 ≤ 250) := by
  have c2 : (250 : Int32).toInt = 250 := rfl
  refine ok_W (fun x s' => (l ≤ x ∧ (gI s' 1282 0).toInt = x.toInt - l.toInt ∧ (gI s' 1282 0).toInt ≤ 250) ∧ Ag 10 s s') (fun x _ => (gI s 898 0 - x).toNatClampNeg) ?_ l s ⟨⟨Int32.le_refl l, ?_, ?_⟩, Ag.refl 10 h⟩
  · rintro x s1 ⟨⟨x1, x2, x3⟩, ag⟩
    have e : gI s1 898 0 = gI s 898 0 := ag.2.1 898 0 (by decide)
    simp only [M_Mo_goesOn_L144, ok_B, ok_C, ok_R, ok_L, ok_K, ok_GI, ok_GL, ok_PI, ok_PL, ok_AI, ok_AL, ok_SI, ok_SL, ok_Pr, ok_CI, cmp_lt, cmp_le, cmp_gt, cmp_ge, cmp_eq, nar0, nar1, Sum.elim_inl, Sum.elim_inr]
    rw [e]
    refine ⟨fun _ => ⟨ag, ?_⟩, fun c => ?_⟩
    · rw [i32_le, c2]
      exact x3
    · obtain ⟨n1, n2, n3, n4, n5, n6, n7⟩ := mv_num hl x1 ha c x2
      refine ok_mono (mv_step s1 x ag.1 n5 (by rw [e]; exact n6) n1) fun _ s2 ⟨ag2, e2⟩ => ⟨⟨⟨n2, ?_, ?_⟩, ag.trans ag2⟩, n7⟩
      · rw [e2]
        exact n3
      · rw [e2]
        exact n4
  · rw [hn]
    show (0 : Int) = _
    omega
  · rw [hn]
    decide
theorem toRes2_ok (s : S1) (u : Int32) (h : GG s) (hn : gI s 1282 0 = 0) (ha : gI s 898 0 ≤ 250) : ok (oW M_Mo_giveWay_L41 (u, 0)) s (fun e s' => e = u ∧ Ag 10 s s' ∧ gI s' 1282 0 ≤ 250) := by
  have c2 : (250 : Int32).toInt = 250 := rfl
  refine ok_W (fun x s' => x.1 = u ∧ ((0 : Int32) ≤ x.2 ∧ (gI s' 1282 0).toInt = x.2.toInt - (0 : Int32).toInt ∧ (gI s' 1282 0).toInt ≤ 250) ∧ Ag 10 s s') (fun x _ => (gI s 898 0 - x.2).toNatClampNeg) ?_ (u, 0) s ⟨rfl, ⟨(show (0 : Int32) ≤ 0 by decide), ?_, ?_⟩, Ag.refl 10 h⟩
  · rintro ⟨y, x⟩ s1 ⟨ey, ⟨x1, x2, x3⟩, ag⟩
    dsimp only at ey x1 x2 x3
    have e : gI s1 898 0 = gI s 898 0 := ag.2.1 898 0 (by decide)
    rw [ey]
    simp only [M_Mo_giveWay_L41, ok_B, ok_C, ok_R, ok_L, ok_K, ok_GI, ok_GL, ok_PI, ok_PL, ok_AI, ok_AL, ok_SI, ok_SL, ok_Pr, ok_CI, cmp_lt, cmp_le, cmp_gt, cmp_ge, cmp_eq, nar0, nar1, Sum.elim_inl, Sum.elim_inr]
    rw [e]
    refine ⟨fun _ => ⟨by trivial, ag, ?_⟩, fun c => ?_⟩
    · rw [i32_le, c2]
      exact x3
    · obtain ⟨n1, n2, n3, n4, n5, n6, n7⟩ := mv_num (Or.inl rfl) x1 ha c x2
      refine ok_mono (mv_step s1 x ag.1 n5 (by rw [e]; exact n6) n1) fun _ s2 ⟨ag2, e2⟩ => ⟨⟨by trivial, ⟨n2, ?_, ?_⟩, ag.trans ag2⟩, n7⟩
      · rw [e2]
        exact n3
      · rw [e2]
        exact n4
  · rw [hn]
    rfl
  · rw [hn]
    decide
/-- what is called, resumed, given: something is to be done; no more joinings, and a call comes with a frame more -/
def Oz (b s : S1) : Prop := Out s ∧ f_todo s ≠ 0 ∧ jA s ≤ jA b ∧ (f_todo s = 1 → sF b < sF s)
theorem Oz.bo {b s s' : S1} (h : RI true s) (k : Bo s s') (m : jA s ≤ jA b) : Oz b s' := ⟨Bo.out h k, fun z => by
  rcases k.2.2 with w | w
  · unfold Er at w
    rw [z] at w
    exact absurd w (by decide)
  · rw [z] at w
    exact absurd w.1 (by decide), by rw [k.1.ms.1]; exact m, fun z => by
  rcases k.2.2 with w | w
  · unfold Er at w
    rw [z] at w
    exact absurd w (by decide)
  · rw [z] at w
    exact absurd w.1 (by decide)⟩
theorem Oz.dv {b s s' : S1} (k : Dv s s') (m : jA s' ≤ jA b) : Oz b s' := Oz.bo k.1 ⟨Rx.refl k.1.1 k.1.2.1, k.2⟩ m
theorem Oz.bp {s s' : S1} (h : RI true s) (b : Bp s s') : Oz s s' := by
  refine ⟨b.out, fun z => ?_, ?_⟩
  · have w := b.2.2.1
    rw [z] at w
    exact absurd w (by decide)
  · obtain ⟨rs, -, -, -, s1, s2, k, fn, r1, hk, ph, r2⟩ := b
    have h1 := h.rx r1
    have hc := h1.2.2.2.2.1.1
    have hpl : 0 ≤ t_place s1 (cu s1) := h1.2.2.2.2.1.2.2.2.2.2.2.2.2.1 0 hc.1
    have q := (h1.1.thr hc hpl).1.2.1
    have n2 : t_frames s1 (cu s1) ≠ 200 := fun e => by
      have ecu : cu s' = cu s1 := (r2.2.2.2.I 72 (by decide) 0).trans (ph.I 72 (by decide) 0)
      have hc' := rs.2.2.2.2.1.1
      have w := (rs.1.thr hc' (rs.2.2.2.2.1.2.2.2.2.2.2.2.2.1 0 hc'.1)).1.2.1.2
      have w2 : t_frames s' (cu s') ≤ 200 := w
      have e6 : t_frames s' (cu s1) = t_frames s2 (cu s1) := r2.2.2.2.I 3586 (by decide) _
      rw [ecu, e6, ph.2.1, e] at w2
      exact absurd w2 (by decide)
    obtain ⟨m1, m2, m3⟩ := ph.ms hk hc q n2
    rw [r2.ms.1, r2.ms.2, m1, r1.ms.1]
    refine ⟨Nat.le_refl _, fun _ => ?_⟩
    have e := r1.ms.2
    omega
theorem Oz.call {b s : S1} (h : RI true s) (hh : gI s 2050 0 = 0) (ha : gI s 898 0 ≤ 250) (m : jA s ≤ jA b ∧ sF b < sF s) : Oz b (sI s 73 0 1) := by
  have rx := todo_rx h.1 h.2.1 1
  have r := h.rx rx
  have e : f_todo (sI s 73 0 1) = 1 := by simp only [f_todo, gI_sI, gI_sL, gI_sA, gI_sB, gI_sAf, gI_sBf, gL_sI, gL_sL, gL_sA, gL_sB, gL_sAf, gL_sBf, gA_sI, gA_sL, gA_sA, gA_sB, gA_sAf, gA_sBf, gB_sI, gB_sL, gB_sA, gB_sB, gB_sAf, gB_sBf, Nat.reduceEqDiff, Nat.reduceMul, Nat.reduceAdd, false_and, true_and, and_true, and_false, if_true, if_false]
  refine ⟨⟨r.1, r.2.1, ?_, Or.inr (Or.inr (Or.inl ⟨e, r.2.2, ?_⟩))⟩, by rw [e]; decide, ?_⟩
  · simp only [v_hand_n, gI_sI, gI_sL, gI_sA, gI_sB, gI_sAf, gI_sBf, gL_sI, gL_sL, gL_sA, gL_sB, gL_sAf, gL_sBf, gA_sI, gA_sL, gA_sA, gA_sB, gA_sAf, gA_sBf, gB_sI, gB_sL, gB_sA, gB_sB, gB_sAf, gB_sBf, Nat.reduceEqDiff, Nat.reduceMul, Nat.reduceAdd, false_and, true_and, and_true, and_false, if_true, if_false]
    exact hh
  · simp only [v_args_n, gI_sI, gI_sL, gI_sA, gI_sB, gI_sAf, gI_sBf, gL_sI, gL_sL, gL_sA, gL_sB, gL_sAf, gL_sBf, gA_sI, gA_sL, gA_sA, gA_sB, gA_sAf, gA_sBf, gB_sI, gB_sL, gB_sA, gB_sB, gB_sAf, gB_sBf, Nat.reduceEqDiff, Nat.reduceMul, Nat.reduceAdd, false_and, true_and, and_true, and_false, if_true, if_false]
    exact ha
  · rw [rx.ms.1, rx.ms.2]
    exact ⟨m.1, fun _ => m.2⟩
theorem Oz.give {b s : S1} (h : RI true s) (hh : gI s 2050 0 = 0) (ha : gI s 1282 0 ≤ 250) (m : jA s ≤ jA b) : Oz b (sI s 73 0 2) := by
  have rx := todo_rx h.1 h.2.1 2
  have r := h.rx rx
  have e : f_todo (sI s 73 0 2) = 2 := by simp only [f_todo, gI_sI, gI_sL, gI_sA, gI_sB, gI_sAf, gI_sBf, gL_sI, gL_sL, gL_sA, gL_sB, gL_sAf, gL_sBf, gA_sI, gA_sL, gA_sA, gA_sB, gA_sAf, gA_sBf, gB_sI, gB_sL, gB_sA, gB_sB, gB_sAf, gB_sBf, Nat.reduceEqDiff, Nat.reduceMul, Nat.reduceAdd, false_and, true_and, and_true, and_false, if_true, if_false]
  refine ⟨⟨r.1, r.2.1, ?_, Or.inr (Or.inr (Or.inr ⟨e, r.2.2, ?_⟩))⟩, by rw [e]; decide, ?_, fun z => ?_⟩
  · simp only [v_hand_n, gI_sI, gI_sL, gI_sA, gI_sB, gI_sAf, gI_sBf, gL_sI, gL_sL, gL_sA, gL_sB, gL_sAf, gL_sBf, gA_sI, gA_sL, gA_sA, gA_sB, gA_sAf, gA_sBf, gB_sI, gB_sL, gB_sA, gB_sB, gB_sAf, gB_sBf, Nat.reduceEqDiff, Nat.reduceMul, Nat.reduceAdd, false_and, true_and, and_true, and_false, if_true, if_false]
    exact hh
  · simp only [v_results_n, gI_sI, gI_sL, gI_sA, gI_sB, gI_sAf, gI_sBf, gL_sI, gL_sL, gL_sA, gL_sB, gL_sAf, gL_sBf, gA_sI, gA_sL, gA_sA, gA_sB, gA_sAf, gA_sBf, gB_sI, gB_sL, gB_sA, gB_sB, gB_sAf, gB_sBf, Nat.reduceEqDiff, Nat.reduceMul, Nat.reduceAdd, false_and, true_and, and_true, and_false, if_true, if_false]
    exact ha
  · rw [rx.ms.1]
    exact m
  · rw [e] at z
    exact absurd z (by decide)
theorem go25_bo (s : S1) (l : Int32) (h : RI true s) (hh : gI s 2050 0 = 0) : ok (M_Mo_goesOn_j25 l) s (fun _ s' => Oz s s') := by
  simp only [M_Mo_goesOn_j25, ok_B, ok_C, ok_R, ok_L, ok_K, ok_GI, ok_GL, ok_PI, ok_PL, ok_AI, ok_AL, ok_SI, ok_SL, ok_Pr, ok_CI, cmp_lt, cmp_le, cmp_gt, cmp_ge, cmp_eq, nar0, nar1, Sum.elim_inl, Sum.elim_inr]
  have ag := zero7 h.1
  have rx := ag.rx (Or.inl rfl) h.2.1
  have r1 := h.rx rx
  have h1 : gI (sI s 898 0 0) 2050 0 = 0 := (ag.2.1 2050 0 (by decide)).trans hh
  generalize sI s 898 0 0 = z at *
  refine ⟨fun _ => ok_mono (raise_bo z 9 r1.1 r1.2.1 h1) fun _ s' b => Oz.bo r1 b (Nat.le_of_eq rx.ms.1), fun _ => ?_⟩
  have ag2 := zero10 r1.1
  have e2 : gI (sI z 1282 0 0) 1282 0 = 0 := by simp only [gI_sI, gI_sL, gI_sA, gI_sB, gI_sAf, gI_sBf, gL_sI, gL_sL, gL_sA, gL_sB, gL_sAf, gL_sBf, gA_sI, gA_sL, gA_sA, gA_sB, gA_sAf, gA_sBf, gB_sI, gB_sL, gB_sA, gB_sB, gB_sAf, gB_sBf, Nat.reduceEqDiff, Nat.reduceMul, Nat.reduceAdd, false_and, true_and, and_true, and_false, if_true, if_false]
  generalize sI z 1282 0 0 = y at *
  refine ok_mono (add10_ok y 1 0 ag2.1 (Or.inl ⟨by decide, by decide⟩) (by rw [e2]; decide)) fun _ s3 ⟨ag3, n3⟩ => ?_
  rw [e2] at n3
  have a23 := ag2.trans ag3
  refine ok_mono (add10_ok s3 3 9 ag3.1 (Or.inl ⟨by decide, by decide⟩) (by rw [n3]; decide)) fun _ s4 ⟨ag4, n4⟩ => ?_
  rw [n3] at n4
  have a24 := a23.trans ag4
  have rx4 := a24.rx (Or.inr (Or.inl rfl)) r1.2.1
  exact Oz.give (r1.rx rx4) ((a24.2.1 2050 0 (by decide)).trans h1) (by rw [n4]; decide) (Nat.le_of_eq (rx4.ms.1.trans rx.ms.1))
theorem go_ok (s : S1) (u l5 : Int32) (h : RI true s) (hh : gI s 2050 0 = 0) (ha : gI s 898 0 ≤ 250) (hu : 0 ≤ u ∧ u < 33) (hp : 0 ≤ t_place s u) (h0 : u ≠ 0) (hst : t_state s u = 0) (hk : 0 < t_frames s (cu s) ∧ (t_kind s (cu s) (t_frames s (cu s) - 1) = 2 ∨ t_kind s (cu s) (t_frames s (cu s) - 1) = 3)) (h5 : (l5 = 0 ∨ l5 = 1) ∧ l5 ≤ gI s 898 0) (b : S1) (m : jA s ≤ jA b ∧ sF b < sF s) : ok (oB (oGI 72 0) fun v101 =>
          oB (oPI 3590 u v101) fun _ =>
          oB (oGI 72 0) fun v108 =>
          oB (oK ((0 : Int32) ≤ v108 ∧ v108 < (33 : Int32))) fun _ =>
          oB (oPI 3585 v108 2) fun _ =>
          oB (oPI 3585 u 1) fun _ =>
          oB (oPI 72 0 u) fun _ =>
          oB (oGI 3589 u) fun v126 =>
          oC (v126 = 0)
            (oB (oPI 3589 u 1) fun _ =>
            oB (oAI 26 260 u 0) fun v203 =>
            oB (oPI 75 0 v203) fun _ =>
            oB (oAL 27 260 u 0) fun v216 =>
            oB (oPL 76 0 v216) fun _ =>
            oB (oPI 3202 u 0) fun _ =>
            oB (oW M_Mo_goesOn_L232 (l5, l5)) fun e232 =>
            oB (oGI 898 0) fun v273 =>
            oB (oPI 898 0 (v273 - e232)) fun _ =>
            oB (oPI 73 0 1) fun _ =>
            oR ())
            (oB (oPI 1282 0 0) fun _ =>
            oB (oW M_Mo_goesOn_L144 l5) fun e144 =>
            oB (oPI 898 0 0) fun _ =>
            oB (oPI 73 0 2) fun _ =>
            oR ())) s (fun _ s' => Oz b s') := by
  have hc := h.2.2.2.2.1.1
  have t11 := h.2.2.2.2.1.2.2.2.2.2.2.2.2.2.2
  have ec : gI s 72 0 = cu s := rfl
  simp only [ok_B, ok_C, ok_R, ok_L, ok_K, ok_GI, ok_GL, ok_PI, ok_PL, ok_AI, ok_AL, ok_SI, ok_SL, ok_Pr, ok_CI, cmp_lt, cmp_le, cmp_gt, cmp_ge, cmp_eq, nar0, nar1, Sum.elim_inl, Sum.elim_inr]
  simp only [gI_sI, gI_sL, gI_sA, gI_sB, gI_sAf, gI_sBf, gL_sI, gL_sL, gL_sA, gL_sB, gL_sAf, gL_sBf, gA_sI, gA_sL, gA_sA, gA_sB, gA_sAf, gA_sBf, gB_sI, gB_sL, gB_sA, gB_sB, gB_sAf, gB_sBf, Nat.reduceEqDiff, Nat.reduceMul, Nat.reduceAdd, false_and, true_and, and_true, and_false, if_true, if_false]
  rw [ec]
  refine ⟨hc, fun c => ?_, fun c => ?_⟩
  · obtain ⟨-, sn⟩ := t11 u hu.1 hu.2 hp h0 c
    have vs : Vl false s (gA s 26 u 0) (gB s 27 u 0) := (h.1.thr hu hp).2.1 0 (by decide) (by rw [Int32.zero_add]; exact sn)
    have rz := h.rx (calling_rx h.1 h.2.1 vs)
    refine ⟨by decide, by decide, ?_⟩
    have r1 := resume_ri (s := sL (sI s 75 0 (gA s 26 u 0)) 76 0 (gB s 27 u 0)) (s' := sI (sL (sI (sI (sI (sI (sI (sI s 3590 u (cu s)) 3585 (cu s) 2) 3585 u 1) 72 0 u) 3589 u 1) 75 0 (gA s 26 u 0)) 76 0 (gB s 27 u 0)) 3202 u 0) (u := u) rz hu (by simp only [t_place, gI_sI, gI_sL, gI_sA, gI_sB, gI_sAf, gI_sBf, gL_sI, gL_sL, gL_sA, gL_sB, gL_sAf, gL_sBf, gA_sI, gA_sL, gA_sA, gA_sB, gA_sAf, gA_sBf, gB_sI, gB_sL, gB_sA, gB_sB, gB_sAf, gB_sBf, Nat.reduceEqDiff, Nat.reduceMul, Nat.reduceAdd, false_and, true_and, and_true, and_false, if_true, if_false]; exact hp) h0 (by simp only [t_state, gI_sI, gI_sL, gI_sA, gI_sB, gI_sAf, gI_sBf, gL_sI, gL_sL, gL_sA, gL_sB, gL_sAf, gL_sBf, gA_sI, gA_sL, gA_sA, gA_sB, gA_sAf, gA_sBf, gB_sI, gB_sL, gB_sA, gB_sB, gB_sAf, gB_sBf, Nat.reduceEqDiff, Nat.reduceMul, Nat.reduceAdd, false_and, true_and, and_true, and_false, if_true, if_false]; exact hst) hk ⟨fun f i a b c d e => by simp only [gI_sI, gI_sL, gI_sA, gI_sB, gI_sAf, gI_sBf, gL_sI, gL_sL, gL_sA, gL_sB, gL_sAf, gL_sBf, gA_sI, gA_sL, gA_sA, gA_sB, gA_sAf, gA_sBf, gB_sI, gB_sL, gB_sA, gB_sB, gB_sAf, gB_sBf, Nat.reduceEqDiff, Nat.reduceMul, Nat.reduceAdd, false_and, true_and, and_true, and_false, if_true, if_false, a, b, c, d, e], fun f i => by simp only [gL_sI, gL_sL], fun a i j => rfl, fun a i j => rfl, fun i => ?_⟩ (by simp only [cu, f_current, gI_sI, gI_sL, gI_sA, gI_sB, gI_sAf, gI_sBf, gL_sI, gL_sL, gL_sA, gL_sB, gL_sAf, gL_sBf, gA_sI, gA_sL, gA_sA, gA_sB, gA_sAf, gA_sBf, gB_sI, gB_sL, gB_sA, gB_sB, gB_sAf, gB_sBf, Nat.reduceEqDiff, Nat.reduceMul, Nat.reduceAdd, false_and, true_and, and_true, and_false, if_true, if_false]) (fun i => by simp only [t_resumer, gI_sI, gI_sL, gI_sA, gI_sB, gI_sAf, gI_sBf, gL_sI, gL_sL, gL_sA, gL_sB, gL_sAf, gL_sBf, gA_sI, gA_sL, gA_sA, gA_sB, gA_sAf, gA_sBf, gB_sI, gB_sL, gB_sA, gB_sB, gB_sAf, gB_sBf, Nat.reduceEqDiff, Nat.reduceMul, Nat.reduceAdd, false_and, true_and, and_true, and_false, if_true, if_false]) (fun i => by simp only [t_state, gI_sI, gI_sL, gI_sA, gI_sB, gI_sAf, gI_sBf, gL_sI, gL_sL, gL_sA, gL_sB, gL_sAf, gL_sBf, gA_sI, gA_sL, gA_sA, gA_sB, gA_sAf, gA_sBf, gB_sI, gB_sL, gB_sA, gB_sB, gB_sAf, gB_sBf, Nat.reduceEqDiff, Nat.reduceMul, Nat.reduceAdd, false_and, true_and, and_true, and_false, if_true, if_false]) (fun i q => ⟨by simp only [t_begun, gI_sI, gI_sL, gI_sA, gI_sB, gI_sAf, gI_sBf, gL_sI, gL_sL, gL_sA, gL_sB, gL_sAf, gL_sBf, gA_sI, gA_sL, gA_sA, gA_sB, gA_sAf, gA_sBf, gB_sI, gB_sL, gB_sA, gB_sB, gB_sAf, gB_sBf, Nat.reduceEqDiff, Nat.reduceMul, Nat.reduceAdd, false_and, true_and, and_true, and_false, if_true, if_false, q], by simp only [v_start_n, gI_sI, gI_sL, gI_sA, gI_sB, gI_sAf, gI_sBf, gL_sI, gL_sL, gL_sA, gL_sB, gL_sAf, gL_sBf, gA_sI, gA_sL, gA_sA, gA_sB, gA_sAf, gA_sBf, gB_sI, gB_sL, gB_sA, gB_sB, gB_sAf, gB_sBf, Nat.reduceEqDiff, Nat.reduceMul, Nat.reduceAdd, false_and, true_and, and_true, and_false, if_true, if_false, q]⟩) (by simp only [t_begun, gI_sI, gI_sL, gI_sA, gI_sB, gI_sAf, gI_sBf, gL_sI, gL_sL, gL_sA, gL_sB, gL_sAf, gL_sBf, gA_sI, gA_sL, gA_sA, gA_sB, gA_sAf, gA_sBf, gB_sI, gB_sL, gB_sA, gB_sB, gB_sAf, gB_sBf, Nat.reduceEqDiff, Nat.reduceMul, Nat.reduceAdd, false_and, true_and, and_true, and_false, if_true, if_false]; decide)
    · have h1 : gI (sI (sL (sI (sI (sI (sI (sI (sI s 3590 u (cu s)) 3585 (cu s) 2) 3585 u 1) 72 0 u) 3589 u 1) 75 0 (gA s 26 u 0)) 76 0 (gB s 27 u 0)) 3202 u 0) 2050 0 = 0 := by
        simp only [gI_sI, gI_sL, gI_sA, gI_sB, gI_sAf, gI_sBf, gL_sI, gL_sL, gL_sA, gL_sB, gL_sAf, gL_sBf, gA_sI, gA_sL, gA_sA, gA_sB, gA_sAf, gA_sBf, gB_sI, gB_sL, gB_sA, gB_sB, gB_sAf, gB_sBf, Nat.reduceEqDiff, Nat.reduceMul, Nat.reduceAdd, false_and, true_and, and_true, and_false, if_true, if_false]
        exact hh
      have a1 : gI (sI (sL (sI (sI (sI (sI (sI (sI s 3590 u (cu s)) 3585 (cu s) 2) 3585 u 1) 72 0 u) 3589 u 1) 75 0 (gA s 26 u 0)) 76 0 (gB s 27 u 0)) 3202 u 0) 898 0 = gI s 898 0 := by simp only [gI_sI, gI_sL, gI_sA, gI_sB, gI_sAf, gI_sBf, gL_sI, gL_sL, gL_sA, gL_sB, gL_sAf, gL_sBf, gA_sI, gA_sL, gA_sA, gA_sB, gA_sAf, gA_sBf, gB_sI, gB_sL, gB_sA, gB_sB, gB_sAf, gB_sBf, Nat.reduceEqDiff, Nat.reduceMul, Nat.reduceAdd, false_and, true_and, and_true, and_false, if_true, if_false]
      have m1 : jA (sI (sL (sI (sI (sI (sI (sI (sI s 3590 u (cu s)) 3585 (cu s) 2) 3585 u 1) 72 0 u) 3589 u 1) 75 0 (gA s 26 u 0)) 76 0 (gB s 27 u 0)) 3202 u 0) = jA s ∧ sF (sI (sL (sI (sI (sI (sI (sI (sI s 3590 u (cu s)) 3585 (cu s) 2) 3585 u 1) 72 0 u) 3589 u 1) 75 0 (gA s 26 u 0)) 76 0 (gB s 27 u 0)) 3202 u 0) = sF s := ms_same (fun i => by simp only [gI_sI, gI_sL, gI_sA, gI_sB, gI_sAf, gI_sBf, gL_sI, gL_sL, gL_sA, gL_sB, gL_sAf, gL_sBf, gA_sI, gA_sL, gA_sA, gA_sB, gA_sAf, gA_sBf, gB_sI, gB_sL, gB_sA, gB_sB, gB_sAf, gB_sBf, Nat.reduceEqDiff, Nat.reduceMul, Nat.reduceAdd, false_and, true_and, and_true, and_false, if_true, if_false]) (fun a i j _ => rfl)
      generalize sI (sL (sI (sI (sI (sI (sI (sI s 3590 u (cu s)) 3585 (cu s) 2) 3585 u 1) 72 0 u) 3589 u 1) 75 0 (gA s 26 u 0)) 76 0 (gB s 27 u 0)) 3202 u 0 = z at *
      refine ok_mono (shiftd_ok z l5 r1.1 h5.1) fun e s2 ⟨ee, ag, e2⟩ => ?_
      rw [ee]
      have rx2 := ag.rx (Or.inl rfl) r1.2.1
      have n2 : 0 ≤ gI s2 898 0 - l5 ∧ gI s2 898 0 - l5 ≤ gI s2 898 0 := by
        have w := rx2.1.2.2.2.1.2.1
        have w2 : 0 ≤ gI s2 898 0 ∧ gI s2 898 0 ≤ 400 := w
        have w3 : l5 ≤ gI s2 898 0 := by
          rw [e2, a1]
          exact h5.2
        have w5 := h5.1
        clear w
        generalize gI s2 898 0 = n at *
        clear h1 a1 e2 rx2 ag r1
        rcases w5 with e | e <;> subst e <;> exact ⟨by grind, by grind⟩
      have rx3 := less_rx rx2.1 rx2.2.1 n2
      refine Oz.call ((r1.rx rx2).rx rx3) ?_ ?_ ?_
      · simp only [gI_sI, gI_sL, gI_sA, gI_sB, gI_sAf, gI_sBf, gL_sI, gL_sL, gL_sA, gL_sB, gL_sAf, gL_sBf, gA_sI, gA_sL, gA_sA, gA_sB, gA_sAf, gA_sBf, gB_sI, gB_sL, gB_sA, gB_sB, gB_sAf, gB_sBf, Nat.reduceEqDiff, Nat.reduceMul, Nat.reduceAdd, false_and, true_and, and_true, and_false, if_true, if_false]
        exact (ag.2.1 2050 0 (by decide)).trans h1
      · simp only [gI_sI, gI_sL, gI_sA, gI_sB, gI_sAf, gI_sBf, gL_sI, gL_sL, gL_sA, gL_sB, gL_sAf, gL_sBf, gA_sI, gA_sL, gA_sA, gA_sB, gA_sAf, gA_sBf, gB_sI, gB_sL, gB_sA, gB_sB, gB_sAf, gB_sBf, Nat.reduceEqDiff, Nat.reduceMul, Nat.reduceAdd, false_and, true_and, and_true, and_false, if_true, if_false]
        refine Int32.le_trans n2.2 ?_
        rw [e2, a1]
        exact ha
      · rw [rx3.ms.1, rx3.ms.2, rx2.ms.1, rx2.ms.2, m1.1, m1.2]
        exact m
    · by_cases q : i = u
      · exact Or.inr (by simp only [gI_sI, gI_sL, gI_sA, gI_sB, gI_sAf, gI_sBf, gL_sI, gL_sL, gL_sA, gL_sB, gL_sAf, gL_sBf, gA_sI, gA_sL, gA_sA, gA_sB, gA_sAf, gA_sBf, gB_sI, gB_sL, gB_sA, gB_sB, gB_sAf, gB_sBf, Nat.reduceEqDiff, Nat.reduceMul, Nat.reduceAdd, false_and, true_and, and_true, and_false, if_true, if_false, q])
      · exact Or.inl (by simp only [gI_sI, gI_sL, gI_sA, gI_sB, gI_sAf, gI_sBf, gL_sI, gL_sL, gL_sA, gL_sB, gL_sAf, gL_sBf, gA_sI, gA_sL, gA_sA, gA_sB, gA_sAf, gA_sBf, gB_sI, gB_sL, gB_sA, gB_sB, gB_sAf, gB_sBf, Nat.reduceEqDiff, Nat.reduceMul, Nat.reduceAdd, false_and, true_and, and_true, and_false, if_true, if_false, q])
  · have r1 := resume_ri (s := s) (s' := sI (sI (sI (sI s 3590 u (cu s)) 3585 (cu s) 2) 3585 u 1) 72 0 u) (u := u) h hu hp h0 hst hk ⟨fun f i a b c d e => by simp only [gI_sI, gI_sL, gI_sA, gI_sB, gI_sAf, gI_sBf, gL_sI, gL_sL, gL_sA, gL_sB, gL_sAf, gL_sBf, gA_sI, gA_sL, gA_sA, gA_sB, gA_sAf, gA_sBf, gB_sI, gB_sL, gB_sA, gB_sB, gB_sAf, gB_sBf, Nat.reduceEqDiff, Nat.reduceMul, Nat.reduceAdd, false_and, true_and, and_true, and_false, if_true, if_false, a, c, e], fun f i => rfl, fun a i j => rfl, fun a i j => rfl, fun i => Or.inl (by simp only [gI_sI, gI_sL, gI_sA, gI_sB, gI_sAf, gI_sBf, gL_sI, gL_sL, gL_sA, gL_sB, gL_sAf, gL_sBf, gA_sI, gA_sL, gA_sA, gA_sB, gA_sAf, gA_sBf, gB_sI, gB_sL, gB_sA, gB_sB, gB_sAf, gB_sBf, Nat.reduceEqDiff, Nat.reduceMul, Nat.reduceAdd, false_and, true_and, and_true, and_false, if_true, if_false])⟩ (by simp only [cu, f_current, gI_sI, gI_sL, gI_sA, gI_sB, gI_sAf, gI_sBf, gL_sI, gL_sL, gL_sA, gL_sB, gL_sAf, gL_sBf, gA_sI, gA_sL, gA_sA, gA_sB, gA_sAf, gA_sBf, gB_sI, gB_sL, gB_sA, gB_sB, gB_sAf, gB_sBf, Nat.reduceEqDiff, Nat.reduceMul, Nat.reduceAdd, false_and, true_and, and_true, and_false, if_true, if_false]) (fun i => by simp only [t_resumer, gI_sI, gI_sL, gI_sA, gI_sB, gI_sAf, gI_sBf, gL_sI, gL_sL, gL_sA, gL_sB, gL_sAf, gL_sBf, gA_sI, gA_sL, gA_sA, gA_sB, gA_sAf, gA_sBf, gB_sI, gB_sL, gB_sA, gB_sB, gB_sAf, gB_sBf, Nat.reduceEqDiff, Nat.reduceMul, Nat.reduceAdd, false_and, true_and, and_true, and_false, if_true, if_false]) (fun i => by simp only [t_state, gI_sI, gI_sL, gI_sA, gI_sB, gI_sAf, gI_sBf, gL_sI, gL_sL, gL_sA, gL_sB, gL_sAf, gL_sBf, gA_sI, gA_sL, gA_sA, gA_sB, gA_sAf, gA_sBf, gB_sI, gB_sL, gB_sA, gB_sB, gB_sAf, gB_sBf, Nat.reduceEqDiff, Nat.reduceMul, Nat.reduceAdd, false_and, true_and, and_true, and_false, if_true, if_false]) (fun i q => ⟨by simp only [t_begun, gI_sI, gI_sL, gI_sA, gI_sB, gI_sAf, gI_sBf, gL_sI, gL_sL, gL_sA, gL_sB, gL_sAf, gL_sBf, gA_sI, gA_sL, gA_sA, gA_sB, gA_sAf, gA_sBf, gB_sI, gB_sL, gB_sA, gB_sB, gB_sAf, gB_sBf, Nat.reduceEqDiff, Nat.reduceMul, Nat.reduceAdd, false_and, true_and, and_true, and_false, if_true, if_false], by simp only [v_start_n, gI_sI, gI_sL, gI_sA, gI_sB, gI_sAf, gI_sBf, gL_sI, gL_sL, gL_sA, gL_sB, gL_sAf, gL_sBf, gA_sI, gA_sL, gA_sA, gA_sB, gA_sAf, gA_sBf, gB_sI, gB_sL, gB_sA, gB_sB, gB_sAf, gB_sBf, Nat.reduceEqDiff, Nat.reduceMul, Nat.reduceAdd, false_and, true_and, and_true, and_false, if_true, if_false]⟩) (by simp only [t_begun, gI_sI, gI_sL, gI_sA, gI_sB, gI_sAf, gI_sBf, gL_sI, gL_sL, gL_sA, gL_sB, gL_sAf, gL_sBf, gA_sI, gA_sL, gA_sA, gA_sB, gA_sAf, gA_sBf, gB_sI, gB_sL, gB_sA, gB_sB, gB_sAf, gB_sBf, Nat.reduceEqDiff, Nat.reduceMul, Nat.reduceAdd, false_and, true_and, and_true, and_false, if_true, if_false]; exact c)
    have h1 : gI (sI (sI (sI (sI s 3590 u (cu s)) 3585 (cu s) 2) 3585 u 1) 72 0 u) 2050 0 = 0 := by
      simp only [gI_sI, gI_sL, gI_sA, gI_sB, gI_sAf, gI_sBf, gL_sI, gL_sL, gL_sA, gL_sB, gL_sAf, gL_sBf, gA_sI, gA_sL, gA_sA, gA_sB, gA_sAf, gA_sBf, gB_sI, gB_sL, gB_sA, gB_sB, gB_sAf, gB_sBf, Nat.reduceEqDiff, Nat.reduceMul, Nat.reduceAdd, false_and, true_and, and_true, and_false, if_true, if_false]
      exact hh
    have a1 : gI (sI (sI (sI (sI s 3590 u (cu s)) 3585 (cu s) 2) 3585 u 1) 72 0 u) 898 0 = gI s 898 0 := by simp only [gI_sI, gI_sL, gI_sA, gI_sB, gI_sAf, gI_sBf, gL_sI, gL_sL, gL_sA, gL_sB, gL_sAf, gL_sBf, gA_sI, gA_sL, gA_sA, gA_sB, gA_sAf, gA_sBf, gB_sI, gB_sL, gB_sA, gB_sB, gB_sAf, gB_sBf, Nat.reduceEqDiff, Nat.reduceMul, Nat.reduceAdd, false_and, true_and, and_true, and_false, if_true, if_false]
    have m1 : jA (sI (sI (sI (sI s 3590 u (cu s)) 3585 (cu s) 2) 3585 u 1) 72 0 u) = jA s ∧ sF (sI (sI (sI (sI s 3590 u (cu s)) 3585 (cu s) 2) 3585 u 1) 72 0 u) = sF s := ms_same (fun i => by simp only [gI_sI, gI_sL, gI_sA, gI_sB, gI_sAf, gI_sBf, gL_sI, gL_sL, gL_sA, gL_sB, gL_sAf, gL_sBf, gA_sI, gA_sL, gA_sA, gA_sB, gA_sAf, gA_sBf, gB_sI, gB_sL, gB_sA, gB_sB, gB_sAf, gB_sBf, Nat.reduceEqDiff, Nat.reduceMul, Nat.reduceAdd, false_and, true_and, and_true, and_false, if_true, if_false]) (fun a i j _ => rfl)
    generalize sI (sI (sI (sI s 3590 u (cu s)) 3585 (cu s) 2) 3585 u 1) 72 0 u = z at *
    have ag := zero10 r1.1
    have e2 : gI (sI z 1282 0 0) 1282 0 = 0 := by simp only [gI_sI, gI_sL, gI_sA, gI_sB, gI_sAf, gI_sBf, gL_sI, gL_sL, gL_sA, gL_sB, gL_sAf, gL_sBf, gA_sI, gA_sL, gA_sA, gA_sB, gA_sAf, gA_sBf, gB_sI, gB_sL, gB_sA, gB_sB, gB_sAf, gB_sBf, Nat.reduceEqDiff, Nat.reduceMul, Nat.reduceAdd, false_and, true_and, and_true, and_false, if_true, if_false]
    have h2 : gI (sI z 1282 0 0) 2050 0 = 0 := (ag.2.1 2050 0 (by decide)).trans h1
    have a2 : gI (sI z 1282 0 0) 898 0 ≤ 250 := by
      simp only [gI_sI, gI_sL, gI_sA, gI_sB, gI_sAf, gI_sBf, gL_sI, gL_sL, gL_sA, gL_sB, gL_sAf, gL_sBf, gA_sI, gA_sL, gA_sA, gA_sB, gA_sAf, gA_sBf, gB_sI, gB_sL, gB_sA, gB_sB, gB_sAf, gB_sBf, Nat.reduceEqDiff, Nat.reduceMul, Nat.reduceAdd, false_and, true_and, and_true, and_false, if_true, if_false]
      rw [a1]
      exact ha
    have rx2 := ag.rx (Or.inr (Or.inl rfl)) r1.2.1
    have r2 := r1.rx rx2
    generalize sI z 1282 0 0 = y at *
    refine ok_mono (toRes_ok y l5 r2.1 h5.1 e2 a2) fun _ s3 ⟨ag3, n3⟩ => ?_
    have rx3 := ag3.rx (Or.inr (Or.inl rfl)) r2.2.1
    have r3 := r2.rx rx3
    have h3 : gI s3 2050 0 = 0 := (ag3.2.1 2050 0 (by decide)).trans h2
    have ag4 := zero7 r3.1
    have rx4 := ag4.rx (Or.inl rfl) r3.2.1
    refine Oz.give (r3.rx rx4) ((ag4.2.1 2050 0 (by decide)).trans h3) ?_ ?_
    · simp only [gI_sI, gI_sL, gI_sA, gI_sB, gI_sAf, gI_sBf, gL_sI, gL_sL, gL_sA, gL_sB, gL_sAf, gL_sBf, gA_sI, gA_sL, gA_sA, gA_sB, gA_sAf, gA_sBf, gB_sI, gB_sL, gB_sA, gB_sB, gB_sAf, gB_sBf, Nat.reduceEqDiff, Nat.reduceMul, Nat.reduceAdd, false_and, true_and, and_true, and_false, if_true, if_false]
      exact n3
    · rw [rx4.ms.1, rx3.ms.1, rx2.ms.1, m1.1]
      exact m.1
theorem goesOn_ok (s : S1) (u l2 l3 l4 l5 : Int32) (h : RI true s) (hh : v_hand_n s = 0) (ha : v_args_n s ≤ 250) (hu : 0 ≤ u ∧ u < 33) (hl2 : 0 ≤ l2) (hk : l3 = 2 ∨ l3 = 3) (hf : 0 ≤ l4 → Lv false s l4 6) (h5 : (l5 = 0 ∨ l5 = 1) ∧ l5 ≤ gI s 898 0) : ok (M_Mo_goesOn u l2 l3 l4 l5) s (fun _ s' => Oz s s') := by
  have no := go25_bo s l3 h hh
  unfold M_Mo_goesOn
  rw [ok_B, ok_GI, ok_C]
  refine ⟨fun c1 => ?_, fun _ => no⟩
  rw [ok_B, ok_GI, ok_C]
  refine ⟨fun c2 => ?_, fun _ => no⟩
  rw [ok_B, ok_K]
  refine ⟨by decide, ?_⟩
  rw [ok_C]
  refine ⟨fun _ => no, fun c3 => ?_⟩
  rw [ok_B]
  have hk3 : l3 ≠ 0 ∧ 0 ≤ l3 ∧ l3 ≤ 4 := by rcases hk with e | e <;> rw [e] <;> exact ⟨by decide, by decide, by decide⟩
  have hc := h.2.2.2.2.1.1
  have hpl : 0 ≤ t_place s (cu s) := h.2.2.2.2.1.2.2.2.2.2.2.2.2.1 0 hc.1
  have qf := (h.1.thr hc hpl).1.2.1
  refine ok_mono (push_ok s l3 l4 h hh hk3 hf) fun v s1 w => ?_
  rw [ok_C]
  rcases w with ⟨e, b, er⟩ | ⟨e, r1, ph⟩
  · refine ⟨fun _ => ?_, fun z => absurd e z⟩
    simp only [ok_B, ok_C, ok_R, ok_L, ok_K, ok_GI, ok_GL, ok_PI, ok_PL, ok_AI, ok_AL, ok_SI, ok_SL, ok_Pr, ok_CI, cmp_lt, cmp_le, cmp_gt, cmp_ge, cmp_eq, nar0, nar1, Sum.elim_inl, Sum.elim_inr]
    have r1 := h.rx b.1
    have ag := zero7 r1.1
    have rx := ag.rx (Or.inl rfl) r1.2.1
    refine Oz.bo r1 ⟨rx, (ag.2.1 2050 0 (by decide)).trans b.2.1, Or.inl ?_⟩ (Nat.le_of_eq b.1.ms.1)
    unfold Er at *
    simp only [f_todo, gI_sI, gI_sL, gI_sA, gI_sB, gI_sAf, gI_sBf, gL_sI, gL_sL, gL_sA, gL_sB, gL_sAf, gL_sBf, gA_sI, gA_sL, gA_sA, gA_sB, gA_sAf, gA_sBf, gB_sI, gB_sL, gB_sA, gB_sB, gB_sAf, gB_sBf, Nat.reduceEqDiff, Nat.reduceMul, Nat.reduceAdd, false_and, true_and, and_true, and_false, if_true, if_false] at *
    exact er
  · refine ⟨fun z => absurd (e.symm.trans z) (by decide), fun _ => ?_⟩
    have ecu : cu s1 = cu s := ph.I 72 (by decide) 0
    have en := ph.2.1
    have a1 : gI s1 898 0 = gI s 898 0 := ph.I 898 (by decide) 0
    have ek := ph.2.2.2.2.2.1
    have n2 : t_frames s (cu s) ≠ 200 := fun q => by
      have w := (r1.1.thr (t := cu s) hc (by show 0 ≤ gI s1 3584 _; rw [ph.I 3584 (by decide)]; exact hpl)).1.2.1
      rw [en, q] at w
      exact absurd w.2 (by decide)
    obtain ⟨m1, m2, -⟩ := ph.ms hk3.1 hc qf n2
    refine go_ok s1 u l5 r1 ((ph.I 2050 (by decide) 0).trans hh) (by rw [a1]; exact ha) hu ?_ c3 ?_ ?_ ?_ s ⟨Nat.le_of_eq m1, m2⟩
    · show 0 ≤ gI s1 3584 u
      rw [ph.I 3584 (by decide), c1]
      exact hl2
    · show gI s1 3585 u = 0
      rw [ph.I 3585 (by decide)]
      exact c2
    · rw [ecu, en]
      obtain ⟨-, n2, n3, -⟩ := ph_num qf n2
      rw [n3, ek]
      refine ⟨?_, hk⟩
      have := n2.1
      clear ph r1 en ek no m1 m2
      grind
    · rw [a1]
      exact h5
theorem resume_oz (s : S1) (h : q_Bi s) : ok M_Mo_resume s (fun _ s' => Oz s s') := by
  obtain ⟨hr, _, hh, ha⟩ := h
  unfold M_Mo_resume
  rw [ok_B]
  refine ok_mono (is_ok s 0 7 hr.1 (by decide)) fun v s1 ⟨_, i2, es⟩ => ?_
  rw [es, ok_C]
  refine ⟨fun _ => ?_, fun c => ?_⟩
  · simp only [ok_B, ok_C, ok_R, ok_L, ok_K, ok_GI, ok_GL, ok_PI, ok_PL, ok_AI, ok_AL, ok_SI, ok_SL, ok_Pr, ok_CI, cmp_lt, cmp_le, cmp_gt, cmp_ge, cmp_eq, nar0, nar1, Sum.elim_inl, Sum.elim_inr]
    have ag := zero7 hr.1
    have rx1 := ag.rx (Or.inl rfl) hr.2.1
    have r1 := hr.rx rx1
    have h1 : gI (sI s 898 0 0) 2050 0 = 0 := (ag.2.1 2050 0 (by decide)).trans hh
    generalize sI s 898 0 0 = z at *
    exact ok_mono (raise_bo z 2 r1.1 r1.2.1 h1) fun _ s' b => Oz.bo r1 b (Nat.le_of_eq rx1.ms.1)
  · have a7 := i2 c
    have an : ¬ gI s 898 0 ≤ 0 := fun w => by
      unfold akv at a7
      rw [if_pos w] at a7
      exact absurd a7 (by decide)
    have vl := ar_vl hr.1 (j := 0) (by decide)
    rw [a7] at vl
    have lv := vl.to (by decide) (by decide)
    rw [ok_B]
    refine ok_mono (av_ok s 0 hr.1 (by decide)) fun w s2 ⟨ew, es2⟩ => ?_
    rw [es2, ew]
    have sh := (hr.1.1.1.1.2.2 _ lv.1 lv.2.1).1.2.2.1 lv.2.2.1
    simp only [ok_B, ok_C, ok_R, ok_L, ok_K, ok_GI, ok_GL, ok_PI, ok_PL, ok_AI, ok_AL, ok_SI, ok_SL, ok_Pr, ok_CI, cmp_lt, cmp_le, cmp_gt, cmp_ge, cmp_eq, nar0, nar1, Sum.elim_inl, Sum.elim_inr]
    refine ⟨lv.b hr.1, ⟨sh.1, sh.2.1⟩, ?_⟩
    refine goesOn_ok s _ _ 2 (-1) 1 hr hh ha ⟨sh.1, sh.2.1⟩ lv.1 (Or.inl rfl) (fun z => absurd z (by decide)) ⟨Or.inr rfl, ?_⟩
    clear vl lv sh
    grind
/-- the running thread's state alone is another -/
def St (z s : S1) (d : Int32) : Prop := (∀ f i, ¬ (f = 3585 ∧ i = cu z) → gI s f i = gI z f i) ∧ gI s 3585 (cu z) = d ∧ (∀ f i, gL s f i = gL z f i) ∧ (∀ a i j, gA s a i j = gA z a i j) ∧ ∀ a i j, gB s a i j = gB z a i j
theorem back_ok (z s : S1) (d : Int32) (h : RI true z) (h0 : cu z ≠ 0) (hd : d = 0 ∨ d = 3) (hs : St z s d) : ok (M_Mo_back (cu z)) s (fun _ F => RI true F ∧ (0 < t_frames F (cu F) ∧ (t_kind F (cu F) (t_frames F (cu F) - 1) = 2 ∨ t_kind F (cu F) (t_frames F (cu F) - 1) = 3)) ∧ (∀ f i, f ≠ 72 → f ≠ 3585 → f ≠ 3590 → gI F f i = gI z f i) ∧ (∀ f i, gL F f i = gL z f i) ∧ (∀ a i j, gA F a i j = gA z a i j) ∧ (∀ a i j, gB F a i j = gB z a i j) ∧ cu F = t_resumer z (cu z) ∧ (∀ i, t_resumer F i = if i = cu z then -1 else t_resumer z i) ∧ t_resumer z (cu z) ≠ -1) := by
  obtain ⟨s1, s2, s3, s4, s5⟩ := hs
  have hc := h.2.2.2.2.1.1
  have hr : t_resumer z (cu z) ≠ -1 := h.2.2.2.2.1.2.2.2.2.2.1 0 hc.1 h0
  obtain ⟨⟨-, ⟨ρ, r2⟩, -⟩, -⟩ := h.1.1.2 h.2.1
  have hrr := r2 (cu z) hc.1 hc.2 hr
  have er : gI s 3590 (cu z) = t_resumer z (cu z) := s1 3590 _ (fun w => absurd w.1 (by decide))
  have e72 : ∀ r, gI (sI (sI s 72 0 r) 3590 (cu z) (-1)) 72 0 = r := fun r => by simp only [gI_sI, gI_sL, gI_sA, gI_sB, gI_sAf, gI_sBf, gL_sI, gL_sL, gL_sA, gL_sB, gL_sAf, gL_sBf, gA_sI, gA_sL, gA_sA, gA_sB, gA_sAf, gA_sBf, gB_sI, gB_sL, gB_sA, gB_sB, gB_sAf, gB_sBf, Nat.reduceEqDiff, Nat.reduceMul, Nat.reduceAdd, false_and, true_and, and_true, and_false, if_true, if_false]
  simp only [M_Mo_back, ok_B, ok_C, ok_R, ok_L, ok_K, ok_GI, ok_GL, ok_PI, ok_PL, ok_AI, ok_AL, ok_SI, ok_SL, ok_Pr, ok_CI, cmp_lt, cmp_le, cmp_gt, cmp_ge, cmp_eq, nar0, nar1, Sum.elim_inl, Sum.elim_inr]
  rw [er, e72]
  refine ⟨⟨hrr.1, hrr.2.1⟩, ?_⟩
  have I : ∀ f i, f ≠ 72 → f ≠ 3585 → f ≠ 3590 → gI (sI (sI (sI s 72 0 (t_resumer z (cu z))) 3590 (cu z) (-1)) 3585 (t_resumer z (cu z)) 1) f i = gI z f i := fun f i a b c => by
    simp only [gI_sI, gI_sL, gI_sA, gI_sB, gI_sAf, gI_sBf, gL_sI, gL_sL, gL_sA, gL_sB, gL_sAf, gL_sBf, gA_sI, gA_sL, gA_sA, gA_sB, gA_sAf, gA_sBf, gB_sI, gB_sL, gB_sA, gB_sB, gB_sAf, gB_sBf, Nat.reduceEqDiff, Nat.reduceMul, Nat.reduceAdd, false_and, true_and, and_true, and_false, if_true, if_false, a, b, c]
    exact s1 f i (fun w => b w.1)
  have L : ∀ f i, gL (sI (sI (sI s 72 0 (t_resumer z (cu z))) 3590 (cu z) (-1)) 3585 (t_resumer z (cu z)) 1) f i = gL z f i := fun f i => s3 f i
  have A : ∀ a i j, gA (sI (sI (sI s 72 0 (t_resumer z (cu z))) 3590 (cu z) (-1)) 3585 (t_resumer z (cu z)) 1) a i j = gA z a i j := fun a i j => s4 a i j
  have B : ∀ a i j, gB (sI (sI (sI s 72 0 (t_resumer z (cu z))) 3590 (cu z) (-1)) 3585 (t_resumer z (cu z)) 1) a i j = gB z a i j := fun a i j => s5 a i j
  have e1 : cu (sI (sI (sI s 72 0 (t_resumer z (cu z))) 3590 (cu z) (-1)) 3585 (t_resumer z (cu z)) 1) = t_resumer z (cu z) := by simp only [cu, f_current, gI_sI, gI_sL, gI_sA, gI_sB, gI_sAf, gI_sBf, gL_sI, gL_sL, gL_sA, gL_sB, gL_sAf, gL_sBf, gA_sI, gA_sL, gA_sA, gA_sB, gA_sAf, gA_sBf, gB_sI, gB_sL, gB_sA, gB_sB, gB_sAf, gB_sBf, Nat.reduceEqDiff, Nat.reduceMul, Nat.reduceAdd, false_and, true_and, and_true, and_false, if_true, if_false]
  have e2 : ∀ i, t_resumer (sI (sI (sI s 72 0 (t_resumer z (cu z))) 3590 (cu z) (-1)) 3585 (t_resumer z (cu z)) 1) i = if i = cu z then -1 else t_resumer z i := fun i => by
    simp only [t_resumer, gI_sI, gI_sL, gI_sA, gI_sB, gI_sAf, gI_sBf, gL_sI, gL_sL, gL_sA, gL_sB, gL_sAf, gL_sBf, gA_sI, gA_sL, gA_sA, gA_sB, gA_sAf, gA_sBf, gB_sI, gB_sL, gB_sA, gB_sB, gB_sAf, gB_sBf, Nat.reduceEqDiff, Nat.reduceMul, Nat.reduceAdd, false_and, true_and, and_true, and_false, if_true, if_false]
    rw [s1 3590 i (fun w => absurd w.1 (by decide))]
  have e3 : ∀ i, t_state (sI (sI (sI s 72 0 (t_resumer z (cu z))) 3590 (cu z) (-1)) 3585 (t_resumer z (cu z)) 1) i = if i = t_resumer z (cu z) then 1 else if i = cu z then d else t_state z i := fun i => by
    simp only [t_state, gI_sI, gI_sL, gI_sA, gI_sB, gI_sAf, gI_sBf, gL_sI, gL_sL, gL_sA, gL_sB, gL_sAf, gL_sBf, gA_sI, gA_sL, gA_sA, gA_sB, gA_sAf, gA_sBf, gB_sI, gB_sL, gB_sA, gB_sB, gB_sAf, gB_sBf, Nat.reduceEqDiff, Nat.reduceMul, Nat.reduceAdd, false_and, true_and, and_true, and_false, if_true, if_false]
    by_cases q : i = cu z
    · rw [if_pos q, q, s2]
    · rw [if_neg q, s1 3585 i (fun w => q w.2)]
  generalize sI (sI (sI s 72 0 (t_resumer z (cu z))) 3590 (cu z) (-1)) 3585 (t_resumer z (cu z)) 1 = F at *
  obtain ⟨r, k⟩ := back_ri h h0 ⟨fun f i a _ c _ e => I f i a c e, L, A, B, fun i => Or.inl (I 3202 i (by decide) (by decide) (by decide))⟩ e1 e2 e3 hd (fun i => ⟨I 3589 i (by decide) (by decide) (by decide), I 3202 i (by decide) (by decide) (by decide)⟩)
  refine ⟨r, ?_, I, L, A, B, e1, e2, hr⟩
  have ef : ∀ i, t_frames F i = t_frames z i := fun i => I 3586 i (by decide) (by decide) (by decide)
  have ek : ∀ i j, t_kind F i j = t_kind z i j := fun i j => A 30 i j
  rw [ef, ek]
  exact k
theorem giveWay_oz (s : S1) (h : q_Bi s) : ok M_Mo_giveWay s (fun _ s' => Oz s s') := by
  obtain ⟨hr, _, hh, ha⟩ := h
  have hc := hr.2.2.2.2.1.1
  have st1 : gI s 3585 (cu s) = 1 := hr.2.2.2.2.1.2.1
  have ec : gI s 72 0 = cu s := rfl
  have ha' : gI s 898 0 ≤ 250 := ha
  have hh' : gI s 2050 0 = 0 := hh
  simp only [M_Mo_giveWay, ok_B, ok_C, ok_R, ok_L, ok_K, ok_GI, ok_GL, ok_PI, ok_PL, ok_AI, ok_AL, ok_SI, ok_SL, ok_Pr, ok_CI, cmp_lt, cmp_le, cmp_gt, cmp_ge, cmp_eq, nar0, nar1, Sum.elim_inl, Sum.elim_inr]
  rw [ec]
  refine ⟨hc, by decide, fun _ => ok_mono (raise_bo s 9 hr.1 hr.2.1 hh) fun _ s' b => Oz.bo hr b (Nat.le_refl _), fun c => ⟨hc, ?_⟩⟩
  have g1 : GG (sI s 3585 (cu s) 0) := hr.1.hx ((Hx0.refl s).sI (by decide))
  have i1 : ∀ f i, ¬ (f = 3585 ∧ i = cu s) → gI (sI s 3585 (cu s) 0) f i = gI s f i := fun f i q => by rw [gI_sI, if_neg q]
  have i2 : gI (sI s 3585 (cu s) 0) 3585 (cu s) = 0 := by simp only [gI_sI, gI_sL, gI_sA, gI_sB, gI_sAf, gI_sBf, gL_sI, gL_sL, gL_sA, gL_sB, gL_sAf, gL_sBf, gA_sI, gA_sL, gA_sA, gA_sB, gA_sAf, gA_sBf, gB_sI, gB_sL, gB_sA, gB_sB, gB_sAf, gB_sBf, Nat.reduceEqDiff, Nat.reduceMul, Nat.reduceAdd, false_and, true_and, and_true, and_false, if_true, if_false]
  have i3 : ∀ f i, gL (sI s 3585 (cu s) 0) f i = gL s f i := fun f i => rfl
  have i4 : ∀ a i j, gA (sI s 3585 (cu s) 0) a i j = gA s a i j := fun a i j => rfl
  have i5 : ∀ a i j, gB (sI s 3585 (cu s) 0) a i j = gB s a i j := fun a i j => rfl
  generalize sI s 3585 (cu s) 0 = s1 at *
  have ag := zero10 g1
  have e2 : gI (sI s1 1282 0 0) 1282 0 = 0 := by simp only [gI_sI, gI_sL, gI_sA, gI_sB, gI_sAf, gI_sBf, gL_sI, gL_sL, gL_sA, gL_sB, gL_sAf, gL_sBf, gA_sI, gA_sL, gA_sA, gA_sB, gA_sAf, gA_sBf, gB_sI, gB_sL, gB_sA, gB_sB, gB_sAf, gB_sBf, Nat.reduceEqDiff, Nat.reduceMul, Nat.reduceAdd, false_and, true_and, and_true, and_false, if_true, if_false]
  have a2 : gI (sI s1 1282 0 0) 898 0 ≤ 250 := by
    rw [ag.2.1 898 0 (by decide), i1 898 0 (fun w => absurd w.1 (by decide))]
    exact ha'
  generalize sI s1 1282 0 0 = s2 at *
  refine ok_mono (toRes2_ok s2 (cu s) ag.1 e2 a2) fun e s3 ⟨ee, ag3, n3⟩ => ?_
  rw [ee]
  have ag13 := ag.trans ag3
  have ag4 := zero7 ag13.1
  have j1 : ∀ f i, f ≠ 898 → f ≠ 1282 → gI (sI s3 898 0 0) f i = gI s1 f i := fun f i a b => by
    rw [ag4.2.1 f i a, ag13.2.1 f i b]
  have j3 : ∀ f i, gL (sI s3 898 0 0) f i = gL s1 f i := fun f i => (ag4.2.2.1 f i).trans (ag13.2.2.1 f i)
  have j4 : ∀ a i j, a ≠ 8 → a ≠ 11 → gA (sI s3 898 0 0) a i j = gA s1 a i j := fun a i j p q => (ag4.2.2.2.1 a i j p).trans (ag13.2.2.2.1 a i j q)
  have j5 : ∀ a i j, a ≠ 9 → a ≠ 12 → gB (sI s3 898 0 0) a i j = gB s1 a i j := fun a i j p q => (ag4.2.2.2.2 a i j p).trans (ag13.2.2.2.2 a i j q)
  have n4 : gI (sI s3 898 0 0) 1282 0 ≤ 250 := by
    rw [ag4.2.1 1282 0 (by decide)]
    exact n3
  have g4 := ag4.1
  generalize sI s3 898 0 0 = s4 at *
  refine ⟨hc, ?_⟩
  have gz : GG (sI s4 3585 (cu s) 1) := g4.hx ((Hx0.refl s4).sI (by decide))
  have hy : Hy s (sI s4 3585 (cu s) 1) := by
    refine ⟨fun f i q => ?_, fun a i j q => ?_, fun i j => ?_⟩
    · rw [gI_sI]
      by_cases w : f = 3585 ∧ i = cu s
      · rw [if_pos w, w.1, w.2]
        exact st1.symm
      · rw [if_neg w, j1 f i (fun e => by rw [e] at q; exact absurd q (by decide)) (fun e => by rw [e] at q; exact absurd q (by decide)), i1 f i w]
    · rw [gA_sI, j4 a i j (fun e => by rw [e] at q; exact absurd q (by decide)) (fun e => by rw [e] at q; exact absurd q (by decide)), i4]
    · rw [gB_sI, j5 3 i j (by decide) (by decide), i5]
  have rxz := Rx.hy gz hy hr.2.1
  have rz := hr.rx rxz
  have ecz : cu (sI s4 3585 (cu s) 1) = cu s := hy.1 72 0 (by decide)
  have st : St (sI s4 3585 (cu s) 1) s4 0 := by
    refine ⟨fun f i q => ?_, ?_, fun _ _ => rfl, fun _ _ _ => rfl, fun _ _ _ => rfl⟩
    · rw [ecz] at q
      rw [gI_sI, if_neg q]
    · rw [ecz, j1 3585 _ (by decide) (by decide)]
      exact i2
  have hz : gI (sI s4 3585 (cu s) 1) 2050 0 = 0 := by
    rw [gI_sI, if_neg (fun w => absurd w.1 (by decide)), j1 2050 0 (by decide) (by decide), i1 2050 0 (fun w => absurd w.1 (by decide))]
    exact hh'
  have nz : gI (sI s4 3585 (cu s) 1) 1282 0 ≤ 250 := by
    rw [gI_sI, if_neg (fun w => absurd w.1 (by decide))]
    exact n4
  generalize sI s4 3585 (cu s) 1 = z at *
  have b := back_ok z s4 0 rz (by rw [ecz]; exact c) (Or.inl rfl) st
  rw [ecz] at b
  refine ok_mono b fun _ F ⟨rF, _, I, _, A, _⟩ => ?_
  refine Oz.give rF ?_ ?_ ?_
  · rw [I 2050 0 (by decide) (by decide) (by decide)]
    exact hz
  · rw [I 1282 0 (by decide) (by decide) (by decide)]
    exact nz
  · have q := ms_same (s := z) (z := F) (fun i => I 3586 i (by decide) (by decide) (by decide)) (fun a i j _ => A a i j)
    rw [q.1, rxz.ms.1]
    exact Nat.le_refl _
