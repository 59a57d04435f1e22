/-! Results are taken: rows, jumps, joinings. -/
theorem pc_num {p c : Int32} (h1 : 1 ≤ p) (h2 : p < c) : (0 ≤ p - 1 ∧ p - 1 < c) ∧ p - 1 + 1 = p := ⟨⟨by grind, by grind⟩, by grind⟩
theorem Tk.same {s s' : S1} (h : Tk s) (rx : Rx s s') (e73 : gI s' 73 0 = gI s 73 0) (e20 : gI s' 2050 0 = gI s 2050 0) : Tk s' ∧ cu s' = cu s ∧ tp s' = tp s ∧ pq s' = pq s ∧ bs s' = bs s := by
  obtain ⟨d1, d2, d3, d4⟩ := rx.same h.1 h.2.2.2.1 h.2.2.2.2
  refine ⟨⟨h.1.rx rx, e20.trans h.2.1, e73.trans h.2.2.1, ?_, ?_⟩, d1, d2, d3, d4⟩
  · rw [d2]
    exact h.2.2.2.1
  · rw [d1, d2]
    exact (rx.2.2.2.A 30 (by decide) _ _).trans h.2.2.2.2
theorem tk_row (s : S1) (h : Tk s) (hr : gI s 1282 0 ≤ 250) (hi : t_into s (cu s) (tp s) = iA (wd s (pq s) (t_pc s (cu s) (tp s) - 1))) (hm : mks (wd s (pq s) (t_pc s (cu s) (tp s) - 1))) : ok (oB (oPI 2818 (cu s) 0) fun _ =>
      oB (oW M_Mo_taken_L116 (cu s, tp s, 0)) fun e116 =>
      oB (oAI 38 201 e116.1 e116.2) fun v157 =>
      oB (oSI 35 201 e116.1 e116.2 v157) fun _ =>
      oB (oGI 1282 0) fun v168 =>
      oB (oSI 36 201 e116.1 e116.2 v168) fun _ =>
      M_Mo_taken_j350) s (fun _ s' => Out s' ∧ f_todo s' = 0) := by
  have n := top_num h.1 h.2.2.2.1 h.2.2.2.2
  obtain ⟨pcb, wt⟩ := h.wt
  have wf := (h.1.top h.2.2.2.1 h.2.2.2.2).2.2.2.2.2.2.1.2.2.2.2.2.2.2.1
  obtain ⟨p1, p2⟩ := pc_num wt.1 pcb.2
  have um := (wf _ p1.1 p1.2).2.1 hm
  rw [p2] at um
  rw [ok_B, ok_PI]
  have rx0 : Rx s (sI s 2818 (cu s) 0) := Rx.hx h.1.1 ((Hx0.refl s).sI (by decide)) ((Hy.refl s).sI (by decide)) h.1.2.1
  obtain ⟨k0, c1, c2, c3, c4⟩ := h.same rx0 (by simp only [gI_sI, gI_sL, gI_sA, gI_sB, gI_sAf, gI_sBf, gL_sI, gL_sL, gL_sA, gL_sB, gL_sAf, gL_sBf, gA_sI, gA_sL, gA_sA, gA_sB, gA_sAf, gA_sBf, gB_sI, gB_sL, gB_sA, gB_sB, gB_sAf, gB_sBf, Nat.reduceEqDiff, Nat.reduceMul, Nat.reduceAdd, false_and, true_and, and_true, and_false, if_true, if_false]) (by simp only [gI_sI, gI_sL, gI_sA, gI_sB, gI_sAf, gI_sBf, gL_sI, gL_sL, gL_sA, gL_sB, gL_sAf, gL_sBf, gA_sI, gA_sL, gA_sA, gA_sB, gA_sAf, gA_sBf, gB_sI, gB_sL, gB_sA, gB_sB, gB_sAf, gB_sBf, Nat.reduceEqDiff, Nat.reduceMul, Nat.reduceAdd, false_and, true_and, and_true, and_false, if_true, if_false])
  have A0 : ∀ a i j, gA (sI s 2818 (cu s) 0) a i j = gA s a i j := fun _ _ _ => rfl
  have r0 : gI (sI s 2818 (cu s) 0) 1282 0 = gI s 1282 0 := by simp only [gI_sI, gI_sL, gI_sA, gI_sB, gI_sAf, gI_sBf, gL_sI, gL_sL, gL_sA, gL_sB, gL_sAf, gL_sBf, gA_sI, gA_sL, gA_sA, gA_sB, gA_sAf, gA_sBf, gB_sI, gB_sL, gB_sA, gB_sB, gB_sAf, gB_sBf, Nat.reduceEqDiff, Nat.reduceMul, Nat.reduceAdd, false_and, true_and, and_true, and_false, if_true, if_false]
  have q0 : v_row_n (sI s 2818 (cu s) 0) (cu s) = 0 := by simp only [v_row_n, gI_sI, gI_sL, gI_sA, gI_sB, gI_sAf, gI_sBf, gL_sI, gL_sL, gL_sA, gL_sB, gL_sAf, gL_sBf, gA_sI, gA_sL, gA_sA, gA_sB, gA_sAf, gA_sBf, gB_sI, gB_sL, gB_sA, gB_sB, gB_sAf, gB_sBf, Nat.reduceEqDiff, Nat.reduceMul, Nat.reduceAdd, false_and, true_and, and_true, and_false, if_true, if_false]
  generalize sI s 2818 (cu s) 0 = s0 at *
  rw [ok_B]
  have lp := tk116_ok s0 k0 (by rw [r0]; exact hr) (by rw [c1]; exact q0)
  rw [c1, c2] at lp
  refine ok_mono lp fun y z ⟨ey, rx, rq, en, hv⟩ => ?_
  rw [ey]
  have e1 : gI z 1282 0 = gI s 1282 0 := (rq.1 1282 0 (by decide)).trans r0
  have e38 : gA z 38 (cu s) (tp s) = t_into s (cu s) (tp s) := (rq.2.2.1 38 _ _ (by decide)).trans (A0 38 _ _)
  simp only [ok_B, ok_C, ok_R, ok_L, ok_K, ok_GI, ok_GL, ok_PI, ok_PL, ok_AI, ok_AL, ok_SI, ok_SL, ok_Pr, ok_CI, cmp_lt, cmp_le, cmp_gt, cmp_ge, cmp_eq, nar0, nar1, Sum.elim_inl, Sum.elim_inr]
  simp only [gI_sA]
  rw [e38, e1]
  refine ⟨n.2.2, n.2.2, n.2.2, ?_⟩
  have kz := (k0.same rx (rq.1 73 0 (by decide)) (rq.1 2050 0 (by decide)))
  rw [c1, c2, c3, c4] at kz
  obtain ⟨tz, z1, z2, z3, z4⟩ := kz
  have hpl : 0 ≤ t_place z (cu s) := by
    have w := tz.1.2.2.2.2.1.2.2.2.2.2.2.2.2.1 0 tz.1.2.2.2.2.1.1.1
    have w2 : 0 ≤ t_place z (cu z) := w
    rw [z1] at w2
    exact w2
  have hn0 : 0 ≤ gI s 1282 0 := h.1.1.2.2.2.1.2.2.1.1
  have g := tz.1.1.th (rowSet_th (f := tp s) (a := t_into s (cu s) (tp s)) (n := gI s 1282 0) tz.1.1 n.1 hpl ⟨hn0, Int32.le_trans hr (by decide)⟩ (fun q a b => by
    have w := hv q a (by rw [r0]; exact b)
    rw [c1] at w
    exact rq.lv.mpr w))
  have hf : Fr false (sA (sA z 35 (cu s) (tp s) (t_into s (cu s) (tp s))) 36 (cu s) (tp s) (gI s 1282 0)) := tz.1.weak.2.2.topz ⟨fun _ _ _ => rfl, fun x u w q p => by
    rw [z1, z2] at p
    rw [gA_sA, if_neg, gA_sA, if_neg]
    · rintro ⟨y1, y2, y3⟩
      rcases p with p | p
      · exact p.2.1 y1
      · exact p ⟨y2, y3⟩
    · rintro ⟨y1, y2, y3⟩
      rcases p with p | p
      · exact p.2.2.1 y1
      · exact p ⟨y2, y3⟩, fun _ _ => rfl⟩
  have eA1 : ∀ x u w, x ≠ 35 → x ≠ 36 → gA (sA (sA z 35 (cu s) (tp s) (t_into s (cu s) (tp s))) 36 (cu s) (tp s) (gI s 1282 0)) x u w = gA z x u w := fun x u w p q => by simp only [gI_sI, gI_sL, gI_sA, gI_sB, gI_sAf, gI_sBf, gL_sI, gL_sL, gL_sA, gL_sB, gL_sAf, gL_sBf, gA_sI, gA_sL, gA_sA, gA_sB, gA_sAf, gA_sBf, gB_sI, gB_sL, gB_sA, gB_sB, gB_sAf, gB_sBf, Nat.reduceEqDiff, Nat.reduceMul, Nat.reduceAdd, false_and, true_and, and_true, and_false, if_true, if_false, p, q]
  have eA2 : ∀ x u w, x ≠ 35 → x ≠ 36 → x ≠ 23 → gA (sA (sA z 35 (cu s) (tp s) (t_into s (cu s) (tp s))) 36 (cu s) (tp s) (gI s 1282 0)) x u w = gA s x u w := fun x u w p q r => (eA1 x u w p q).trans ((rq.2.2.1 x u w r).trans (A0 x u w))
  have eI : ∀ f u, gI (sA (sA z 35 (cu s) (tp s) (t_into s (cu s) (tp s))) 36 (cu s) (tp s) (gI s 1282 0)) f u = gI z f u := fun _ _ => rfl
  have e35 : gA (sA (sA z 35 (cu s) (tp s) (t_into s (cu s) (tp s))) 36 (cu s) (tp s) (gI s 1282 0)) 35 (cu s) (tp s) = t_into s (cu s) (tp s) := by simp only [gI_sI, gI_sL, gI_sA, gI_sB, gI_sAf, gI_sBf, gL_sI, gL_sL, gL_sA, gL_sB, gL_sAf, gL_sBf, gA_sI, gA_sL, gA_sA, gA_sB, gA_sAf, gA_sBf, gB_sI, gB_sL, gB_sA, gB_sB, gB_sAf, gB_sBf, Nat.reduceEqDiff, Nat.reduceMul, Nat.reduceAdd, false_and, true_and, and_true, and_false, if_true, if_false]
  generalize sA (sA z 35 (cu s) (tp s) (t_into s (cu s) (tp s))) 36 (cu s) (tp s) (gI s 1282 0) = s2 at *
  have m1 : cu s2 = cu s := (eI 72 0).trans z1
  have m2 : tp s2 = tp s := by
    rw [← z2]
    show gI s2 3586 (cu s2) - 1 = gI z 3586 (cu z) - 1
    rw [eI, m1, z1]
  have m3 : pq s2 = pq s := by
    show gA s2 62 0 (gA s2 31 (cu s2) (tp s2)) = gA s 62 0 (gA s 31 (cu s) (tp s))
    rw [m1, m2, eA2 31 _ _ (by decide) (by decide) (by decide), eA1 62 _ _ (by decide) (by decide)]
    have w := z3
    have w2 : gA z 62 0 (gA z 31 (cu z) (tp z)) = gA s 62 0 (gA s 31 (cu s) (tp s)) := w
    have e31 : gA z 31 (cu z) (tp z) = gA s 31 (cu s) (tp s) := by
      rw [z1, z2]
      exact (rq.2.2.1 31 _ _ (by decide)).trans (A0 31 _ _)
    rw [e31] at w2
    exact w2
  have m5 : ∀ p q, wd s2 p q = wd s p q := fun p q => by
    show gA s2 55 0 (gA s2 49 0 p + q) = gA s 55 0 (gA s 49 0 p + q)
    rw [eA2 49 _ _ (by decide) (by decide) (by decide), eA2 55 _ _ (by decide) (by decide) (by decide)]
  have m6 : t_pc s2 (cu s) (tp s) = t_pc s (cu s) (tp s) := eA2 32 _ _ (by decide) (by decide) (by decide)
  have m7 : t_rowAt s2 (cu s) (tp s) = t_into s (cu s) (tp s) := e35
  have m8 : a_codes s2 (pq s) = a_codes s (pq s) := eA2 50 _ _ (by decide) (by decide) (by decide)
  have m9 : t_kind s2 (cu s) (tp s) = 0 := (eA2 30 _ _ (by decide) (by decide) (by decide)).trans h.2.2.2.2
  refine fin350 ⟨g, (eI 92 0).trans tz.1.2.1, hf⟩ ((eI 2050 0).trans tz.2.1) ((eI 73 0).trans tz.2.2.1) ?_
  unfold Run
  rw [m1, m2, m3, m6, m7, m8]
  simp only [m5]
  exact ⟨h.2.2.2.1, m9, pcb, fun _ => um.1, fun _ => hi⟩
theorem tk_jump (s : S1) (h : Tk s) (hg : Gs s (pq s) (t_pc s (cu s) (tp s) + 1)) : ok M_Mo_taken_j350 (sA s 32 (cu s) (tp s) (t_pc s (cu s) (tp s) + 1)) (fun _ s' => Out s' ∧ f_todo s' = 0) := by
  have r0 := h.wt.2.2.1
  have g : GG (sA s 32 (cu s) (tp s) (t_pc s (cu s) (tp s) + 1)) := h.1.1.hx ((Hx0.refl s).sA (by decide))
  have f : Fr false (sA s 32 (cu s) (tp s) (t_pc s (cu s) (tp s) + 1)) := h.1.weak.2.2.topz ⟨fun _ _ _ => rfl, fun a u v q p => by
    rw [gA_sA, if_neg]
    rintro ⟨e1, e2, e3⟩
    rcases p with p | p
    · exact p.1 e1
    · exact p ⟨e2, e3⟩, fun _ _ => rfl⟩
  have e4 : t_pc (sA s 32 (cu s) (tp s) (t_pc s (cu s) (tp s) + 1)) (cu s) (tp s) = t_pc s (cu s) (tp s) + 1 := by simp only [t_pc, gI_sI, gI_sL, gI_sA, gI_sB, gI_sAf, gI_sBf, gL_sI, gL_sL, gL_sA, gL_sB, gL_sAf, gL_sBf, gA_sI, gA_sL, gA_sA, gA_sB, gA_sAf, gA_sBf, gB_sI, gB_sL, gB_sA, gB_sB, gB_sAf, gB_sBf, Nat.reduceEqDiff, Nat.reduceMul, Nat.reduceAdd, false_and, true_and, and_true, and_false, if_true, if_false]
  have eA : ∀ a i j, a ≠ 32 → gA (sA s 32 (cu s) (tp s) (t_pc s (cu s) (tp s) + 1)) a i j = gA s a i j := fun a i j q => by simp only [gI_sI, gI_sL, gI_sA, gI_sB, gI_sAf, gI_sBf, gL_sI, gL_sL, gL_sA, gL_sB, gL_sAf, gL_sBf, gA_sI, gA_sL, gA_sA, gA_sB, gA_sAf, gA_sBf, gB_sI, gB_sL, gB_sA, gB_sB, gB_sAf, gB_sBf, Nat.reduceEqDiff, Nat.reduceMul, Nat.reduceAdd, false_and, true_and, and_true, and_false, if_true, if_false, q]
  have eI : ∀ f i, gI (sA s 32 (cu s) (tp s) (t_pc s (cu s) (tp s) + 1)) f i = gI s f i := fun _ _ => rfl
  obtain ⟨j1, j2, j3⟩ := hg
  generalize sA s 32 (cu s) (tp s) (t_pc s (cu s) (tp s) + 1) = s2 at *
  have m1 : cu s2 = cu s := eI 72 0
  have m2 : tp s2 = tp s := by
    show gI s2 3586 (cu s2) - 1 = gI s 3586 (cu s) - 1
    rw [m1, eI]
  have m3 : pq s2 = pq s := by
    show gA s2 62 0 (gA s2 31 (cu s2) (tp s2)) = gA s 62 0 (gA s 31 (cu s) (tp s))
    rw [m1, m2, eA 31 _ _ (by decide), eA 62 _ _ (by decide)]
  have m5 : ∀ p q, wd s2 p q = wd s p q := fun p q => by
    show gA s2 55 0 (gA s2 49 0 p + q) = gA s 55 0 (gA s 49 0 p + q)
    rw [eA 49 _ _ (by decide), eA 55 _ _ (by decide)]
  have m8 : a_codes s2 (pq s) = a_codes s (pq s) := eA 50 _ _ (by decide)
  have m9 : t_kind s2 (cu s) (tp s) = 0 := (eA 30 _ _ (by decide)).trans h.2.2.2.2
  have m10 : t_rowCount s2 (cu s) (tp s) = 0 := (eA 36 _ _ (by decide)).trans r0
  refine fin350 ⟨g, (eI 92 0).trans h.1.2.1, f⟩ ((eI 2050 0).trans h.2.1) ((eI 73 0).trans h.2.2.1) ?_
  unfold Run
  rw [m1, m2, m3, e4, m8, m10]
  simp only [m5]
  exact ⟨h.2.2.2.1, m9, ⟨j1, j2⟩, fun z => absurd rfl z, fun z => absurd z j3⟩
theorem Out.res0 {s : S1} (h : Out s) : Out (sI s 1282 0 0) ∧ f_todo (sI s 1282 0 0) = f_todo s ∧ Rx s (sI s 1282 0 0) := by
  obtain ⟨g, nc, hh, w⟩ := h
  have ag := zero10 g
  have rx := ag.rx (Or.inr (Or.inl rfl)) nc
  have fr : ∀ τ, Fr τ s → Fr τ (sI s 1282 0 0) := fun τ k => k.fe (rx.2.2.1 k.2.2.1)
  have et : f_todo (sI s 1282 0 0) = f_todo s := ag.2.1 73 0 (by decide)
  have ea : v_args_n (sI s 1282 0 0) = v_args_n s := ag.2.1 898 0 (by decide)
  have er : v_results_n (sI s 1282 0 0) = 0 := by simp only [v_results_n, gI_sI, gI_sL, gI_sA, gI_sB, gI_sAf, gI_sBf, gL_sI, gL_sL, gL_sA, gL_sB, gL_sAf, gL_sBf, gA_sI, gA_sL, gA_sA, gA_sB, gA_sAf, gA_sBf, gB_sI, gB_sL, gB_sA, gB_sB, gB_sAf, gB_sBf, Nat.reduceEqDiff, Nat.reduceMul, Nat.reduceAdd, false_and, true_and, and_true, and_false, if_true, if_false]
  have ec : cu (sI s 1282 0 0) = cu s := ag.2.1 72 0 (by decide)
  refine ⟨⟨rx.1, rx.2.1, (ag.2.1 2050 0 (by decide)).trans hh, ?_⟩, et, rx⟩
  rw [et, ea, er]
  rcases w with w | w | w | w
  · refine Or.inl ⟨w.1, fr _ w.2.1, w.2.2.of ec ?_ (fun a q i j => rfl)⟩
    show gI (sI s 1282 0 0) 3586 (cu (sI s 1282 0 0)) - 1 = gI s 3586 (cu s) - 1
    rw [ec, ag.2.1 3586 _ (by decide)]
  · exact Or.inr (Or.inl ⟨w.1, fr _ w.2⟩)
  · exact Or.inr (Or.inr (Or.inl ⟨w.1, fr _ w.2.1, w.2.2⟩))
  · exact Or.inr (Or.inr (Or.inr ⟨w.1, fr _ w.2.1, by decide⟩))
/-- what a function's taking leaves of what there is to do -/
def Tj (b s : S1) : Prop := f_todo s = 0 ∨ (jA s ≤ jA b ∧ sF s = sF b ∧ rN s = rN b ∧ (f_todo s = 1 → jA s < jA b) ∧ f_todo s ≠ 2)
theorem step_lt {a b : Int32} (h0 : 0 ≤ a) (h1 : a ≤ b - 1) (hb : 0 ≤ b ∧ b ≤ 511) : min (a + 1).toNatClampNeg 512 < min (b + 1).toNatClampNeg 512 := by
  have c0 : (0 : Int32).toInt = 0 := rfl
  have c1 : (1 : Int32).toInt = 1 := rfl
  have c5 : (511 : Int32).toInt = 511 := rfl
  simp only [i32_le, c0, c5] at *
  have y1 := tI_sub (a := b) (b := 1) (by omega)
  have y2 := tI_add (a := b) (b := 1) (by omega)
  have y3 := tI_add (a := a) (b := 1) (by omega)
  unfold Int32.toNatClampNeg
  omega
theorem Jn.tj {s s' : S1} {n : Int32} (hc : 0 ≤ cu s ∧ cu s < 33) (hf : 0 ≤ t_frames s (cu s) ∧ t_frames s (cu s) ≤ 200) (h0 : 0 ≤ tp s) (hk : t_kind s (cu s) (tp s) = 0) (hm : t_mode s (cu s) (tp s) = 4) (hs : n = t_step s (cu s) (tp s) - 1) (hb : 0 ≤ t_step s (cu s) (tp s) ∧ t_step s (cu s) (tp s) ≤ 511) (h : Jn s s' n) : Tj s s' := by
  obtain ⟨j1, j2, j3, j4, j5, j6, j7⟩ := h
  have ef : ∀ t, fN s' t = fN s t := fun t => by
    unfold fN
    rw [(j1 t).1]
  have same : ∀ t f, ¬ (t = cu s ∧ f = tp s) → q_jf s' t f = q_jf s t f := fun t f q => by
    unfold q_jf
    rw [j2, (j3 t f q).1, (j3 t f q).2]
  have lt : (0 ≤ t_step s' (cu s) (tp s) ∧ t_step s' (cu s) (tp s) ≤ n) → q_jf s' (cu s) (tp s) < q_jf s (cu s) (tp s) := fun w => by
    rw [hs] at w
    have k := step_lt w.1 w.2 hb
    have e : q_jf s (cu s) (tp s) = min (t_step s (cu s) (tp s) + 1).toNatClampNeg 512 := if_pos ⟨hk, hm⟩
    rw [e]
    unfold q_jf
    by_cases c : t_kind s' (cu s) (tp s) = 0 ∧ t_mode s' (cu s) (tp s) = 4
    · rw [if_pos c]
      exact k
    · rw [if_neg c]
      omega
  have le : q_jf s' (cu s) (tp s) ≤ q_jf s (cu s) (tp s) := by
    rcases j5 with w | w
    · unfold q_jf
      rw [j2, w.1, w.2]
      exact Nat.le_refl _
    · exact Nat.le_of_lt (lt w)
  have all : ∀ t f, q_jf s' t f ≤ q_jf s t f := fun t f => by
    by_cases c : t = cu s ∧ f = tp s
    · rw [c.1, c.2]
      exact le
    · rw [same t f c]
      exact Nat.le_refl _
  have jl : ∀ t, jt s' t ≤ jt s t := fun t => by
    unfold jt
    rw [ef]
    exact sum_le fun n _ => all t _
  have c33 : (33 : Int32).toNatClampNeg = 33 := rfl
  have hl := clamp_lt hc.1 hc.2
  rw [c33] at hl
  have ltf : (tp s).toNatClampNeg < fN s (cu s) := by
    rw [fN_of hf]
    exact clamp_lt h0 (tp_num hf h0).1
  refine Or.inr ⟨sum_le fun n _ => jl _, sum_eq fun n _ => ef _, ?_, fun z => ?_, j7⟩
  · unfold rN
    simp only [(j1 _).2]
  · refine sum_lt (k := (cu s).toNatClampNeg) hl (fun n _ => jl _) ?_
    rw [q_ofNat_clamp hc.1]
    unfold jt
    rw [ef]
    refine sum_lt (k := (tp s).toNatClampNeg) ltf (fun n _ => all _ _) ?_
    rw [q_ofNat_clamp h0]
    exact lt (j6 z)
theorem tk_join (s : S1) (k : Int32) (v : Int64) (h : Tk s) (hm : t_mode s (cu s) (tp s) = 4) (ho : iO (wd s (pq s) (t_pc s (cu s) (tp s) - 1)) = 29) (hs : iB (wd s (pq s) (t_pc s (cu s) (tp s) - 1)) ≤ t_step s (cu s) (tp s) ∧ t_step s (cu s) (tp s) < iC (wd s (pq s) (t_pc s (cu s) (tp s) - 1))) (hv : Vl false s k v) : ok (oB (oPI 1282 0 0) fun _ =>
    oB (oAI 40 201 (cu s) (tp s)) fun v337 =>
    oB (M_Mo_join (cu s) (tp s) (v337 - 1) k v) fun _ =>
    M_Mo_taken_j350) s (fun _ s' => Out s' ∧ Tj s s') := by
  have n := top_num h.1 h.2.2.2.1 h.2.2.2.2
  have hpl : 0 ≤ t_place s (cu s) := h.1.2.2.2.2.1.2.2.2.2.2.2.2.2.1 0 n.1.1
  have hfr := (h.1.1.thr n.1 hpl).1.2.1
  obtain ⟨pcb, wt⟩ := h.wt
  obtain ⟨p1, p2⟩ := pc_num wt.1 pcb.2
  have bb := iB_in (wd s (pq s) (t_pc s (cu s) (tp s) - 1))
  have cc := iC_in (wd s (pq s) (t_pc s (cu s) (tp s) - 1))
  have st : (0 ≤ t_step s (cu s) (tp s) ∧ t_step s (cu s) (tp s) ≤ 511) ∧ -1 ≤ t_step s (cu s) (tp s) - 1 ∧ t_step s (cu s) (tp s) - 1 < iC (wd s (pq s) (t_pc s (cu s) (tp s) - 1)) := by
    generalize t_step s (cu s) (tp s) = a at *
    generalize iB (wd s (pq s) (t_pc s (cu s) (tp s) - 1)) = b at *
    generalize iC (wd s (pq s) (t_pc s (cu s) (tp s) - 1)) = c at *
    clear wt p2 p1 pcb hfr hpl n ho hm h
    obtain ⟨s1, s2⟩ := hs
    obtain ⟨b1, b2⟩ := bb
    obtain ⟨c1, c2⟩ := cc
    refine ⟨⟨by grind, by grind⟩, by grind, by grind⟩
  simp only [ok_B, ok_C, ok_R, ok_L, ok_K, ok_GI, ok_GL, ok_PI, ok_PL, ok_AI, ok_AL, ok_SI, ok_SL, ok_Pr, ok_CI, cmp_lt, cmp_le, cmp_gt, cmp_ge, cmp_eq, nar0, nar1, Sum.elim_inl, Sum.elim_inr]
  simp only [gA_sI]
  refine ⟨n.2.2, ?_⟩
  have ag := zero10 h.1.1
  have rx := ag.rx (Or.inr (Or.inl rfl)) h.1.2.1
  obtain ⟨k1, c1, c2, c3, c4⟩ := h.same rx (ag.2.1 73 0 (by decide)) (ag.2.1 2050 0 (by decide))
  have m := rx.ms
  have mr := rx.rn
  have A0 : ∀ a i j, gA (sI s 1282 0 0) a i j = gA s a i j := fun _ _ _ => rfl
  have hv1 : Vl false (sI s 1282 0 0) k v := (Vl.hs ag.h10).mpr hv
  have F0 : ∀ t, t_frames (sI s 1282 0 0) t = t_frames s t := fun t => ag.2.1 3586 t (by decide)
  generalize sI s 1282 0 0 = z at *
  have ew : ∀ p j, wd z p j = wd s p j := fun p j => by
    show gA z 55 0 (gA z 49 0 p + j) = gA s 55 0 (gA s 49 0 p + j)
    rw [A0, A0]
  have ic : Ic z (t_pc s (cu s) (tp s) - 1) := by
    refine ⟨k1.1.weak, ⟨k1.2.2.2.1, k1.2.2.2.2, ?_, ?_, fun w => ?_, fun w => ?_⟩, k1.2.2.1, k1.2.1⟩
    · rw [c1, c2, p2]
      exact A0 32 _ _
    · rw [c3]
      show 0 ≤ _ ∧ _ < gA z 50 0 (pq s)
      rw [A0]
      exact p1
    · rw [c1, c2] at w
      exact absurd ((A0 36 _ _).trans wt.2.1) w
    · rw [c3, ew] at w
      have q := w.1
      rw [ho] at q
      exact absurd q (by decide)
  have jo := join_ok z (t_pc s (cu s) (tp s) - 1) (t_step s (cu s) (tp s) - 1) k v ic (by rw [c3, ew]; exact ho) hv1 (by rw [c3, ew]; exact st.2)
  rw [c1, c2] at jo
  refine ok_mono jo fun _ s2 ⟨o2, j2⟩ => ?_
  have tj := j2.tj (by rw [c1]; exact n.1) (by rw [c1, F0]; exact hfr) (by rw [c2]; exact h.2.2.2.1) k1.2.2.2.2 (by rw [c1, c2]; exact (A0 37 _ _).trans hm) (by rw [c1, c2]; show _ = gA z 40 _ _ - 1; rw [A0]) (by rw [c1, c2]; show 0 ≤ gA z 40 _ _ ∧ gA z 40 _ _ ≤ 511; rw [A0]; exact st.1)
  simp only [M_Mo_taken_j350, ok_B, ok_C, ok_R, ok_L, ok_K, ok_GI, ok_GL, ok_PI, ok_PL, ok_AI, ok_AL, ok_SI, ok_SL, ok_Pr, ok_CI, cmp_lt, cmp_le, cmp_gt, cmp_ge, cmp_eq, nar0, nar1, Sum.elim_inl, Sum.elim_inr]
  obtain ⟨o3, t3, rx3⟩ := o2.res0
  refine ⟨o3, ?_⟩
  unfold Tj at *
  rw [t3, rx3.ms.1, rx3.ms.2, rx3.rn, ← m.1, ← m.2, ← mr]
  exact tj
theorem taken55_ok (s : S1) (k : Int32) (v : Int64) (h : Tk s) (hr : gI s 1282 0 ≤ 250) (hv : Vl false s k v) : ok (M_Mo_taken_j55 (cu s) (tp s) (bs s) k v) s (fun _ s' => Out s' ∧ Tj s s') := by
  have n := top_num h.1 h.2.2.2.1 h.2.2.2.2
  obtain ⟨pcb, wt⟩ := h.wt
  obtain ⟨w1, w2, w3⟩ := wt
  have D : ∀ {f : M Unit}, ok f s (fun _ s' => Out s' ∧ f_todo s' = 0) → ok f s (fun _ s' => Out s' ∧ Tj s s') := fun w => ok_mono w fun _ _ q => ⟨q.1, Or.inl q.2⟩
  have em : gA s 37 (cu s) (tp s) = t_mode s (cu s) (tp s) := rfl
  unfold M_Mo_taken_j55
  rw [ok_B, ok_AI]
  refine ⟨n.2.2, ?_⟩
  rw [em, ok_C]
  refine ⟨fun c => ?_, fun c => ?_⟩
  · have w0 : (t_want s (cu s) (tp s) < 0 ∧ t_into s (cu s) (tp s) = iA (wd s (pq s) (t_pc s (cu s) (tp s) - 1)) ∧ mks (wd s (pq s) (t_pc s (cu s) (tp s) - 1))) ∨ (0 ≤ t_want s (cu s) (tp s) ∧ 0 ≤ t_into s (cu s) (tp s) ∧ t_into s (cu s) (tp s) ≤ 300 ∧ t_want s (cu s) (tp s) ≤ 600 ∧ t_into s (cu s) (tp s) + t_want s (cu s) (tp s) ≤ a_registers s (pq s) ∧ ¬ us (wd s (pq s) (t_pc s (cu s) (tp s)))) := by
      rcases w3 with w | w | w | w | w
      · exact w.2
      all_goals exact absurd (w.1.symm.trans c) (by decide)
    rw [ok_B, ok_AI]
    refine ⟨n.2.2, ?_⟩
    rw [ok_C]
    refine ⟨fun cw => ?_, fun cw => ?_⟩
    · have cw' : 0 ≤ t_want s (cu s) (tp s) := cw
      rcases w0 with w | w
      · exact absurd (Int32.lt_of_le_of_lt cw' w.1) Int32.lt_irrefl
      · refine D ?_
        rw [ok_B]
        exact ok_mono (tk178_ok s h ⟨w.1, w.2.1, w.2.2.1, w.2.2.2.1, w.2.2.2.2.1⟩) fun _ z sk => fin350k h (h.run w.2.2.2.2.2) sk
    · have cw' : ¬ 0 ≤ t_want s (cu s) (tp s) := cw
      rcases w0 with w | w
      · exact D (tk_row s h hr w.2.1 w.2.2)
      · exact absurd w.1 cw'
  rw [ok_C]
  refine ⟨fun c1 => ?_, fun c1 => ?_⟩
  · have w0 : 0 ≤ t_into s (cu s) (tp s) ∧ t_into s (cu s) (tp s) < a_registers s (pq s) ∧ ¬ us (wd s (pq s) (t_pc s (cu s) (tp s))) := by
      rcases w3 with w | w | w | w | w
      · exact absurd (w.1.symm.trans c1) (by decide)
      · exact w.2
      all_goals exact absurd (w.1.symm.trans c1) (by decide)
    obtain ⟨-, -, -, -, -, -, -, -, -, -, t11, -⟩ := h.1.top h.2.2.2.1 h.2.2.2.2
    obtain ⟨x1, -⟩ := t11 _ w0.1 w0.2.1
    refine D ?_
    rw [ok_B, ok_AI]
    refine ⟨n.2.2, ?_⟩
    rw [ok_B]
    exact ok_mono (setS_rx s (cu s) (bs s + t_into s (cu s) (tp s)) k v h.1.1 h.1.2.1 ⟨x1.1, Int32.lt_trans x1.2 (by decide)⟩ hv) fun _ z ⟨ez, rx⟩ => fin350k h (h.run w0.2.2) ((Sk.refl h.1.1).cell rx.1 ez)
  rw [ok_C]
  refine ⟨fun c2 => ?_, fun c2 => ?_⟩
  · have w0 : ¬ us (wd s (pq s) (t_pc s (cu s) (tp s))) ∧ Gs s (pq s) (t_pc s (cu s) (tp s) + 1) := by
      rcases w3 with w | w | w | w | w
      · exact absurd (w.1.symm.trans c2) (by decide)
      · exact absurd (w.1.symm.trans c2) (by decide)
      · exact w.2
      all_goals exact absurd (w.1.symm.trans c2) (by decide)
    have stay := fin350k h (h.run w0.1) (Sk.refl h.1.1)
    have go := tk_jump s h w0.2
    have j305 : ∀ a b, ok (M_Mo_taken_j305 (cu s) (tp s) a b) s (fun _ s' => Out s' ∧ f_todo s' = 0) := fun a b => by
      unfold M_Mo_taken_j305
      rw [ok_C]
      refine ⟨fun _ => stay, fun _ => ?_⟩
      rw [ok_B, ok_AI]
      refine ⟨n.2.2, ?_⟩
      rw [ok_B, ok_SI]
      exact ⟨n.2.2, go⟩
    have j290 : ∀ a, ok (M_Mo_taken_j290 (cu s) (tp s) a) s (fun _ s' => Out s' ∧ f_todo s' = 0) := fun a => by
      unfold M_Mo_taken_j290
      rw [ok_B, ok_AI]
      refine ⟨n.2.2, ?_⟩
      rw [ok_C]
      exact ⟨fun _ => j305 1 a, fun _ => j305 0 a⟩
    refine D ?_
    rw [ok_C]
    exact ⟨fun _ => j290 0, fun _ => j290 1⟩
  rw [ok_C]
  refine ⟨fun c4 => ?_, fun c4 => ?_⟩
  · have w0 : iO (wd s (pq s) (t_pc s (cu s) (tp s) - 1)) = 29 ∧ iB (wd s (pq s) (t_pc s (cu s) (tp s) - 1)) ≤ t_step s (cu s) (tp s) ∧ t_step s (cu s) (tp s) < iC (wd s (pq s) (t_pc s (cu s) (tp s) - 1)) := by
      rcases w3 with w | w | w | w | w
      · exact absurd (w.1.symm.trans c4) (by decide)
      · exact absurd (w.1.symm.trans c4) (by decide)
      · exact absurd (w.1.symm.trans c4) (by decide)
      · exact absurd (w.1.symm.trans c4) (by decide)
      · exact w.2.2
    exact tk_join s k v h c4 w0.1 w0.2 hv
  · have w0 : ¬ us (wd s (pq s) (t_pc s (cu s) (tp s))) := by
      rcases w3 with w | w | w | w | w
      · exact absurd w.1 c
      · exact absurd w.1 c1
      · exact absurd w.1 c2
      · exact w.2
      · exact absurd w.1 c4
    exact D (fin350k h (h.run w0) (Sk.refl h.1.1))
theorem taken_ok (s : S1) (h : Tk s) (hr : gI s 1282 0 ≤ 250) : ok (M_Mo_taken (cu s) (tp s)) s (fun _ s' => Out s' ∧ Tj s s') := by
  have n := top_num h.1 h.2.2.2.1 h.2.2.2.2
  have rv : ¬ gI s 1282 0 ≤ 0 → Vl false s (gA s 11 0 0) (gB s 12 0 0) := fun c => h.1.1.2.2.2.1.2.2.2.2.2.2.1 0 (by decide) (Int32.not_le.mp c)
  simp only [M_Mo_taken, M_Mo_taken_j30, ok_B, ok_C, ok_R, ok_L, ok_K, ok_GI, ok_GL, ok_PI, ok_PL, ok_AI, ok_AL, ok_SI, ok_SL, ok_Pr, ok_CI, cmp_lt, cmp_le, cmp_gt, cmp_ge, cmp_eq, nar0, nar1, Sum.elim_inl, Sum.elim_inr]
  refine ⟨n.2.2, fun c => ⟨fun _ => taken55_ok s 0 0 h hr (Or.inl ⟨by decide, by decide⟩), fun c2 => absurd c c2⟩, fun c => ⟨⟨by decide, by decide⟩, fun c2 => absurd c2 c, fun _ => ⟨⟨by decide, by decide⟩, taken55_ok s _ _ h hr (rv c)⟩⟩⟩
