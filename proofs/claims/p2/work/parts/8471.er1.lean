/-! An error: frames are left, a thread ends, the program halts. -/
theorem cut_num {n m : Int32} (hn : 0 ≤ n ∧ n ≤ 200) (hm : 0 ≤ m ∧ (m ≤ n - 1 ∨ m = 0)) : (0 ≤ m ∧ m ≤ 200) ∧ m ≤ n ∧ (∀ g, g < m → g < n) ∧ (∀ g, 0 ≤ g → g < m → g < n - 1) ∧ (0 ≤ m - 1 → m - 1 < n - 1 ∧ m - 1 < n) := by
  obtain ⟨h0, h1⟩ := hm
  rcases h1 with h1 | h1
  · exact ⟨⟨h0, by grind⟩, by grind, fun g a => by grind, fun g a b => by grind, fun a => ⟨by grind, by grind⟩⟩
  · subst h1
    exact ⟨⟨by decide, by decide⟩, hn.1, fun g a => by grind, fun g a b => by grind, fun a => absurd a (by decide)⟩
theorem cut_th {s : S1} {t m : Int32} (h : GG s) (ht : 0 ≤ t ∧ t < 33) (hp : 0 ≤ t_place s t) (hm : 0 ≤ m ∧ m ≤ t_frames s t) (hr : 0 ≤ m - 1 → t_kind s t (m - 1) = 0 → t_rowCount s t (m - 1) = 0) : Tw2 s (sI s 3586 t m) t := by
  obtain ⟨⟨q1, q2, q3, q4⟩, p1, p2, p3⟩ := h.thr ht hp
  have ef : t_frames (sI s 3586 t m) t = m := by simp only [t_frames, gI_sI, gI_sL, gI_sA, gI_sB, gI_sAf, gI_sBf, gL_sI, gL_sL, gL_sA, gL_sB, gL_sAf, gL_sBf, gA_sI, gA_sL, gA_sA, gA_sB, gA_sAf, gA_sBf, gB_sI, gB_sL, gB_sA, gB_sB, gB_sAf, gB_sBf, Nat.reduceEqDiff, Nat.reduceMul, Nat.reduceAdd, false_and, true_and, and_true, and_false, if_true, if_false]
  have lv : ∀ k v, Vl false (sI s 3586 t m) k v ↔ Vl false s k v := fun k v => by
    unfold Vl Lv
    simp only [f_used, a_sort, a_marked, gI_sI, gI_sL, gI_sA, gI_sB, gI_sAf, gI_sBf, gL_sI, gL_sL, gL_sA, gL_sB, gL_sAf, gL_sBf, gA_sI, gA_sL, gA_sA, gA_sB, gA_sAf, gA_sBf, gB_sI, gB_sL, gB_sA, gB_sB, gB_sAf, gB_sBf, Nat.reduceEqDiff, Nat.reduceMul, Nat.reduceAdd, false_and, true_and, and_true, and_false, if_true, if_false]
  have lw : ∀ x k, Lv false (sI s 3586 t m) x k ↔ Lv false s x k := fun x k => by
    unfold Lv
    simp only [f_used, a_sort, a_marked, gI_sI, gI_sL, gI_sA, gI_sB, gI_sAf, gI_sBf, gL_sI, gL_sL, gL_sA, gL_sB, gL_sAf, gL_sBf, gA_sI, gA_sL, gA_sA, gA_sB, gA_sAf, gA_sBf, gB_sI, gB_sL, gB_sA, gB_sB, gB_sAf, gB_sBf, Nat.reduceEqDiff, Nat.reduceMul, Nat.reduceAdd, false_and, true_and, and_true, and_false, if_true, if_false]
  refine ⟨fun f i q => ?_, fun _ _ => rfl, fun _ _ _ _ => rfl, fun _ _ _ _ => rfl, ⟨?_, ?_, ?_, fun g a b => ?_⟩, ?_, fun g a b => ?_, ?_⟩
  · rw [gI_sI, if_neg]
    rintro ⟨e1, e2⟩
    rcases q with q | q
    · exact q.2 e1
    · exact q e2
  · simp only [v_start_n, gI_sI, gI_sL, gI_sA, gI_sB, gI_sAf, gI_sBf, gL_sI, gL_sL, gL_sA, gL_sB, gL_sAf, gL_sBf, gA_sI, gA_sL, gA_sA, gA_sB, gA_sAf, gA_sBf, gB_sI, gB_sL, gB_sA, gB_sB, gB_sAf, gB_sBf, Nat.reduceEqDiff, Nat.reduceMul, Nat.reduceAdd, false_and, true_and, and_true, and_false, if_true, if_false]
    exact q1
  · rw [ef]
    exact ⟨hm.1, Int32.le_trans hm.2 q2.2⟩
  · simp only [t_openCount, gI_sI, gI_sL, gI_sA, gI_sB, gI_sAf, gI_sBf, gL_sI, gL_sL, gL_sA, gL_sB, gL_sAf, gL_sBf, gA_sI, gA_sL, gA_sA, gA_sB, gA_sAf, gA_sBf, gB_sI, gB_sL, gB_sA, gB_sB, gB_sAf, gB_sBf, Nat.reduceEqDiff, Nat.reduceMul, Nat.reduceAdd, false_and, true_and, and_true, and_false, if_true, if_false]
    exact q3
  · rw [ef] at b
    exact q4 g a (Int32.lt_of_lt_of_le b hm.2)
  · simp only [lv]
    simp only [v_start_n, v_start_k, v_start_v, gI_sI, gI_sL, gI_sA, gI_sB, gI_sAf, gI_sBf, gL_sI, gL_sL, gL_sA, gL_sB, gL_sAf, gL_sBf, gA_sI, gA_sL, gA_sA, gA_sB, gA_sAf, gA_sBf, gB_sI, gB_sL, gB_sA, gB_sB, gB_sAf, gB_sBf, Nat.reduceEqDiff, Nat.reduceMul, Nat.reduceAdd, false_and, true_and, and_true, and_false, if_true, if_false]
    exact p1
  · rw [ef] at b
    have b4 := p2 g a (Int32.lt_of_lt_of_le b hm.2)
    unfold FrV at *
    simp only [lv, lw]
    rw [ef]
    refine ⟨b4.1, fun z => ⟨(b4.2 z).1, fun e i i1 i2 => ?_⟩⟩
    have e' : g = m - 1 := e
    have rc : t_rowCount s t g = 0 := by
      rw [e']
      rw [e'] at a z
      exact hr a z
    have i2' : i < 0 + t_rowCount s t g := i2
    rw [rc] at i2'
    exact absurd (Int32.lt_of_le_of_lt i1 i2') (by decide)
  · simp only [lw]
    simp only [t_openCount, t_open, gI_sI, gI_sL, gI_sA, gI_sB, gI_sAf, gI_sBf, gL_sI, gL_sL, gL_sA, gL_sB, gL_sAf, gL_sBf, gA_sI, gA_sL, gA_sA, gA_sB, gA_sAf, gA_sBf, gB_sI, gB_sL, gB_sA, gB_sB, gB_sAf, gB_sBf, Nat.reduceEqDiff, Nat.reduceMul, Nat.reduceAdd, false_and, true_and, and_true, and_false, if_true, if_false]
    exact p3
theorem RI.cut {s : S1} {m : Int32} (h : RI false s) (hm : 0 ≤ m ∧ (m ≤ tp s ∨ m = 0)) : RI true (sI s 3586 (cu s) m) := by
  obtain ⟨hg, hz, h1, h2, h3, h4⟩ := h
  have hc := h3.1
  have hpl : 0 ≤ t_place s (cu s) := h3.2.2.2.2.2.2.2.2.1 0 hc.1
  obtain ⟨⟨q1, q2, q3, q4⟩, -⟩ := hg.thr hc hpl
  obtain ⟨n1, n2, n3, n4, n5⟩ := cut_num q2 hm
  have eF : ∀ t, t_frames (sI s 3586 (cu s) m) t = if t = cu s then m else t_frames s t := fun t => by simp only [t_frames, gI_sI, gI_sL, gI_sA, gI_sB, gI_sAf, gI_sBf, gL_sI, gL_sL, gL_sA, gL_sB, gL_sAf, gL_sBf, gA_sI, gA_sL, gA_sA, gA_sB, gA_sAf, gA_sBf, gB_sI, gB_sL, gB_sA, gB_sB, gB_sAf, gB_sBf, Nat.reduceEqDiff, Nat.reduceMul, Nat.reduceAdd, false_and, true_and, and_true, and_false, if_true, if_false]
  have eI : ∀ f i, f ≠ 3586 → gI (sI s 3586 (cu s) m) f i = gI s f i := fun f i q => by simp only [gI_sI, gI_sL, gI_sA, gI_sB, gI_sAf, gI_sBf, gL_sI, gL_sL, gL_sA, gL_sB, gL_sAf, gL_sBf, gA_sI, gA_sL, gA_sA, gA_sB, gA_sAf, gA_sBf, gB_sI, gB_sL, gB_sA, gB_sB, gB_sAf, gB_sBf, Nat.reduceEqDiff, Nat.reduceMul, Nat.reduceAdd, false_and, true_and, and_true, and_false, if_true, if_false, q]
  have hch : ∀ n, chN (sI s 3586 (cu s) m) n = chN s n := fun n => chN_I (eI 72 0 (by decide)) (fun i => eI 3590 i (by decide)) n
  have fl : ∀ x, FL (sI s 3586 (cu s) m) x ↔ FL s x := fun x => by
    unfold FL Lv
    simp only [f_used, a_sort, a_fixed, a_marked, gI_sI, gI_sL, gI_sA, gI_sB, gI_sAf, gI_sBf, gL_sI, gL_sL, gL_sA, gL_sB, gL_sAf, gL_sBf, gA_sI, gA_sL, gA_sA, gA_sB, gA_sAf, gA_sBf, gB_sI, gB_sL, gB_sA, gB_sB, gB_sAf, gB_sBf, Nat.reduceEqDiff, Nat.reduceMul, Nat.reduceAdd, false_and, true_and, and_true, and_false, if_true, if_false]
  refine ⟨hg.th (cut_th hg hc hpl ⟨hm.1, n2⟩ fun a k => ?_), (eI 92 0 (by decide)).trans hz, ?_, ?_, ?_, fun t a b c f d e => ?_⟩
  · obtain ⟨w1, w2⟩ := n5 a
    have fi := h4 (cu s) hc.1 hc.2 hpl (m - 1) a w2
    exact ((fi.2 k).2 (Or.inl w1)).2.2.1
  · unfold Pg Pp at *
    simp only [f_protos, f_constCount, eI 23 _ (by decide), eI 25 _ (by decide)] at *
    exact h1
  · unfold Fx4 Kc at *
    simp only [fl]
    simp only [f_constCount, eI 25 _ (by decide)] at *
    exact h2
  · obtain ⟨t1, t2, t3, t4, t5, t6, t7, t8, t9, t10, t11⟩ := h3
    unfold Ths
    simp only [hch]
    simp only [f_current, t_state, t_resumer, t_kind, t_begun, v_start_n, t_place, eI 72 _ (by decide), eI 3585 _ (by decide), eI 3590 _ (by decide), eI 3589 _ (by decide), eI 3202 _ (by decide), eI 3584 _ (by decide)]
    refine ⟨t1, t2, t3, fun n n1 n2 => ?_, t5, t6, t7, t8, t9, t10, t11⟩
    have ne := chN_ne hg hz n1 n2
    rw [eF, if_neg ne]
    exact t4 n n1 n2
  · have c' : 0 ≤ t_place s t := by
      have w : t_place (sI s 3586 (cu s) m) t = t_place s t := eI 3584 t (by decide)
      rw [← w]
      exact c
    rw [eF] at e
    have key : ∀ w : f < t_frames s t, (f < t_frames s t - 1 ∨ t ≠ f_current s) → Fi true (sI s 3586 (cu s) m) t f := fun w q => by
      have k := h4 t a b c' f d w
      refine ⟨k.1, fun z => ?_⟩
      have k2 := k.2 z
      refine ⟨k2.1, fun _ => ?_⟩
      exact k2.2 (by rcases q with q | q; exact Or.inl q; exact Or.inr (Or.inl q))
    by_cases g : t = cu s
    · rw [if_pos g] at e
      subst g
      exact key (n3 f e) (Or.inl (n4 f d e))
    · rw [if_neg g] at e
      exact key e (Or.inr g)
/-- the error's value is handed to who catches it -/
theorem catch_ok (b c : S1) (h : RI true c) (hh : gI c 2050 0 = 0) (hr : gI c 1282 0 = 0) (hb : f_todo b = 3) (j : jA c ≤ jA b) (f : sF c + rN c < sF b + rN b) : ok (oB (M_Va_add 10 0 1 0) fun _ =>
    oB (oGI 64 0) fun v82 =>
    oB (oGL 65 0) fun v86 =>
    oB (M_Va_add 10 0 v82 v86) fun _ =>
    oB (oPI 64 0 0) fun _ =>
    oB (oPI 73 0 2) fun _ =>
    oR ()) c (fun _ s' => Od b s') := by
  simp only [ok_B, ok_C, ok_R, ok_L, ok_K, ok_GI, ok_GL, ok_PI, ok_PL, ok_AI, ok_AL, ok_SI, ok_SL, ok_Pr, ok_CI, cmp_lt, cmp_le, cmp_gt, cmp_ge, cmp_eq, nar0, nar1, Sum.elim_inl, Sum.elim_inr]
  refine ok_mono (add10_ok c 1 0 h.1 (Or.inl ⟨by decide, by decide⟩) (by rw [hr]; decide)) fun _ s1 ⟨ag1, n1⟩ => ?_
  rw [hr] at n1
  have ve : Vl false s1 (gI s1 64 0) (gL s1 65 0) := ag1.1.2.2.2.1.2.2.2.2.2.2.2.2.1
  refine ok_mono (add10_ok s1 _ _ ag1.1 ve (by rw [n1]; decide)) fun _ s2 ⟨ag2, n2⟩ => ?_
  rw [n1] at n2
  have ag := ag1.trans ag2
  have rx := ag.rx (Or.inr (Or.inl rfl)) h.2.1
  have rx3 : Rx s2 (sI s2 64 0 0) := Rx.hy (rx.1.errK ⟨by decide, by decide⟩) ((Hy.refl s2).sI (by decide)) rx.2.1
  have r3 := (h.rx rx).rx rx3
  have h3 : gI (sI s2 64 0 0) 2050 0 = 0 := by
    simp only [gI_sI, gI_sL, gI_sA, gI_sB, gI_sAf, gI_sBf, gL_sI, gL_sL, gL_sA, gL_sB, gL_sAf, gL_sBf, gA_sI, gA_sL, gA_sA, gA_sB, gA_sAf, gA_sBf, gB_sI, gB_sL, gB_sA, gB_sB, gB_sAf, gB_sBf, Nat.reduceEqDiff, Nat.reduceMul, Nat.reduceAdd, false_and, true_and, and_true, and_false, if_true, if_false]
    exact (ag.2.1 2050 0 (by decide)).trans hh
  have m3 : gI (sI s2 64 0 0) 1282 0 ≤ 250 := by
    simp only [gI_sI, gI_sL, gI_sA, gI_sB, gI_sAf, gI_sBf, gL_sI, gL_sL, gL_sA, gL_sB, gL_sAf, gL_sBf, gA_sI, gA_sL, gA_sA, gA_sB, gA_sAf, gA_sBf, gB_sI, gB_sL, gB_sA, gB_sB, gB_sAf, gB_sBf, Nat.reduceEqDiff, Nat.reduceMul, Nat.reduceAdd, false_and, true_and, and_true, and_false, if_true, if_false]
    rw [n2]
    decide
  have e1 := rx3.ms.1.trans rx.ms.1
  have e2 := rx3.ms.2.trans rx.ms.2
  have e3 := rx3.rn.trans rx.rn
  generalize sI s2 64 0 0 = z at *
  have oz := Oz.give (b := z) r3 h3 m3 (Nat.le_refl _)
  have rx4 := todo_rx r3.1 r3.2.1 2
  have et : f_todo (sI z 73 0 2) = 2 := by simp only [f_todo, gI_sI, gI_sL, gI_sA, gI_sB, gI_sAf, gI_sBf, gL_sI, gL_sL, gL_sA, gL_sB, gL_sAf, gL_sBf, gA_sI, gA_sL, gA_sA, gA_sB, gA_sAf, gA_sBf, gB_sI, gB_sL, gB_sA, gB_sB, gB_sAf, gB_sBf, Nat.reduceEqDiff, Nat.reduceMul, Nat.reduceAdd, false_and, true_and, and_true, and_false, if_true, if_false]
  refine Or.inr ⟨oz.1, nu_lt3 hb (Or.inr ⟨by rw [et]; decide, ?_, ?_⟩)⟩
  · rw [rx4.ms.1, e1]
    exact j
  · rw [rx4.ms.2, rx4.rn, e2, e3]
    exact f
/-- the program ends with an error -/
theorem q_end_ok (c : S1) (h : GG c) (hz : f_noCollection c = 0) (hh : gI c 2050 0 = 0) : ok (oB (oPI 80 0 2) fun _ =>
      oB (oPI 1666 0 0) fun _ =>
      oB (oGI 64 0) fun v147 =>
      oB (oGL 65 0) fun v151 =>
      oB (M_Va_add 13 0 v147 v151) fun _ =>
      oB (oPI 64 0 0) fun _ =>
      oR ()) c (fun _ s' => Fin s') := by
  simp only [ok_B, ok_C, ok_R, ok_L, ok_K, ok_GI, ok_GL, ok_PI, ok_PL, ok_AI, ok_AL, ok_SI, ok_SL, ok_Pr, ok_CI, cmp_lt, cmp_le, cmp_gt, cmp_ge, cmp_eq, nar0, nar1, Sum.elim_inl, Sum.elim_inr]
  have g1 : GG (sI c 80 0 2) := h.hx ((Hx0.refl c).sI (by decide))
  have i1 : ∀ f, f ≠ 80 → gI (sI c 80 0 2) f 0 = gI c f 0 := fun f a => by simp only [gI_sI, gI_sL, gI_sA, gI_sB, gI_sAf, gI_sBf, gL_sI, gL_sL, gL_sA, gL_sB, gL_sAf, gL_sBf, gA_sI, gA_sL, gA_sA, gA_sB, gA_sAf, gA_sBf, gB_sI, gB_sL, gB_sA, gB_sB, gB_sAf, gB_sBf, Nat.reduceEqDiff, Nat.reduceMul, Nat.reduceAdd, false_and, true_and, and_true, and_false, if_true, if_false, a]
  have i2 : gI (sI c 80 0 2) 80 0 = 2 := by simp only [gI_sI, gI_sL, gI_sA, gI_sB, gI_sAf, gI_sBf, gL_sI, gL_sL, gL_sA, gL_sB, gL_sAf, gL_sBf, gA_sI, gA_sL, gA_sA, gA_sB, gA_sAf, gA_sBf, gB_sI, gB_sL, gB_sA, gB_sB, gB_sAf, gB_sBf, Nat.reduceEqDiff, Nat.reduceMul, Nat.reduceAdd, false_and, true_and, and_true, and_false, if_true, if_false]
  generalize sI c 80 0 2 = z at *
  have ag := zero13 g1
  have e0 : gI (sI z 1666 0 0) 1666 0 = 0 := by simp only [gI_sI, gI_sL, gI_sA, gI_sB, gI_sAf, gI_sBf, gL_sI, gL_sL, gL_sA, gL_sB, gL_sAf, gL_sBf, gA_sI, gA_sL, gA_sA, gA_sB, gA_sAf, gA_sBf, gB_sI, gB_sL, gB_sA, gB_sB, gB_sAf, gB_sBf, Nat.reduceEqDiff, Nat.reduceMul, Nat.reduceAdd, false_and, true_and, and_true, and_false, if_true, if_false]
  generalize sI z 1666 0 0 = y at *
  have ve : Vl false y (gI y 64 0) (gL y 65 0) := ag.1.2.2.2.1.2.2.2.2.2.2.2.2.1
  refine ok_mono (add13_ok y _ _ ag.1 ve (by rw [e0]; decide)) fun _ s2 ⟨ag2, n2⟩ => ?_
  have a2 := ag.trans ag2
  have I : ∀ f, f ≠ 1666 → f ≠ 64 → gI (sI s2 64 0 0) f 0 = gI z f 0 := fun f a b => by
    simp only [gI_sI, gI_sL, gI_sA, gI_sB, gI_sAf, gI_sBf, gL_sI, gL_sL, gL_sA, gL_sB, gL_sAf, gL_sBf, gA_sI, gA_sL, gA_sA, gA_sB, gA_sAf, gA_sBf, gB_sI, gB_sL, gB_sA, gB_sB, gB_sAf, gB_sBf, Nat.reduceEqDiff, Nat.reduceMul, Nat.reduceAdd, false_and, true_and, and_true, and_false, if_true, if_false, b]
    exact a2.2.1 f 0 a
  refine ⟨ag2.1.errK ⟨by decide, by decide⟩, ?_, ?_, ?_⟩
  · exact (I 92 (by decide) (by decide)).trans ((i1 92 (by decide)).trans hz)
  · exact (I 2050 (by decide) (by decide)).trans ((i1 2050 (by decide)).trans hh)
  · rw [I 80 (by decide) (by decide), i2]
    decide
theorem dn_num {x t : Int32} (h1 : -1 ≤ x) (h2 : x ≤ t) (ht : t ≤ 200) (c : ¬ x < 0) : (0 ≤ x ∧ x < 201) ∧ (-1 ≤ x + (-1) ∧ x + (-1) ≤ t) ∧ (x + (-1) + 1).toNatClampNeg < (x + 1).toNatClampNeg := by
  refine ⟨⟨by grind, by grind⟩, ⟨by grind, by grind⟩, clamp_lt (by grind) (by grind)⟩
theorem err31_ok (s : S1) (t x : Int32) (ht : 0 ≤ t ∧ t < 33) (hx : -1 ≤ x ∧ x ≤ 200) : ok (oW M_Mo_error_L31 (t, x)) s (fun y s' => s' = s ∧ y.1 = t ∧ (y.2 < 0 ∨ ((0 ≤ y.2 ∧ y.2 ≤ x) ∧ t_kind s t y.2 = 1))) := by
  refine ok_W (fun y s' => s' = s ∧ y.1 = t ∧ -1 ≤ y.2 ∧ y.2 ≤ x) (fun y _ => (y.2 + 1).toNatClampNeg) ?_ (t, x) s ⟨rfl, rfl, hx.1, Int32.le_refl _⟩
  rintro ⟨t', y⟩ s1 ⟨es, e1, y1, y2⟩
  dsimp only at e1 y1 y2
  rw [es, e1]
  simp only [M_Mo_error_L31, ok_B, ok_C, ok_R, ok_L, ok_K, ok_GI, ok_GL, ok_PI, ok_PL, ok_AI, ok_AL, ok_SI, ok_SL, ok_Pr, ok_CI, cmp_lt, cmp_le, cmp_gt, cmp_ge, cmp_eq, nar0, nar1, Sum.elim_inl, Sum.elim_inr]
  refine ⟨fun c => ⟨by trivial, by trivial, Or.inl c⟩, fun c => ?_⟩
  obtain ⟨n1, n2, n3⟩ := dn_num y1 y2 hx.2 c
  exact ⟨ht, n1, fun k => ⟨by trivial, by trivial, Or.inr ⟨⟨n1.1, y2⟩, k⟩⟩, fun _ => ⟨⟨by trivial, by trivial, n2⟩, n3⟩⟩
theorem cutF {s : S1} {m : Int32} (hc : 0 ≤ cu s ∧ cu s < 33) (q : 0 ≤ t_frames s (cu s) ∧ t_frames s (cu s) ≤ 200) (hm : 0 ≤ m ∧ (m ≤ tp s ∨ m = 0)) : jA (sI s 3586 (cu s) m) ≤ jA s ∧ sF (sI s 3586 (cu s) m) ≤ sF s ∧ rN (sI s 3586 (cu s) m) = rN s ∧ (m ≤ tp s → sF (sI s 3586 (cu s) m) < sF s) := by
  obtain ⟨n1, n2, n3, n4, n5⟩ := cut_num q hm
  have ef : t_frames (sI s 3586 (cu s) m) (cu s) = m := by simp only [t_frames, gI_sI, gI_sL, gI_sA, gI_sB, gI_sAf, gI_sBf, gL_sI, gL_sL, gL_sA, gL_sB, gL_sAf, gL_sBf, gA_sI, gA_sL, gA_sA, gA_sB, gA_sAf, gA_sBf, gB_sI, gB_sL, gB_sA, gB_sB, gB_sAf, gB_sBf, Nat.reduceEqDiff, Nat.reduceMul, Nat.reduceAdd, false_and, true_and, and_true, and_false, if_true, if_false]
  have e1 : fN (sI s 3586 (cu s) m) (cu s) = m.toNatClampNeg := by rw [fN_of (s := sI s 3586 (cu s) m) (by rw [ef]; exact n1), ef]
  have e2 : fN s (cu s) = (t_frames s (cu s)).toNatClampNeg := fN_of q
  have hI : ∀ i, i ≠ cu s → gI (sI s 3586 (cu s) m) 3586 i = gI s 3586 i := fun i w => by simp only [gI_sI, gI_sL, gI_sA, gI_sB, gI_sAf, gI_sBf, gL_sI, gL_sL, gL_sA, gL_sB, gL_sAf, gL_sBf, gA_sI, gA_sL, gA_sA, gA_sB, gA_sAf, gA_sBf, gB_sI, gB_sL, gB_sA, gB_sB, gB_sAf, gB_sBf, Nat.reduceEqDiff, Nat.reduceMul, Nat.reduceAdd, false_and, true_and, and_true, and_false, if_true, if_false, w]
  have le : fN (sI s 3586 (cu s) m) (cu s) ≤ fN s (cu s) := by
    rw [e1, e2]
    unfold Int32.toNatClampNeg
    rw [i32_le] at n2
    omega
  have k := cut_ms (t := cu s) hI (fun _ _ _ _ => rfl) le
  refine ⟨k.1, k.2, rn_same fun i => by simp only [gI_sI, gI_sL, gI_sA, gI_sB, gI_sAf, gI_sBf, gL_sI, gL_sL, gL_sA, gL_sB, gL_sAf, gL_sBf, gA_sI, gA_sL, gA_sA, gA_sB, gA_sAf, gA_sBf, gB_sI, gB_sL, gB_sA, gB_sB, gB_sAf, gB_sBf, Nat.reduceEqDiff, Nat.reduceMul, Nat.reduceAdd, false_and, true_and, and_true, and_false, if_true, if_false], fun w => cut_lt hc hI ?_⟩
  rw [e1, e2]
  have lt : m < t_frames s (cu s) := by
    have w2 : m ≤ t_frames s (cu s) - 1 := w
    clear k le e1 e2 hI ef n3 n4 n5
    obtain ⟨a, b⟩ := q
    grind
  exact clamp_lt hm.1 lt
theorem err194_ok (b F : S1) (k : Int32) (h : RI true F) (hh : gI F 2050 0 = 0) (hr : gI F 1282 0 = 0) (hf : 0 < t_frames F (cu F)) (hb : f_todo b = 3) (j : jA F ≤ jA b) (f : sF F + rN F ≤ sF b + rN b) : ok (M_Mo_error_j194 k) F (fun _ s' => Od b s') := by
  have hc := h.2.2.2.2.1.1
  have hpl : 0 ≤ t_place F (cu F) := h.2.2.2.2.1.2.2.2.2.2.2.2.2.1 0 hc.1
  have q := (h.1.thr hc hpl).1.2.1
  have h0 : 0 ≤ tp F := by
    show 0 ≤ t_frames F (cu F) - 1
    generalize t_frames F (cu F) = a at *
    clear h hpl
    obtain ⟨a1, a2⟩ := q
    grind
  have ec : gI F 72 0 = cu F := rfl
  have ef : gI F 3586 (cu F) - 1 = tp F := rfl
  unfold M_Mo_error_j194
  rw [ok_B, ok_GI, ec, ok_B, ok_K]
  refine ⟨hc, ?_⟩
  rw [ok_B, ok_GI, ef, ok_B, ok_PI]
  have rp := h.popT h0
  obtain ⟨p1, p2, p3⟩ := pop_lt h h0
  have hp : gI (sI F 3586 (cu F) (tp F)) 2050 0 = 0 := by
    simp only [gI_sI, gI_sL, gI_sA, gI_sB, gI_sAf, gI_sBf, gL_sI, gL_sL, gL_sA, gL_sB, gL_sAf, gL_sBf, gA_sI, gA_sL, gA_sA, gA_sB, gA_sAf, gA_sBf, gB_sI, gB_sL, gB_sA, gB_sB, gB_sAf, gB_sBf, Nat.reduceEqDiff, Nat.reduceMul, Nat.reduceAdd, false_and, true_and, and_true, and_false, if_true, if_false]
    exact hh
  have np : gI (sI F 3586 (cu F) (tp F)) 1282 0 = 0 := by
    simp only [gI_sI, gI_sL, gI_sA, gI_sB, gI_sAf, gI_sBf, gL_sI, gL_sL, gL_sA, gL_sB, gL_sAf, gL_sBf, gA_sI, gA_sL, gA_sA, gA_sB, gA_sAf, gA_sBf, gB_sI, gB_sL, gB_sA, gB_sB, gB_sAf, gB_sBf, Nat.reduceEqDiff, Nat.reduceMul, Nat.reduceAdd, false_and, true_and, and_true, and_false, if_true, if_false]
    exact hr
  generalize sI F 3586 (cu F) (tp F) = z at *
  rw [ok_C]
  refine ⟨fun _ => catch_ok b z rp hp np hb (Nat.le_trans p1 j) (by omega), fun _ => ?_⟩
  simp only [ok_B, ok_C, ok_R, ok_L, ok_K, ok_GI, ok_GL, ok_PI, ok_PL, ok_AI, ok_AL, ok_SI, ok_SL, ok_Pr, ok_CI, cmp_lt, cmp_le, cmp_gt, cmp_ge, cmp_eq, nar0, nar1, Sum.elim_inl, Sum.elim_inr]
  have rx := todo_rx rp.1 rp.2.1 3
  have r3 := rp.rx rx
  have et : f_todo (sI z 73 0 3) = 3 := by simp only [f_todo, gI_sI, gI_sL, gI_sA, gI_sB, gI_sAf, gI_sBf, gL_sI, gL_sL, gL_sA, gL_sB, gL_sAf, gL_sBf, gA_sI, gA_sL, gA_sA, gA_sB, gA_sAf, gA_sBf, gB_sI, gB_sL, gB_sA, gB_sB, gB_sAf, gB_sBf, Nat.reduceEqDiff, Nat.reduceMul, Nat.reduceAdd, false_and, true_and, and_true, and_false, if_true, if_false]
  refine Or.inr ⟨⟨r3.1, r3.2.1, ?_, Or.inr (Or.inl ⟨Or.inl et, r3.2.2.weak⟩)⟩, nu_lt3 hb (Or.inr ⟨by rw [et]; decide, ?_, ?_⟩)⟩
  · simp only [v_hand_n, gI_sI, gI_sL, gI_sA, gI_sB, gI_sAf, gI_sBf, gL_sI, gL_sL, gL_sA, gL_sB, gL_sAf, gL_sBf, gA_sI, gA_sL, gA_sA, gA_sB, gA_sAf, gA_sBf, gB_sI, gB_sL, gB_sA, gB_sB, gB_sAf, gB_sBf, Nat.reduceEqDiff, Nat.reduceMul, Nat.reduceAdd, false_and, true_and, and_true, and_false, if_true, if_false]
    exact hp
  · rw [rx.ms.1]
    exact Nat.le_trans p1 j
  · rw [rx.ms.2, rx.rn]
    omega
theorem leave_rx (s : S1) (t fr : Int32) (h : GG s) (hz : f_noCollection s = 0) (ht : 0 ≤ t ∧ t < 33) (hp : 0 ≤ t_place s t) (hf : 0 ≤ fr) : ok (M_Mo_leave t fr) s (fun _ s' => Rx s s' ∧ (∀ f i, f ≠ 66 → f ≠ 3587 → gI s' f i = gI s f i) ∧ (∀ f i, f ≠ 67 → gL s' f i = gL s f i)) := by
  refine ok_mono (q_leave_ok s t fr h ht hp hf) fun _ s1 w => ?_
  rcases w with e | cw
  · rw [e]
    exact ⟨Rx.refl h hz, fun _ _ _ _ => rfl, fun _ _ _ => rfl⟩
  · exact ⟨Rx.cw h cw ht hz, fun f i a b => cw.I f ⟨a, b⟩ i, cw.2.1⟩
theorem err51_ok (b s : S1) (f : Int32) (h : RI false s) (hh : gI s 2050 0 = 0) (hr : gI s 1282 0 = 0) (hb : f_todo b = 3) (j : jA s = jA b) (k : sF s + rN s = sF b + rN b) (hf : f < 0 ∨ ((0 ≤ f ∧ f ≤ tp s) ∧ t_kind s (cu s) f = 1)) : ok (M_Mo_error_j51 (cu s) f) s (fun _ s' => Od b s') := by
  have hc := h.2.2.2.2.1.1
  have hpl : 0 ≤ t_place s (cu s) := h.2.2.2.2.1.2.2.2.2.2.2.2.2.1 0 hc.1
  have st1 : t_state s (cu s) = 1 := h.2.2.2.2.1.2.1
  unfold M_Mo_error_j51
  rw [ok_C]
  refine ⟨fun c => ?_, fun c => ?_⟩
  · rw [ok_B, ok_K]
    refine ⟨hc, ?_⟩
    rw [ok_B]
    refine ok_mono (leave_rx s (cu s) 0 h.1 h.2.1 hc hpl (by decide)) fun _ s1 ⟨rx, I1, L1⟩ => ?_
    have r1 := h.rx rx
    have ec : cu s1 = cu s := I1 72 0 (by decide) (by decide)
    have hc1 : 0 ≤ cu s1 ∧ cu s1 < 33 := by
      rw [ec]
      exact hc
    have hpl1 : 0 ≤ t_place s1 (cu s1) := r1.2.2.2.2.1.2.2.2.2.2.2.2.2.1 0 hc1.1
    have q1 := (r1.1.thr hc1 hpl1).1.2.1
    have rc := r1.cut (m := 0) ⟨by decide, Or.inr rfl⟩
    obtain ⟨p1, p2, p3, -⟩ := cutF (m := 0) hc1 q1 ⟨by decide, Or.inr rfl⟩
    rw [ec] at rc p1 p2 p3
    rw [ok_B, ok_K]
    refine ⟨hc, ?_⟩
    rw [ok_B, ok_PI, ok_B, ok_K]
    refine ⟨hc, ?_⟩
    have hC : gI (sI s1 3586 (cu s) 0) 2050 0 = 0 := by
      simp only [gI_sI, gI_sL, gI_sA, gI_sB, gI_sAf, gI_sBf, gL_sI, gL_sL, gL_sA, gL_sB, gL_sAf, gL_sBf, gA_sI, gA_sL, gA_sA, gA_sB, gA_sAf, gA_sBf, gB_sI, gB_sL, gB_sA, gB_sB, gB_sAf, gB_sBf, Nat.reduceEqDiff, Nat.reduceMul, Nat.reduceAdd, false_and, true_and, and_true, and_false, if_true, if_false]
      exact (I1 2050 0 (by decide) (by decide)).trans hh
    have nC : gI (sI s1 3586 (cu s) 0) 1282 0 = 0 := by
      simp only [gI_sI, gI_sL, gI_sA, gI_sB, gI_sAf, gI_sBf, gL_sI, gL_sL, gL_sA, gL_sB, gL_sAf, gL_sBf, gA_sI, gA_sL, gA_sA, gA_sB, gA_sAf, gA_sBf, gB_sI, gB_sL, gB_sA, gB_sB, gB_sAf, gB_sBf, Nat.reduceEqDiff, Nat.reduceMul, Nat.reduceAdd, false_and, true_and, and_true, and_false, if_true, if_false]
      exact (I1 1282 0 (by decide) (by decide)).trans hr
    have cC : cu (sI s1 3586 (cu s) 0) = cu s := by
      simp only [cu, f_current, gI_sI, gI_sL, gI_sA, gI_sB, gI_sAf, gI_sBf, gL_sI, gL_sL, gL_sA, gL_sB, gL_sAf, gL_sBf, gA_sI, gA_sL, gA_sA, gA_sB, gA_sAf, gA_sBf, gB_sI, gB_sL, gB_sA, gB_sB, gB_sAf, gB_sBf, Nat.reduceEqDiff, Nat.reduceMul, Nat.reduceAdd, false_and, true_and, and_true, and_false, if_true, if_false]
      exact ec
    have m1 := rx.ms
    have m2 := rx.rn
    generalize sI s1 3586 (cu s) 0 = z at *
    rw [ok_B, ok_PI, ok_B, ok_K]
    refine ⟨hc, ?_⟩
    rw [ok_B, ok_K]
    refine ⟨by decide, ?_⟩
    rw [ok_C]
    refine ⟨fun c0 => ?_, fun c0 => ?_⟩
    · refine ok_mono (q_end_ok _ (rc.1.hx ((Hx0.refl z).sI (by decide))) ?_ ?_) fun _ s' w => Or.inl w
      · simp only [f_noCollection, gI_sI, gI_sL, gI_sA, gI_sB, gI_sAf, gI_sBf, gL_sI, gL_sL, gL_sA, gL_sB, gL_sAf, gL_sBf, gA_sI, gA_sL, gA_sA, gA_sB, gA_sAf, gA_sBf, gB_sI, gB_sL, gB_sA, gB_sB, gB_sAf, gB_sBf, Nat.reduceEqDiff, Nat.reduceMul, Nat.reduceAdd, false_and, true_and, and_true, and_false, if_true, if_false]
        exact rc.2.1
      · simp only [gI_sI, gI_sL, gI_sA, gI_sB, gI_sAf, gI_sBf, gL_sI, gL_sL, gL_sA, gL_sB, gL_sAf, gL_sBf, gA_sI, gA_sL, gA_sA, gA_sB, gA_sAf, gA_sBf, gB_sI, gB_sL, gB_sA, gB_sB, gB_sAf, gB_sBf, Nat.reduceEqDiff, Nat.reduceMul, Nat.reduceAdd, false_and, true_and, and_true, and_false, if_true, if_false]
        exact hC
    · rw [ok_B, ok_K]
      refine ⟨hc, ?_⟩
      rw [ok_B]
      have bk := back_ok z (sI z 3585 (cu z) 3) 3 rc (by rw [cC]; exact c0) (Or.inr rfl) ⟨fun f i q => by rw [gI_sI, if_neg q], by simp only [gI_sI, gI_sL, gI_sA, gI_sB, gI_sAf, gI_sBf, gL_sI, gL_sL, gL_sA, gL_sB, gL_sAf, gL_sBf, gA_sI, gA_sL, gA_sA, gA_sB, gA_sAf, gA_sBf, gB_sI, gB_sL, gB_sA, gB_sB, gB_sAf, gB_sBf, Nat.reduceEqDiff, Nat.reduceMul, Nat.reduceAdd, false_and, true_and, and_true, and_false, if_true, if_false], fun _ _ => rfl, fun _ _ _ => rfl, fun _ _ _ => rfl⟩
      rw [cC] at bk
      refine ok_mono bk fun _ F ⟨rF, ⟨kf, kk⟩, I, L, A, B, e1, e2, hres⟩ => ?_
      have hcF := rF.2.2.2.2.1.1
      have hplF : 0 ≤ t_place F (cu F) := rF.2.2.2.2.1.2.2.2.2.2.2.2.2.1 0 hcF.1
      have qF := (rF.1.thr hcF hplF).1.2.1
      have h0F : 0 ≤ tp F := by
        show 0 ≤ t_frames F (cu F) - 1
        generalize t_frames F (cu F) = a at *
        clear rF hplF I L A B bk e1 e2 hres rc rx r1 h kk
        obtain ⟨a1, a2⟩ := qF
        grind
      have tbF : 0 ≤ tp F ∧ tp F < 201 := ⟨h0F, Int32.lt_of_le_of_lt (tp_num qF h0F).2.1 (by decide)⟩
      have ecF : gI F 72 0 = cu F := rfl
      have efF : gI F 3586 (cu F) - 1 = tp F := rfl
      have m := ms_same (s := z) (z := F) (fun i => I 3586 i (by decide) (by decide) (by decide)) (fun a i j _ => A a i j)
      have hcz : 0 ≤ cu z ∧ cu z < 33 := by
        rw [cC]
        exact hc
      have rl := rn_lt hcz (by rw [cC]; exact e2) (by rw [cC]; exact hres)
      have fin : ∀ k, ok (M_Mo_error_j194 k) F (fun _ s' => Od b s') := fun k' => by
        refine err194_ok b F k' rF ((I 2050 0 (by decide) (by decide) (by decide)).trans hC) ((I 1282 0 (by decide) (by decide) (by decide)).trans nC) kf hb ?_ ?_
        · rw [m.1]
          refine Nat.le_trans p1 ?_
          rw [m1.1, j]
          exact Nat.le_refl _
        · rw [m.2]
          omega
      simp only [M_Th_top, ok_B, ok_C, ok_R, ok_L, ok_K, ok_GI, ok_GL, ok_PI, ok_PL, ok_AI, ok_AL, ok_SI, ok_SL, ok_Pr, ok_CI, cmp_lt, cmp_le, cmp_gt, cmp_ge, cmp_eq, nar0, nar1, Sum.elim_inl, Sum.elim_inr]
      rw [ecF, efF]
      exact ⟨hcF, hcF, tbF, fun _ => fin 1, fun _ => fin 0⟩
  · have hf' : (0 ≤ f ∧ f ≤ tp s) ∧ t_kind s (cu s) f = 1 := by
      rcases hf with w | w
      · exact absurd w c
      · exact w
    have f1 : 0 ≤ f + 1 := by
      have w := hf'.1
      have q := (h.1.thr hc hpl).1.2.1
      have w2 : f ≤ t_frames s (cu s) - 1 := w.2
      generalize t_frames s (cu s) = a at *
      clear h hpl
      obtain ⟨a1, a2⟩ := q
      have w3 := w.1
      grind
    rw [ok_B, ok_K]
    refine ⟨hc, ?_⟩
    rw [ok_B]
    refine ok_mono (leave_rx s (cu s) (f + 1) h.1 h.2.1 hc hpl f1) fun _ s1 ⟨rx, I1, L1⟩ => ?_
    have r1 := h.rx rx
    have ec : cu s1 = cu s := I1 72 0 (by decide) (by decide)
    have et : tp s1 = tp s := by
      show gI s1 3586 (cu s1) - 1 = gI s 3586 (cu s) - 1
      rw [ec, I1 3586 _ (by decide) (by decide)]
    have hc1 : 0 ≤ cu s1 ∧ cu s1 < 33 := by
      rw [ec]
      exact hc
    have hpl1 : 0 ≤ t_place s1 (cu s1) := r1.2.2.2.2.1.2.2.2.2.2.2.2.2.1 0 hc1.1
    have q1 := (r1.1.thr hc1 hpl1).1.2.1
    have hm : 0 ≤ f ∧ (f ≤ tp s1 ∨ f = 0) := ⟨hf'.1.1, Or.inl (by rw [et]; exact hf'.1.2)⟩
    have rc := r1.cut hm
    obtain ⟨p1, p2, p3, p4⟩ := cutF hc1 q1 hm
    have p5 := p4 (by rw [et]; exact hf'.1.2)
    rw [ec] at rc p1 p5 p3
    rw [ok_B, ok_K]
    refine ⟨hc, ?_⟩
    rw [ok_B, ok_PI]
    refine catch_ok b _ rc ?_ ?_ hb ?_ ?_
    · simp only [gI_sI, gI_sL, gI_sA, gI_sB, gI_sAf, gI_sBf, gL_sI, gL_sL, gL_sA, gL_sB, gL_sAf, gL_sBf, gA_sI, gA_sL, gA_sA, gA_sB, gA_sAf, gA_sBf, gB_sI, gB_sL, gB_sA, gB_sB, gB_sAf, gB_sBf, Nat.reduceEqDiff, Nat.reduceMul, Nat.reduceAdd, false_and, true_and, and_true, and_false, if_true, if_false]
      exact (I1 2050 0 (by decide) (by decide)).trans hh
    · simp only [gI_sI, gI_sL, gI_sA, gI_sB, gI_sAf, gI_sBf, gL_sI, gL_sL, gL_sA, gL_sB, gL_sAf, gL_sBf, gA_sI, gA_sL, gA_sA, gA_sB, gA_sAf, gA_sBf, gB_sI, gB_sL, gB_sA, gB_sB, gB_sAf, gB_sBf, Nat.reduceEqDiff, Nat.reduceMul, Nat.reduceAdd, false_and, true_and, and_true, and_false, if_true, if_false]
      exact (I1 1282 0 (by decide) (by decide)).trans hr
    · refine Nat.le_trans p1 ?_
      rw [rx.ms.1, j]
      exact Nat.le_refl _
    · have e1 := rx.ms.2
      have e2 := rx.rn
      omega
theorem error_ok (s : S1) (h : Out s) (hd : f_todo s = 3) : ok M_Mo_error s (fun _ s' => Od s s') := by
  obtain ⟨g, nc, hh, w⟩ := h
  have fr : Fr false s := by
    rcases w with w | w | w | w
    · exact absurd (w.1.symm.trans hd) (by decide)
    · exact w.2
    · exact absurd (w.1.symm.trans hd) (by decide)
    · exact absurd (w.1.symm.trans hd) (by decide)
  clear w
  have r : RI false s := ⟨g, nc, fr⟩
  unfold M_Mo_error
  rw [ok_B, ok_PI, ok_B, ok_PI, ok_B, ok_PI]
  have rx0 := todo_rx g nc 0
  have ag1 := zero7 rx0.1
  have rx1 := ag1.rx (Or.inl rfl) rx0.2.1
  have ag2 := zero10 rx1.1
  have rx2 := ag2.rx (Or.inr (Or.inl rfl)) rx1.2.1
  have rx := (rx0.trans rx1).trans rx2
  have hz : gI (sI (sI (sI s 73 0 0) 898 0 0) 1282 0 0) 2050 0 = 0 := by
    simp only [gI_sI, gI_sL, gI_sA, gI_sB, gI_sAf, gI_sBf, gL_sI, gL_sL, gL_sA, gL_sB, gL_sAf, gL_sBf, gA_sI, gA_sL, gA_sA, gA_sB, gA_sAf, gA_sBf, gB_sI, gB_sL, gB_sA, gB_sB, gB_sAf, gB_sBf, Nat.reduceEqDiff, Nat.reduceMul, Nat.reduceAdd, false_and, true_and, and_true, and_false, if_true, if_false]
    exact hh
  have nz : gI (sI (sI (sI s 73 0 0) 898 0 0) 1282 0 0) 1282 0 = 0 := by simp only [gI_sI, gI_sL, gI_sA, gI_sB, gI_sAf, gI_sBf, gL_sI, gL_sL, gL_sA, gL_sB, gL_sAf, gL_sBf, gA_sI, gA_sL, gA_sA, gA_sB, gA_sAf, gA_sBf, gB_sI, gB_sL, gB_sA, gB_sB, gB_sAf, gB_sBf, Nat.reduceEqDiff, Nat.reduceMul, Nat.reduceAdd, false_and, true_and, and_true, and_false, if_true, if_false]
  have r2 := r.rx rx
  clear rx0 rx1 rx2 ag1 ag2
  generalize sI (sI (sI s 73 0 0) 898 0 0) 1282 0 0 = z at *
  have hc := r2.2.2.2.2.1.1
  have hpl : 0 ≤ t_place z (cu z) := r2.2.2.2.2.1.2.2.2.2.2.2.2.2.1 0 hc.1
  have q := (r2.1.thr hc hpl).1.2.1
  have tb : -1 ≤ tp z ∧ tp z ≤ 200 := by
    show -1 ≤ t_frames z (cu z) - 1 ∧ t_frames z (cu z) - 1 ≤ 200
    generalize t_frames z (cu z) = a at *
    clear r2 r rx hpl
    obtain ⟨a1, a2⟩ := q
    exact ⟨by grind, by grind⟩
  have ec : gI z 72 0 = cu z := rfl
  rw [ok_B, ok_GI, ec, ok_B, ok_K]
  refine ⟨hc, ?_⟩
  rw [ok_B]
  have top : ok (M_Th_top (cu z)) z (fun v s' => v = tp z ∧ s' = z) := by
    simp only [M_Th_top, ok_B, ok_C, ok_R, ok_L, ok_K, ok_GI, ok_GL, ok_PI, ok_PL, ok_AI, ok_AL, ok_SI, ok_SL, ok_Pr, ok_CI, cmp_lt, cmp_le, cmp_gt, cmp_ge, cmp_eq, nar0, nar1, Sum.elim_inl, Sum.elim_inr]
    exact ⟨by trivial, by trivial⟩
  refine ok_mono top fun v s1 ⟨ev, es⟩ => ?_
  rw [ev, es, ok_B]
  refine ok_mono (err31_ok z (cu z) (tp z) hc tb) fun y s2 ⟨es2, y1, y2⟩ => ?_
  rw [es2, y1]
  exact err51_ok s z y.2 r2 hz nz hd rx.ms.1 (by rw [rx.ms.2, rx.rn]) y2
