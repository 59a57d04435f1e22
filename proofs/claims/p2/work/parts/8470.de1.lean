/-! Results are delivered; a thread ends; what there is to do grows less. -/
def Fin (s : S1) : Prop := GG s ∧ f_noCollection s = 0 ∧ v_hand_n s = 0 ∧ gI s 80 0 ≠ 0
def q_nu (s : S1) : Nat := if f_todo s = 0 then 0 else 1 + jA s * 100000 + (if f_todo s = 1 then 50000 + (6600 - sF s) else (sF s + rN s) * 4 + (if f_todo s = 2 then 2 else if f_todo s = 3 then 1 else 0))
theorem nu_zero {s : S1} (h : f_todo s = 0) : q_nu s = 0 := if_pos h
theorem nu_call {s : S1} (h : f_todo s = 1) : q_nu s = 1 + jA s * 100000 + (50000 + (6600 - sF s)) := by
  unfold q_nu
  rw [if_neg (by rw [h]; decide), if_pos h]
theorem nu_else {s : S1} (h0 : f_todo s ≠ 0) (h1 : f_todo s ≠ 1) : q_nu s = 1 + jA s * 100000 + ((sF s + rN s) * 4 + (if f_todo s = 2 then 2 else if f_todo s = 3 then 1 else 0)) := by
  unfold q_nu
  rw [if_neg h0, if_neg h1]
theorem nu_pos {s : S1} (h0 : f_todo s ≠ 0) : 0 < q_nu s := by
  unfold q_nu
  rw [if_neg h0]
  omega
theorem Oc.nu {b s : S1} (hb : f_todo b = 1) (h : Oc b s) : q_nu s < q_nu b := by
  have p := nu_pos (s := b) (by rw [hb]; decide)
  by_cases c : f_todo s = 0
  · rw [nu_zero c]
    exact p
  · obtain ⟨j, f⟩ := h.2 c
    rw [nu_call hb]
    have l1 := sF_le s
    have l2 := rN_le s
    by_cases d : f_todo s = 1
    · rw [nu_call d]
      have := f d
      omega
    · rw [nu_else c d]
      have : (if f_todo s = 2 then 2 else if f_todo s = 3 then 1 else 0) ≤ 2 := by
        split
        · omega
        · split <;> omega
      omega
theorem nu_lt2 {b s : S1} (hb : f_todo b = 2) (j : jA s ≤ jA b) (hs : f_todo s = 0 ∨ (f_todo s = 1 ∧ jA s < jA b) ∨ (f_todo s ≠ 1 ∧ sF s + rN s < sF b + rN b) ∨ ((f_todo s = 3 ∨ f_todo s = 4) ∧ sF s + rN s ≤ sF b + rN b)) : q_nu s < q_nu b := by
  have p := nu_pos (s := b) (by rw [hb]; decide)
  have eb := nu_else (s := b) (by rw [hb]; decide) (by rw [hb]; decide)
  rw [if_pos hb] at eb
  have l1 := sF_le s
  by_cases c : f_todo s = 0
  · rw [nu_zero c]
    exact p
  by_cases d : f_todo s = 1
  · rw [nu_call d]
    rcases hs with w | w | w | w
    · exact absurd w c
    · omega
    · exact absurd d w.1
    · rcases w.1 with e | e <;> exact absurd (e.symm.trans d) (by decide)
  · rw [nu_else c d]
    have q : (if f_todo s = 2 then 2 else if f_todo s = 3 then 1 else 0) ≤ 2 := by
      split
      · omega
      · split <;> omega
    rcases hs with w | w | w | w
    · exact absurd w c
    · exact absurd w.1 d
    · omega
    · have q2 : (if f_todo s = 2 then 2 else if f_todo s = 3 then 1 else 0) ≤ 1 := by
        rw [if_neg]
        · split <;> omega
        · intro z
          rcases w.1 with e | e <;> exact absurd (e.symm.trans z) (by decide)
      omega
theorem nu_lt3 {b s : S1} (hb : f_todo b = 3) (hs : f_todo s = 0 ∨ (f_todo s ≠ 1 ∧ jA s ≤ jA b ∧ sF s + rN s < sF b + rN b)) : q_nu s < q_nu b := by
  have p := nu_pos (s := b) (by rw [hb]; decide)
  have eb := nu_else (s := b) (by rw [hb]; decide) (by rw [hb]; decide)
  by_cases c : f_todo s = 0
  · rw [nu_zero c]
    exact p
  rcases hs with w | w
  · exact absurd w c
  · rw [nu_else c w.1, eb]
    have q : (if f_todo s = 2 then 2 else if f_todo s = 3 then 1 else 0) ≤ 2 := by
      split
      · omega
      · split <;> omega
    omega
def Od (b s : S1) : Prop := Fin s ∨ (Out s ∧ q_nu s < q_nu b)
theorem rn_lt {z F : S1} (hc : 0 ≤ cu z ∧ cu z < 33) (e : ∀ i, t_resumer F i = if i = cu z then -1 else t_resumer z i) (hr : t_resumer z (cu z) ≠ -1) : rN F < rN z := by
  have c33 : (33 : Int32).toNatClampNeg = 33 := rfl
  have hl := clamp_lt hc.1 hc.2
  rw [c33] at hl
  refine sum_lt (k := (cu z).toNatClampNeg) hl (fun n _ => ?_) ?_
  · rw [e]
    by_cases c : Int32.ofNat n = cu z
    · rw [if_pos c, if_pos rfl]
      exact Nat.zero_le _
    · rw [if_neg c]
      exact Nat.le_refl _
  · rw [q_ofNat_clamp hc.1, e, if_pos rfl, if_pos rfl, if_neg hr]
    exact Nat.one_pos
theorem ended_num {x n r : Int32} (hn : n ≤ 400) (x0 : 0 ≤ x) (e : r = x) (c : ¬ n ≤ x) : r < 400 ∧ x < 400 ∧ x < n ∧ 0 ≤ x + 1 ∧ r + 1 = x + 1 ∧ (n - (x + 1)).toNatClampNeg < (n - x).toNatClampNeg := by
  subst e
  exact ⟨by grind, by grind, by grind, by grind, rfl, clamp_lt (by grind) (by grind)⟩
theorem ended_ok (s : S1) (h : GG s) (h0 : gI s 1666 0 = 0) : ok (oW M_Mo_finished_L35 0) s (fun _ s' => Ag 13 s s') := by
  have hn := h.2.2.2.1.2.2.1
  have hn2 : gI s 1282 0 ≤ 400 := hn.2
  refine ok_W (fun x s' => 0 ≤ x ∧ gI s' 1666 0 = x ∧ Ag 13 s s') (fun x _ => (gI s 1282 0 - x).toNatClampNeg) ?_ (0 : Int32) s ⟨(show (0 : Int32) ≤ 0 by decide), h0, Ag.refl 13 h⟩
  rintro x s1 ⟨x0, ex, ag⟩
  have e : gI s1 1282 0 = gI s 1282 0 := ag.2.1 1282 0 (by decide)
  simp only [M_Mo_finished_L35, ok_B, ok_C, ok_R, ok_L, ok_K, ok_GI, ok_GL, ok_PI, ok_PL, ok_AI, ok_AL, ok_SI, ok_SL, ok_Pr, ok_CI, cmp_lt, cmp_le, cmp_gt, cmp_ge, cmp_eq, nar0, nar1, Sum.elim_inl, Sum.elim_inr]
  rw [e]
  refine ⟨fun _ => ag, fun c => ?_⟩
  obtain ⟨n1, n2, n3, n4, n5, n6⟩ := ended_num hn2 x0 ex c
  have w := addFrom_ok s1 13 10 0 x (Or.inr (Or.inr rfl)) ag.1 ⟨x0, n2, n2⟩ (ag.1.2.2.2.1.2.2.2.2.2.2.1 x x0 (by show x < gI s1 1282 0; rw [e]; exact n3)) (by simp only [Nat.reduceMul, Nat.reduceAdd]; exact n1)
  simp only [Nat.reduceMul, Nat.reduceAdd] at w
  refine ok_mono w fun _ s2 ⟨ag2, e2⟩ => ⟨⟨n4, ?_, ag.trans ag2⟩, n6⟩
  rw [e2]
  exact n5
theorem finished_ok (s : S1) (h : RI true s) (hh : gI s 2050 0 = 0) (hr : gI s 1282 0 ≤ 250) : ok M_Mo_finished s (fun _ s' => Fin s' ∨ (Out s' ∧ f_todo s' = 2 ∧ jA s' = jA s ∧ sF s' = sF s ∧ rN s' < rN s)) := by
  have hc := h.2.2.2.2.1.1
  have ec : gI s 72 0 = cu s := rfl
  unfold M_Mo_finished
  rw [ok_B, ok_GI, ok_B, ok_K]
  refine ⟨hc, ?_⟩
  rw [ec, ok_B, ok_PI, ok_B, ok_K]
  refine ⟨hc, ?_⟩
  rw [ok_B, ok_K]
  refine ⟨by decide, ?_⟩
  rw [ok_C]
  refine ⟨fun c => ?_, fun c => ?_⟩
  · simp only [ok_B, ok_C, ok_R, ok_L, ok_K, ok_GI, ok_GL, ok_PI, ok_PL, ok_AI, ok_AL, ok_SI, ok_SL, ok_Pr, ok_CI, cmp_lt, cmp_le, cmp_gt, cmp_ge, cmp_eq, nar0, nar1, Sum.elim_inl, Sum.elim_inr]
    have g1 : GG (sI (sI s 3585 (cu s) 3) 80 0 1) := h.1.hx (((Hx0.refl s).sI (by decide)).sI (by decide))
    have i1 : ∀ f, f ≠ 3585 → f ≠ 80 → gI (sI (sI s 3585 (cu s) 3) 80 0 1) f 0 = gI s f 0 := fun f a b => by simp only [gI_sI, gI_sL, gI_sA, gI_sB, gI_sAf, gI_sBf, gL_sI, gL_sL, gL_sA, gL_sB, gL_sAf, gL_sBf, gA_sI, gA_sL, gA_sA, gA_sB, gA_sAf, gA_sBf, gB_sI, gB_sL, gB_sA, gB_sB, gB_sAf, gB_sBf, Nat.reduceEqDiff, Nat.reduceMul, Nat.reduceAdd, false_and, true_and, and_true, and_false, if_true, if_false, a, b]
    have i2 : gI (sI (sI s 3585 (cu s) 3) 80 0 1) 80 0 = 1 := by simp only [gI_sI, gI_sL, gI_sA, gI_sB, gI_sAf, gI_sBf, gL_sI, gL_sL, gL_sA, gL_sB, gL_sAf, gL_sBf, gA_sI, gA_sL, gA_sA, gA_sB, gA_sAf, gA_sBf, gB_sI, gB_sL, gB_sA, gB_sB, gB_sAf, gB_sBf, Nat.reduceEqDiff, Nat.reduceMul, Nat.reduceAdd, false_and, true_and, and_true, and_false, if_true, if_false]
    generalize sI (sI s 3585 (cu s) 3) 80 0 1 = z at *
    have ag := zero13 g1
    have e0 : gI (sI z 1666 0 0) 1666 0 = 0 := by simp only [gI_sI, gI_sL, gI_sA, gI_sB, gI_sAf, gI_sBf, gL_sI, gL_sL, gL_sA, gL_sB, gL_sAf, gL_sBf, gA_sI, gA_sL, gA_sA, gA_sB, gA_sAf, gA_sBf, gB_sI, gB_sL, gB_sA, gB_sB, gB_sAf, gB_sBf, Nat.reduceEqDiff, Nat.reduceMul, Nat.reduceAdd, false_and, true_and, and_true, and_false, if_true, if_false]
    generalize sI z 1666 0 0 = y at *
    refine ok_mono (ended_ok y ag.1 e0) fun _ s3 ag3 => ?_
    have a13 := ag.trans ag3
    have ag4 := zero10 ag3.1
    have I : ∀ f, f ≠ 1666 → f ≠ 1282 → gI (sI s3 1282 0 0) f 0 = gI z f 0 := fun f a b => (ag4.2.1 f 0 b).trans (a13.2.1 f 0 a)
    refine Or.inl ⟨ag4.1, ?_, ?_, ?_⟩
    · exact (I 92 (by decide) (by decide)).trans ((i1 92 (by decide) (by decide)).trans h.2.1)
    · exact (I 2050 (by decide) (by decide)).trans ((i1 2050 (by decide) (by decide)).trans hh)
    · rw [I 80 (by decide) (by decide), i2]
      decide
  · rw [ok_B, ok_K]
    refine ⟨hc, ?_⟩
    rw [ok_B]
    refine ok_mono (back_ok s (sI s 3585 (cu s) 3) 3 h c (Or.inr rfl) ⟨fun f i q => by rw [gI_sI, if_neg q], by simp only [gI_sI, gI_sL, gI_sA, gI_sB, gI_sAf, gI_sBf, gL_sI, gL_sL, gL_sA, gL_sB, gL_sAf, gL_sBf, gA_sI, gA_sL, gA_sA, gA_sB, gA_sAf, gA_sBf, gB_sI, gB_sL, gB_sA, gB_sB, gB_sAf, gB_sBf, Nat.reduceEqDiff, Nat.reduceMul, Nat.reduceAdd, false_and, true_and, and_true, and_false, if_true, if_false], fun _ _ => rfl, fun _ _ _ => rfl, fun _ _ _ => rfl⟩) fun _ F ⟨rF, _, I, L, A, B, e1, e2, hres⟩ => ?_
    simp only [ok_B, ok_C, ok_R, ok_L, ok_K, ok_GI, ok_GL, ok_PI, ok_PL, ok_AI, ok_AL, ok_SI, ok_SL, ok_Pr, ok_CI, cmp_lt, cmp_le, cmp_gt, cmp_ge, cmp_eq, nar0, nar1, Sum.elim_inl, Sum.elim_inr]
    have m := ms_same (s := s) (z := F) (fun i => I 3586 i (by decide) (by decide) (by decide)) (fun a i j _ => A a i j)
    have oz := Oz.give (b := F) rF ((I 2050 0 (by decide) (by decide) (by decide)).trans hh) (by rw [I 1282 0 (by decide) (by decide) (by decide)]; exact hr) (Nat.le_refl _)
    have rx := todo_rx rF.1 rF.2.1 2
    have et : f_todo (sI F 73 0 2) = 2 := by simp only [f_todo, gI_sI, gI_sL, gI_sA, gI_sB, gI_sAf, gI_sBf, gL_sI, gL_sL, gL_sA, gL_sB, gL_sAf, gL_sBf, gA_sI, gA_sL, gA_sA, gA_sB, gA_sAf, gA_sBf, gB_sI, gB_sL, gB_sA, gB_sB, gB_sAf, gB_sBf, Nat.reduceEqDiff, Nat.reduceMul, Nat.reduceAdd, false_and, true_and, and_true, and_false, if_true, if_false]
    refine Or.inr ⟨oz.1, et, rx.ms.1.trans m.1, rx.ms.2.trans m.2, ?_⟩
    rw [rx.rn]
    exact rn_lt hc e2 hres
theorem pop_lt {s : S1} (h : RI true s) (h0 : 0 ≤ tp s) : jA (sI s 3586 (cu s) (tp s)) ≤ jA s ∧ sF (sI s 3586 (cu s) (tp s)) < sF s ∧ rN (sI s 3586 (cu s) (tp s)) = rN s := by
  have hc := h.2.2.2.2.1.1
  have hpl : 0 ≤ t_place s (cu s) := h.2.2.2.2.1.2.2.2.2.2.2.2.2.1 0 hc.1
  have q := (h.1.thr hc hpl).1.2.1
  obtain ⟨n1, n2, -⟩ := tp_num q h0
  have ef : t_frames (sI s 3586 (cu s) (tp s)) (cu s) = tp s := by simp only [t_frames, gI_sI, gI_sL, gI_sA, gI_sB, gI_sAf, gI_sBf, gL_sI, gL_sL, gL_sA, gL_sB, gL_sAf, gL_sBf, gA_sI, gA_sL, gA_sA, gA_sB, gA_sAf, gA_sBf, gB_sI, gB_sL, gB_sA, gB_sB, gB_sAf, gB_sBf, Nat.reduceEqDiff, Nat.reduceMul, Nat.reduceAdd, false_and, true_and, and_true, and_false, if_true, if_false]
  have e1 : fN (sI s 3586 (cu s) (tp s)) (cu s) < fN s (cu s) := by
    rw [fN_of q, fN_of (s := sI s 3586 (cu s) (tp s)) (by rw [ef]; exact ⟨h0, n2⟩), ef]
    exact clamp_lt h0 n1
  have hI : ∀ i, i ≠ cu s → gI (sI s 3586 (cu s) (tp s)) 3586 i = gI s 3586 i := fun i w => by simp only [gI_sI, gI_sL, gI_sA, gI_sB, gI_sAf, gI_sBf, gL_sI, gL_sL, gL_sA, gL_sB, gL_sAf, gL_sBf, gA_sI, gA_sL, gA_sA, gA_sB, gA_sAf, gA_sBf, gB_sI, gB_sL, gB_sA, gB_sB, gB_sAf, gB_sBf, Nat.reduceEqDiff, Nat.reduceMul, Nat.reduceAdd, false_and, true_and, and_true, and_false, if_true, if_false, w]
  exact ⟨(cut_ms (t := cu s) hI (fun _ _ _ _ => rfl) (Nat.le_of_lt e1)).1, cut_lt hc hI e1, rn_same fun i => by simp only [gI_sI, gI_sL, gI_sA, gI_sB, gI_sAf, gI_sBf, gL_sI, gL_sL, gL_sA, gL_sB, gL_sAf, gL_sBf, gA_sI, gA_sL, gA_sA, gA_sB, gA_sAf, gA_sBf, gB_sI, gB_sL, gB_sA, gB_sB, gB_sAf, gB_sBf, Nat.reduceEqDiff, Nat.reduceMul, Nat.reduceAdd, false_and, true_and, and_true, and_false, if_true, if_false]⟩
theorem deliver_ok (s : S1) (h : Out s) (hd : f_todo s = 2) : ok M_Mo_deliver s (fun _ s' => Od s s') := by
  obtain ⟨g, nc, hh, w⟩ := h
  have w' : Fr true s ∧ v_results_n s ≤ 250 := by
    rcases w with w | w | w | w
    · exact absurd (w.1.symm.trans hd) (by decide)
    · rcases w.1 with q | q <;> exact absurd (q.symm.trans hd) (by decide)
    · exact absurd (w.1.symm.trans hd) (by decide)
    · exact w.2
  clear w
  obtain ⟨fr, hr⟩ := w'
  have r : RI true s := ⟨g, nc, fr⟩
  unfold M_Mo_deliver
  rw [ok_B, ok_PI]
  have rx0 := todo_rx g nc 0
  have r0 := r.rx rx0
  have h0 : gI (sI s 73 0 0) 2050 0 = 0 := by
    simp only [gI_sI, gI_sL, gI_sA, gI_sB, gI_sAf, gI_sBf, gL_sI, gL_sL, gL_sA, gL_sB, gL_sAf, gL_sBf, gA_sI, gA_sL, gA_sA, gA_sB, gA_sAf, gA_sBf, gB_sI, gB_sL, gB_sA, gB_sB, gB_sAf, gB_sBf, Nat.reduceEqDiff, Nat.reduceMul, Nat.reduceAdd, false_and, true_and, and_true, and_false, if_true, if_false]
    exact hh
  have n0 : gI (sI s 73 0 0) 1282 0 ≤ 250 := by
    simp only [gI_sI, gI_sL, gI_sA, gI_sB, gI_sAf, gI_sBf, gL_sI, gL_sL, gL_sA, gL_sB, gL_sAf, gL_sBf, gA_sI, gA_sL, gA_sA, gA_sB, gA_sAf, gA_sBf, gB_sI, gB_sL, gB_sA, gB_sB, gB_sAf, gB_sBf, Nat.reduceEqDiff, Nat.reduceMul, Nat.reduceAdd, false_and, true_and, and_true, and_false, if_true, if_false]
    exact hr
  have t0 : f_todo (sI s 73 0 0) = 0 := by simp only [f_todo, gI_sI, gI_sL, gI_sA, gI_sB, gI_sAf, gI_sBf, gL_sI, gL_sL, gL_sA, gL_sB, gL_sAf, gL_sBf, gA_sI, gA_sL, gA_sA, gA_sB, gA_sAf, gA_sBf, gB_sI, gB_sL, gB_sA, gB_sB, gB_sAf, gB_sBf, Nat.reduceEqDiff, Nat.reduceMul, Nat.reduceAdd, false_and, true_and, and_true, and_false, if_true, if_false]
  have m0 := rx0.ms
  have k0 := rx0.rn
  generalize sI s 73 0 0 = z at *
  have hc := r0.2.2.2.2.1.1
  have hpl : 0 ≤ t_place z (cu z) := r0.2.2.2.2.1.2.2.2.2.2.2.2.2.1 0 hc.1
  have qf := (r0.1.thr hc hpl).1.2.1
  have ec : gI z 72 0 = cu z := rfl
  rw [ok_B, ok_GI, ec, ok_B, ok_K]
  refine ⟨hc, ?_⟩
  rw [ok_B, ok_GI, ok_C]
  refine ⟨fun _ => ?_, fun c => ?_⟩
  · rw [ok_B]
    refine ok_mono (finished_ok z r0 h0 n0) fun _ s2 q => ?_
    rw [ok_R]
    rcases q with q | ⟨q1, q2, q3, q4, q5⟩
    · exact Or.inl q
    · refine Or.inr ⟨q1, nu_lt2 hd (by rw [q3, m0.1]; exact Nat.le_refl _) (Or.inr (Or.inr (Or.inl ⟨by rw [q2]; decide, ?_⟩)))⟩
      rw [q4, m0.2, ← k0]
      omega
  have tp0 : 0 ≤ tp z := by
    have c' : t_frames z (cu z) ≠ 0 := c
    show 0 ≤ t_frames z (cu z) - 1
    generalize t_frames z (cu z) = a at *
    clear r0 rx0 r
    obtain ⟨a1, a2⟩ := qf
    grind
  have tb : 0 ≤ tp z ∧ tp z < 201 := ⟨tp0, Int32.lt_of_le_of_lt (tp_num qf tp0).2.1 (by decide)⟩
  rw [ok_B, ok_K]
  refine ⟨hc, ?_⟩
  rw [ok_B]
  have top : ok (M_Th_top (cu z)) z (fun v s' => v = tp z ∧ s' = z) := by
    simp only [M_Th_top, ok_B, ok_C, ok_R, ok_L, ok_K, ok_GI, ok_GL, ok_PI, ok_PL, ok_AI, ok_AL, ok_SI, ok_SL, ok_Pr, ok_CI, cmp_lt, cmp_le, cmp_gt, cmp_ge, cmp_eq, nar0, nar1, Sum.elim_inl, Sum.elim_inr]
    exact ⟨by trivial, by trivial⟩
  refine ok_mono top fun v s1 ⟨ev, es⟩ => ?_
  rw [ev, es, ok_B, ok_K]
  refine ⟨hc, ?_⟩
  rw [ok_B, ok_AI]
  refine ⟨tb, ?_⟩
  have rp := r0.popT tp0
  obtain ⟨p1, p2, p3⟩ := pop_lt r0 tp0
  have hp : gI (sI z 3586 (cu z) (tp z)) 2050 0 = 0 := by
    simp only [gI_sI, gI_sL, gI_sA, gI_sB, gI_sAf, gI_sBf, gL_sI, gL_sL, gL_sA, gL_sB, gL_sAf, gL_sBf, gA_sI, gA_sL, gA_sA, gA_sB, gA_sAf, gA_sBf, gB_sI, gB_sL, gB_sA, gB_sB, gB_sAf, gB_sBf, Nat.reduceEqDiff, Nat.reduceMul, Nat.reduceAdd, false_and, true_and, and_true, and_false, if_true, if_false]
    exact h0
  have np : gI (sI z 3586 (cu z) (tp z)) 1282 0 ≤ 250 := by
    simp only [gI_sI, gI_sL, gI_sA, gI_sB, gI_sAf, gI_sBf, gL_sI, gL_sL, gL_sA, gL_sB, gL_sAf, gL_sBf, gA_sI, gA_sL, gA_sA, gA_sB, gA_sAf, gA_sBf, gB_sI, gB_sL, gB_sA, gB_sB, gB_sAf, gB_sBf, Nat.reduceEqDiff, Nat.reduceMul, Nat.reduceAdd, false_and, true_and, and_true, and_false, if_true, if_false]
    exact n0
  have ef : gI z 3586 (cu z) - 1 = tp z := rfl
  have fin : ∀ s', Bo (sI z 3586 (cu z) (tp z)) s' → Od s s' := fun s' b => by
    refine Or.inr ⟨Bo.out rp b, nu_lt2 hd ?_ (Or.inr (Or.inr (Or.inl ⟨fun e => ?_, ?_⟩)))⟩
    · rw [b.1.ms.1, ← m0.1]
      exact p1
    · rcases b.2.2 with w | w
      · unfold Er at w
        rw [e] at w
        exact absurd w (by decide)
      · rw [e] at w
        exact absurd w.1 (by decide)
    · rw [b.1.ms.2, b.1.rn, p3, ← m0.2, ← k0]
      omega
  rw [ok_C]
  refine ⟨fun ck => ?_, fun ck => ?_⟩
  · rw [ok_B, ok_K]
    refine ⟨hc, ?_⟩
    rw [ok_B]
    refine ok_mono (taken_ok z ⟨r0, h0, t0, tp0, ck⟩ n0) fun _ s2 ⟨o, tj⟩ => ?_
    rw [ok_R]
    refine Or.inr ⟨o, ?_⟩
    rcases tj with q | ⟨q1, q2, q3, q4, q5⟩
    · rw [nu_zero q]
      exact nu_pos (by rw [hd]; decide)
    · rw [m0.1] at q1 q4
      rw [m0.2] at q2
      rw [k0] at q3
      refine nu_lt2 hd q1 ?_
      rcases o.2.2.2 with w | w | w | w
      · exact Or.inl w.1
      · refine Or.inr (Or.inr (Or.inr ⟨w.1, ?_⟩))
        rw [q2, q3]
        exact Nat.le_refl _
      · exact Or.inr (Or.inl ⟨w.1, q4 w.1⟩)
      · exact absurd w.1 q5
  rw [ok_C]
  refine ⟨fun _ => ?_, fun _ => ?_⟩
  · rw [ok_B, ok_K]
    refine ⟨hc, ?_⟩
    rw [ok_B, ok_GI, ef, ok_B, ok_PI, ok_B, ok_GI]
    exact ok_mono (deliver12_ok _ rp hp np) fun _ s' b => fin s' b
  rw [ok_C]
  refine ⟨fun _ => ?_, fun _ => ?_⟩
  · rw [ok_B, ok_K]
    refine ⟨hc, ?_⟩
    rw [ok_B, ok_GI, ef, ok_B, ok_PI, ok_B, ok_GI]
    exact ok_mono (deliver4_ok _ rp hp) fun _ s' b => fin s' b
  · rw [ok_B, ok_K]
    refine ⟨hc, ?_⟩
    rw [ok_B, ok_GI, ef, ok_B, ok_PI]
    simp only [ok_B, ok_C, ok_R, ok_L, ok_K, ok_GI, ok_GL, ok_PI, ok_PL, ok_AI, ok_AL, ok_SI, ok_SL, ok_Pr, ok_CI, cmp_lt, cmp_le, cmp_gt, cmp_ge, cmp_eq, nar0, nar1, Sum.elim_inl, Sum.elim_inr]
    generalize sI z 3586 (cu z) (tp z) = y at *
    have rx := todo_rx rp.1 rp.2.1 2
    refine fin _ ⟨rx, ?_, Or.inr ⟨?_, ?_⟩⟩
    · simp only [v_hand_n, gI_sI, gI_sL, gI_sA, gI_sB, gI_sAf, gI_sBf, gL_sI, gL_sL, gL_sA, gL_sB, gL_sAf, gL_sBf, gA_sI, gA_sL, gA_sA, gA_sB, gA_sAf, gA_sBf, gB_sI, gB_sL, gB_sA, gB_sB, gB_sAf, gB_sBf, Nat.reduceEqDiff, Nat.reduceMul, Nat.reduceAdd, false_and, true_and, and_true, and_false, if_true, if_false]
      exact hp
    · simp only [f_todo, gI_sI, gI_sL, gI_sA, gI_sB, gI_sAf, gI_sBf, gL_sI, gL_sL, gL_sA, gL_sB, gL_sAf, gL_sBf, gA_sI, gA_sL, gA_sA, gA_sB, gA_sAf, gA_sBf, gB_sI, gB_sL, gB_sA, gB_sB, gB_sAf, gB_sBf, Nat.reduceEqDiff, Nat.reduceMul, Nat.reduceAdd, false_and, true_and, and_true, and_false, if_true, if_false]
    · simp only [v_results_n, gI_sI, gI_sL, gI_sA, gI_sB, gI_sAf, gI_sBf, gL_sI, gL_sL, gL_sA, gL_sB, gL_sAf, gL_sBf, gA_sI, gA_sL, gA_sA, gA_sB, gA_sAf, gA_sBf, gB_sI, gB_sL, gB_sA, gB_sB, gB_sAf, gB_sBf, Nat.reduceEqDiff, Nat.reduceMul, Nat.reduceAdd, false_and, true_and, and_true, and_false, if_true, if_false]
      exact np
