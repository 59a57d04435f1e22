/-! create and wrap. -/
theorem clos95_ht (s : S1) (y : Int32 × Int32 × Int32) : ht (oW M_Mo_closure_L95 y) s (fun e _ => e.2 = y.2.1) := by
  refine ht_W (fun z _ => z.2.1 = y.2.1) ?_ y s rfl
  rintro ⟨z1, z2, z3⟩ s1 e
  dsimp only at e
  unfold M_Mo_closure_L95
  rw [ht_C]
  refine ⟨fun _ => ?_, fun _ => ?_⟩
  · rw [ht_R]
    exact e
  · rw [ht_B, ht_GI, ht_B, ht_K]
    intro _
    rw [ht_B, ht_GI, ht_B, ht_AI]
    intro _
    rw [ht_B, ht_SI]
    intro _
    rw [ht_R]
    exact e
theorem clos83_ht (s : S1) (a x b c : Int32) : ht (M_Mo_closure_j83 a x b c) s (fun v _ => v = x) := by
  unfold M_Mo_closure_j83
  rw [ht_B]
  refine ht_any fun _ s1 => ?_
  rw [ht_B]
  refine ht_any fun _ s2 => ?_
  rw [ht_B]
  refine ht_mono (clos95_ht s2 _) fun e s3 w => ?_
  rw [ht_B, ht_GI, ht_B]
  refine ht_any fun _ s4 => ?_
  rw [ht_R]
  exact w
theorem closure_er (s : S1) (p y n : Int32) : ht (M_Mo_closure p y n) s (fun v s' => v < 0 → Er s') := by
  unfold M_Mo_closure
  rw [ht_B, ht_GI, ht_C]
  refine ⟨fun _ => ?_, fun _ => ?_⟩
  · rw [ht_B]
    refine ht_mono (may_er s 0) fun v s1 w => ?_
    rw [ht_C]
    refine ⟨fun c => ?_, fun _ => ?_⟩
    · rw [ht_R]
      exact fun _ => w c
    rw [ht_B]
    refine ht_any fun x s2 => ?_
    rw [ht_B, ht_GI, ht_B]
    refine ht_any fun _ s3 => ?_
    rw [ht_B, ht_GI, ht_B]
    refine ht_any fun _ s4 => ?_
    rw [ht_B, ht_SI]
    intro hx
    have no : ∀ (v : Int32) (s' : S1), v = x → v < 0 → Er s' := fun v s' e z => by
      rw [e] at z
      exact absurd (Int32.lt_of_le_of_lt hx.1 z) Int32.lt_irrefl
    rw [ht_C]
    refine ⟨fun _ => ?_, fun _ => ht_mono (clos83_ht _ _ _ _ _) no⟩
    rw [ht_B, ht_GI]
    exact ht_mono (clos83_ht _ _ _ _ _) no
  · rw [ht_B]
    refine ht_mono (raise_er s 11) fun v s1 w => ?_
    rw [ht_R]
    exact fun _ => w.2
theorem start_ok (s : S1) (t : Int32) (hn : v_start_n s t = 0) (hv : Vl false s (gA s 8 0 0) (gB s 9 0 0)) : ok (M_Va_add_ 25 t 7 0 0) s (fun _ s2 => s2 = sB (sI (sA s 26 t 0 (gA s 8 0 0)) 3202 t 1) 27 t 0 (gB s 9 0 0)) := by
  have e : gI s 3202 t = 0 := hn
  simp only [M_Va_add_, M_Va_add, ok_B, ok_C, ok_R, ok_L, ok_K, ok_GI, ok_GL, ok_PI, ok_PL, ok_AI, ok_AL, ok_SI, ok_SL, ok_Pr, ok_CI, cmp_lt, cmp_le, cmp_gt, cmp_ge, cmp_eq, nar0, nar1, Sum.elim_inl, Sum.elim_inr, Nat.reduceMul, Nat.reduceAdd, i8_id hv.kind]
  simp only [gI_sI, gI_sL, gI_sA, gI_sB, gI_sAf, gI_sBf, gL_sI, gL_sL, gL_sA, gL_sB, gL_sAf, gL_sBf, gA_sI, gA_sL, gA_sA, gA_sB, gA_sAf, gA_sBf, gB_sI, gB_sL, gB_sA, gB_sB, gB_sAf, gB_sBf, Nat.reduceEqDiff, Nat.reduceMul, Nat.reduceAdd, false_and, true_and, and_true, and_false, if_true, if_false, e]
  exact ⟨by decide, by decide, by decide, by decide, rfl⟩
theorem Ft.start {s s' : S1} {t a : Int32} {b : Int64} (h : Ft s s' t) : Ft s (sB (sI (sA s' 26 t 0 a) 3202 t 1) 27 t 0 b) t := by
  refine ⟨fun f i q => ?_, h.2.1, fun c i j q => ?_, fun c i j q => ?_, ?_⟩
  · rw [gI_sB, gI_sI, if_neg, gI_sA]
    · exact h.1 f i q
    · rintro ⟨z1, z2⟩
      rcases q with q | q
      · exact q.2.2.2.2.2.2.2.1 z1
      · exact q.2 z2
  · rw [gA_sB, gA_sI, gA_sA, if_neg]
    · exact h.2.2.1 c i j q
    · rintro ⟨z1, z2, -⟩
      exact q.elim (fun w => w z1) (fun w => w z2)
  · rw [gB_sB, if_neg, gB_sI, gB_sA]
    · exact h.2.2.2.1 c i j q
    · rintro ⟨z1, z2, -⟩
      exact q.elim (fun w => w z1) (fun w => w z2)
  · rw [gI_sB, gI_sI, if_neg (fun z => absurd z.1 (by decide)), gI_sA]
    exact h.2.2.2.2
theorem wrap_dv (b s s2 : S1) (m : jA s2 ≤ jA b) (v : Int32) (r2 : RI true s2) (h2 : gI s2 2050 0 = 0) (lv : Lv false s2 v 7) : ok (oB (oGI 2050 0) fun v66 =>
        oB (M_Va_add 16 0 7 v.toInt64) fun _ =>
        oB (M_Mo_closure (-1) v 0) fun v85 =>
        oB (oPI 2050 0 v66) fun _ =>
        oC (v85 < 0)
          (oR ())
          (oB (M_Mo_give 6 v85.toInt64) fun _ =>
          oR ())) s2 (fun _ s' => Dv s s' ∧ jA s' ≤ jA b) := by
  have vl := Vl.of lv ⟨by decide, by decide⟩ r2.1.used.2
  simp only [ok_B, ok_C, ok_R, ok_L, ok_K, ok_GI, ok_GL, ok_PI, ok_PL, ok_AI, ok_AL, ok_SI, ok_SL, ok_Pr, ok_CI, cmp_lt, cmp_le, cmp_gt, cmp_ge, cmp_eq, nar0, nar1, Sum.elim_inl, Sum.elim_inr]
  rw [h2]
  refine ok_mono (handAdd_ok s2 7 v.toInt64 r2.1 (by show gI s2 2050 0 < 64; rw [h2]; decide) (Or.inl vl) ⟨by decide, by decide⟩) fun _ s3 ⟨nx3, es3⟩ => ?_
  have rx3 := nx3.rx r2.2.1
  have r3 := r2.rx rx3
  have e0 : v_hand_n s2 = 0 := h2
  rw [e0] at es3
  have h3 : gI s3 2050 0 = 1 := by
    rw [es3]
    simp only [gI_sI, gI_sL, gI_sA, gI_sB, gI_sAf, gI_sBf, gL_sI, gL_sL, gL_sA, gL_sB, gL_sAf, gL_sBf, gA_sI, gA_sL, gA_sA, gA_sB, gA_sAf, gA_sBf, gB_sI, gB_sL, gB_sA, gB_sB, gB_sAf, gB_sBf, Nat.reduceEqDiff, Nat.reduceMul, Nat.reduceAdd, false_and, true_and, and_true, and_false, if_true, if_false]
    rfl
  have k3 : gA s3 17 0 0 = 7 := by
    rw [es3]
    simp only [gI_sI, gI_sL, gI_sA, gI_sB, gI_sAf, gI_sBf, gL_sI, gL_sL, gL_sA, gL_sB, gL_sAf, gL_sBf, gA_sI, gA_sL, gA_sA, gA_sB, gA_sAf, gA_sBf, gB_sI, gB_sL, gB_sA, gB_sB, gB_sAf, gB_sBf, Nat.reduceEqDiff, Nat.reduceMul, Nat.reduceAdd, false_and, true_and, and_true, and_false, if_true, if_false]
  have w3 : gB s3 18 0 0 = v.toInt64 := by
    rw [es3]
    simp only [gI_sI, gI_sL, gI_sA, gI_sB, gI_sAf, gI_sBf, gL_sI, gL_sL, gL_sA, gL_sB, gL_sAf, gL_sBf, gA_sI, gA_sL, gA_sA, gA_sB, gA_sAf, gA_sBf, gB_sI, gB_sL, gB_sA, gB_sB, gB_sAf, gB_sBf, Nat.reduceEqDiff, Nat.reduceMul, Nat.reduceAdd, false_and, true_and, and_true, and_false, if_true, if_false]
  clear es3
  refine ok_mono ((closure_x s3 (-1) v 0 r3.1 ⟨by decide, by decide⟩ (by decide) (fun z => absurd z (by decide)) (fun z => absurd z (by decide)) (fun _ s5 g5 gc5 => ?_)).and (closure_er s3 (-1) v 0)) fun x s4 ⟨md, er⟩ => ?_
  · have nc5 : f_noCollection s5 = 0 := (gc5.I 92 (by decide) 0).trans r3.2.1
    have h5 : gI s5 2050 0 = 1 := (gc5.I 2050 (by decide) 0).trans h3
    have w := (g5.2 nc5).2.2.2.2.1 0 (by decide) (by show (0 : Int32) < 0 + gI s5 2050 0; rw [h5]; decide)
    have ek : gA s5 17 0 0 = 7 := (gc5.x.A 17 (by decide) 0 0).trans k3
    have ew : gB s5 18 0 0 = v.toInt64 := (gc5.2.2.2.1 18 0 0 (by decide)).trans w3
    simp only [Nat.reduceAdd] at w
    rw [ek, ew] at w
    rcases w with w | w
    · have q := w.to (by decide) (by decide)
      rw [i64_back] at q
      exact q
    · exact absurd w.1 (by decide)
  · have nx4 := Nx.mdx r3.1 md
    have rx4 := nx4.rx r3.2.1
    have h4 : gI s4 2050 0 = 1 := by
      rcases md.2 with ⟨_, gx, _⟩ | ⟨s0, _, gc, _, hM, _⟩
      · exact (gx.I 2050 (by decide) 0).trans h3
      · exact ((hM.I 2050 (by decide) 0).trans (gc.I 2050 (by decide) 0)).trans h3
    have rx5 := (Nx.handN (n := 0) rx4.1 ⟨by decide, by show (0 : Int32) ≤ gI s4 2050 0; rw [h4]; decide⟩).rx rx4.2.1
    have r5 := (r3.rx rx4).rx rx5
    have h5 : v_hand_n (sI s4 2050 0 0) = 0 := by simp only [v_hand_n, gI_sI, gI_sL, gI_sA, gI_sB, gI_sAf, gI_sBf, gL_sI, gL_sL, gL_sA, gL_sB, gL_sAf, gL_sBf, gA_sI, gA_sL, gA_sA, gA_sB, gA_sAf, gA_sBf, gB_sI, gB_sL, gB_sA, gB_sB, gB_sAf, gB_sBf, Nat.reduceEqDiff, Nat.reduceMul, Nat.reduceAdd, false_and, true_and, and_true, and_false, if_true, if_false]
    have m5 : jA (sI s4 2050 0 0) ≤ jA b := by
      rw [rx5.ms.1, rx4.ms.1, rx3.ms.1]
      exact m
    have t5 : f_todo (sI s4 2050 0 0) = f_todo s4 := by simp only [f_todo, gI_sI, gI_sL, gI_sA, gI_sB, gI_sAf, gI_sBf, gL_sI, gL_sL, gL_sA, gL_sB, gL_sAf, gL_sBf, gA_sI, gA_sL, gA_sA, gA_sB, gA_sAf, gA_sBf, gB_sI, gB_sL, gB_sA, gB_sB, gB_sAf, gB_sBf, Nat.reduceEqDiff, Nat.reduceMul, Nat.reduceAdd, false_and, true_and, and_true, and_false, if_true, if_false]
    refine ⟨fun c => ⟨⟨r5, h5, Or.inl ?_⟩, m5⟩, fun c => ?_⟩
    · unfold Er
      rw [t5]
      exact er c
    · have l4 : Lv false s4 x 6 := by
        rcases md.2 with ⟨e, _⟩ | ⟨s0, _, _, _, _, _, l⟩
        · rw [e] at c
          exact absurd (by decide) c
        · exact l
      have l5 : Lv false (sI s4 2050 0 0) x 6 := by
        unfold Lv at *
        simp only [f_used, a_sort, a_marked, gI_sI, gI_sL, gI_sA, gI_sB, gI_sAf, gI_sBf, gL_sI, gL_sL, gL_sA, gL_sB, gL_sAf, gL_sBf, gA_sI, gA_sL, gA_sA, gA_sB, gA_sAf, gA_sBf, gB_sI, gB_sL, gB_sA, gB_sB, gB_sAf, gB_sBf, Nat.reduceEqDiff, Nat.reduceMul, Nat.reduceAdd, false_and, true_and, and_true, and_false, if_true, if_false] at *
        exact l4
      generalize sI s4 2050 0 0 = z at *
      exact ok_mono (give_bo z 6 x.toInt64 r5.1 r5.2.1 h5 (Vl.of l5 ⟨by decide, by decide⟩ r5.1.used.2)) fun _ s6 k => ⟨Dv.bo r5 k.1, by rw [k.1.1.ms.1]; exact m5⟩
theorem made_ri {s s0 s1 s' s2 : S1} {v t : Int32} (hr : RI true s) (an : ¬ gI s 898 0 ≤ 0) (nt : Nt s s0 s1 s' v t) (es : s2 = sB (sI (sA s' 26 t 0 (gA s' 8 0 0)) 3202 t 1) 27 t 0 (gB s' 9 0 0)) (v1 : Vl false s1 (gA s' 8 0 0) (gB s' 9 0 0)) : RI true s2 ∧ gI s2 2050 0 = gI s 2050 0 ∧ Lv false s2 v 7 ∧ jA s2 ≤ jA s := by
  obtain ⟨g0, gc, kl, hM, hnm, hst, ht, hp, ef, ft, ep, e85, e86, e87, e02, e39, -⟩ := nt
  have ft2 : Ft s1 s2 t := by
    rw [es]
    exact ft.start
  have p84 : t_place s2 t = v := by
    rw [es]
    simp only [t_place, gI_sI, gI_sL, gI_sA, gI_sB, gI_sAf, gI_sBf, gL_sI, gL_sL, gL_sA, gL_sB, gL_sAf, gL_sBf, gA_sI, gA_sL, gA_sA, gA_sB, gA_sAf, gA_sBf, gB_sI, gB_sL, gB_sA, gB_sB, gB_sAf, gB_sBf, Nat.reduceEqDiff, Nat.reduceMul, Nat.reduceAdd, false_and, true_and, and_true, and_false, if_true, if_false]
    exact ep
  have p85 : t_state s2 t = 0 := by
    rw [es]
    simp only [t_state, gI_sI, gI_sL, gI_sA, gI_sB, gI_sAf, gI_sBf, gL_sI, gL_sL, gL_sA, gL_sB, gL_sAf, gL_sBf, gA_sI, gA_sL, gA_sA, gA_sB, gA_sAf, gA_sBf, gB_sI, gB_sL, gB_sA, gB_sB, gB_sAf, gB_sBf, Nat.reduceEqDiff, Nat.reduceMul, Nat.reduceAdd, false_and, true_and, and_true, and_false, if_true, if_false]
    exact e85
  have p86 : t_frames s2 t = 0 := by
    rw [es]
    simp only [t_frames, gI_sI, gI_sL, gI_sA, gI_sB, gI_sAf, gI_sBf, gL_sI, gL_sL, gL_sA, gL_sB, gL_sAf, gL_sBf, gA_sI, gA_sL, gA_sA, gA_sB, gA_sAf, gA_sBf, gB_sI, gB_sL, gB_sA, gB_sB, gB_sAf, gB_sBf, Nat.reduceEqDiff, Nat.reduceMul, Nat.reduceAdd, false_and, true_and, and_true, and_false, if_true, if_false]
    exact e86
  have p87 : t_openCount s2 t = 0 := by
    rw [es]
    simp only [t_openCount, gI_sI, gI_sL, gI_sA, gI_sB, gI_sAf, gI_sBf, gL_sI, gL_sL, gL_sA, gL_sB, gL_sAf, gL_sBf, gA_sI, gA_sL, gA_sA, gA_sB, gA_sAf, gA_sBf, gB_sI, gB_sL, gB_sA, gB_sB, gB_sAf, gB_sBf, Nat.reduceEqDiff, Nat.reduceMul, Nat.reduceAdd, false_and, true_and, and_true, and_false, if_true, if_false]
    exact e87
  have p02 : v_start_n s2 t = 1 := by
    rw [es]
    simp only [v_start_n, gI_sI, gI_sL, gI_sA, gI_sB, gI_sAf, gI_sBf, gL_sI, gL_sL, gL_sA, gL_sB, gL_sAf, gL_sBf, gA_sI, gA_sL, gA_sA, gA_sB, gA_sAf, gA_sBf, gB_sI, gB_sL, gB_sA, gB_sB, gB_sAf, gB_sBf, Nat.reduceEqDiff, Nat.reduceMul, Nat.reduceAdd, false_and, true_and, and_true, and_false, if_true, if_false]
  have p39 : f_coroutines s2 = f_coroutines s0 + 1 := by
    rw [es]
    simp only [f_coroutines, gI_sI, gI_sL, gI_sA, gI_sB, gI_sAf, gI_sBf, gL_sI, gL_sL, gL_sA, gL_sB, gL_sAf, gL_sBf, gA_sI, gA_sL, gA_sA, gA_sB, gA_sAf, gA_sBf, gB_sI, gB_sL, gB_sA, gB_sB, gB_sAf, gB_sBf, Nat.reduceEqDiff, Nat.reduceMul, Nat.reduceAdd, false_and, true_and, and_true, and_false, if_true, if_false]
    exact e39
  have pk : v_start_k s2 t 0 = gA s' 8 0 0 := by
    rw [es]
    simp only [v_start_k, gI_sI, gI_sL, gI_sA, gI_sB, gI_sAf, gI_sBf, gL_sI, gL_sL, gL_sA, gL_sB, gL_sAf, gL_sBf, gA_sI, gA_sL, gA_sA, gA_sB, gA_sAf, gA_sBf, gB_sI, gB_sL, gB_sA, gB_sB, gB_sAf, gB_sBf, Nat.reduceEqDiff, Nat.reduceMul, Nat.reduceAdd, false_and, true_and, and_true, and_false, if_true, if_false]
  have pv : v_start_v s2 t 0 = gB s' 9 0 0 := by
    rw [es]
    simp only [v_start_v, gI_sI, gI_sL, gI_sA, gI_sB, gI_sAf, gI_sBf, gL_sI, gL_sL, gL_sA, gL_sB, gL_sAf, gL_sBf, gA_sI, gA_sL, gA_sA, gA_sB, gA_sAf, gA_sBf, gB_sI, gB_sL, gB_sA, gB_sB, gB_sAf, gB_sBf, Nat.reduceEqDiff, Nat.reduceMul, Nat.reduceAdd, false_and, true_and, and_true, and_false, if_true, if_false]
  have g2 : GG s2 := by
    refine GG.mkt g0 hM hnm hst ht hp ef ft2 p84 p39 ⟨?_, ?_, ?_, fun f a b => ?_⟩ ⟨fun i a b => ?_, fun f a b => ?_, fun k a b => ?_⟩ p87
    · rw [p02]
      exact ⟨by decide, by decide⟩
    · rw [p86]
      exact ⟨by decide, by decide⟩
    · rw [p87]
      exact ⟨by decide, by decide⟩
    · rw [p86] at b
      exact absurd (Int32.lt_of_le_of_lt a b) Int32.lt_irrefl
    · rw [p02] at b
      have e : i = 0 := by
        have b2 : i < 1 := b
        clear b
        grind
      rw [e, pk, pv]
      exact (Vl.ft ft2).mpr v1
    · rw [p86] at b
      exact absurd (Int32.lt_of_le_of_lt a b) Int32.lt_irrefl
    · rw [p87] at b
      exact absurd (Int32.lt_of_le_of_lt a b) Int32.lt_irrefl
  have fe0 := Fe.gcx g0.1 hr.2.1 gc.x hr.1.1.1 hr.2.2.2.2.1
  have t0 := hr.2.2.2.2.1.fe fe0
  have fr1 := (hr.2.2.fe fe0).fe (Fe.mk2 hM g0.1.1 t0)
  have pl : t_place s1 t < 0 := by
    have e : t_place s1 t = t_place s0 t := hM.I 3584 (by decide) t
    rw [e]
    exact hp
  refine ⟨⟨g2, ?_, fr1.ft ft2 pl p85 p86 (by rw [p02]; decide)⟩, ?_, (Lv.ft ft2).mpr ⟨hM.1.1, hM.1.2.1, by rw [hM.S, if_pos rfl], fun z => by cases z⟩, ?_⟩
  · exact ((ft2.I 92 (by decide) 0).trans (hM.I 92 (by decide) 0)).trans ((gc.I 92 (by decide) 0).trans hr.2.1)
  · exact ((ft2.I 2050 (by decide) 0).trans (hM.I 2050 (by decide) 0)).trans (gc.I 2050 (by decide) 0)
  · have rx0 := (Nx.gcx hr.1 g0.1 gc.x kl).rx hr.2.1
    have m1 := ms_same (s := s0) (z := s1) (fun i => hM.I 3586 (by decide) i) (fun a i j q => hM.A a (by rcases q with e | e | e <;> subst e <;> decide) i j)
    have m2 := (cut_ms (s := s1) (s' := s2) (t := t) (fun i q => ft2.J q 3586 (by decide)) (fun a i j q => ft2.A a (by rcases q with e | e | e <;> subst e <;> decide) i j) (by unfold fN; rw [p86]; exact Nat.zero_le _)).1
    rw [m1.1, rx0.ms.1] at m2
    exact m2
theorem create_dv (s : S1) (k : Int32) (h : q_Bi s) : ok (M_Mo_create k) s (fun _ s' => Dv s s' ∧ jA s' ≤ jA s) := by
  obtain ⟨hr, _, hh, ha⟩ := h
  have hg := hr.1
  have hz := hr.2.1
  unfold M_Mo_create
  rw [ok_B]
  refine ok_mono (is_ok s 0 6 hg (by decide)) fun v s1 ⟨_, i2, es⟩ => ?_
  rw [es, ok_C]
  refine ⟨fun _ => ?_, fun c => ?_⟩
  · simp only [ok_B, ok_C, ok_R, ok_L, ok_K, ok_GI, ok_GL, ok_PI, ok_PL, ok_AI, ok_AL, ok_SI, ok_SL, ok_Pr, ok_CI, cmp_lt, cmp_le, cmp_gt, cmp_ge, cmp_eq, nar0, nar1, Sum.elim_inl, Sum.elim_inr]
    exact ok_mono (raise_bo s 1 hg hz hh) fun _ s' b => ⟨Dv.bo hr b, Nat.le_of_eq b.1.ms.1⟩
  have a6 := i2 c
  have an : ¬ gI s 898 0 ≤ 0 := fun w => by
    unfold akv at a6
    rw [if_pos w] at a6
    exact absurd a6 (by decide)
  rw [ok_B]
  refine ok_mono ((thread__ok s hg).and (thread__er s)) fun v s' ⟨w, er⟩ => ?_
  rw [ok_C]
  refine ⟨fun c2 => ?_, fun c2 => ?_⟩
  · rcases w with ⟨e, -⟩ | ⟨s0, sm, t, nt⟩
    · rw [e] at c2
      exact absurd c2 (by decide)
    · have nt' := nt
      obtain ⟨g0, gc, kl, hM, hnm, hst, ht, hp, ef, ft, ep, e85, e86, e87, e02, e39, -⟩ := nt'
      have e62 : gA s' 62 0 v = t := (ft.A 62 (by decide) 0 v).trans ef
      have hv : 0 ≤ v ∧ v < 4100 := ⟨hM.1.1, Int32.lt_trans (Int32.lt_of_lt_of_le hM.1.2.1 hM.1.2.2) (by decide)⟩
      rw [ok_B, ok_AI]
      refine ⟨hv, ?_⟩
      rw [e62, ok_B, ok_K]
      refine ⟨ht, ?_⟩
      have an1 : gI sm 898 0 = gI s 898 0 := (hM.I 898 (by decide) 0).trans (gc.I 898 (by decide) 0)
      have v1 : Vl false sm (gA sm 8 0 0) (gB sm 9 0 0) := (g0.2.2.2.1.mk2 hM).2.2.2.2.2.1 0 (by decide) (by show (0 : Int32) < gI sm 898 0; rw [an1]; exact Int32.not_le.mp an)
      have ek : gA s' 8 0 0 = gA sm 8 0 0 := ft.A 8 (by decide) 0 0
      have ev : gB s' 9 0 0 = gB sm 9 0 0 := ft.B 9 (by decide) 0 0
      rw [← ek, ← ev] at v1
      have v2 : Vl false s' (gA s' 8 0 0) (gB s' 9 0 0) := (Vl.ft ft).mpr v1
      rw [ok_B]
      refine ok_mono (start_ok s' t e02 v2) fun _ s2 es2 => ?_
      obtain ⟨r2, h2, lv, mj⟩ := made_ri hr an nt es2 v1
      have h2' : gI s2 2050 0 = 0 := h2.trans hh
      rw [ok_C]
      refine ⟨fun _ => ?_, fun _ => wrap_dv s s s2 mj v r2 h2' lv⟩
      simp only [ok_B, ok_C, ok_R, ok_L, ok_K, ok_GI, ok_GL, ok_PI, ok_PL, ok_AI, ok_AL, ok_SI, ok_SL, ok_Pr, ok_CI, cmp_lt, cmp_le, cmp_gt, cmp_ge, cmp_eq, nar0, nar1, Sum.elim_inl, Sum.elim_inr]
      exact ok_mono (give_bo s2 7 v.toInt64 r2.1 r2.2.1 h2' (Vl.of lv ⟨by decide, by decide⟩ r2.1.used.2)) fun _ s3 b => ⟨Dv.bo r2 b.1, by rw [b.1.1.ms.1]; exact mj⟩
  · rcases w with ⟨e, g', gx, kl⟩ | ⟨s0, sm, t, nt⟩
    · have rx := (Nx.gcx hg g'.1 gx kl).rx hz
      rw [ok_R]
      exact ⟨⟨hr.rx rx, (gx.I 2050 (by decide) 0).trans hh, Or.inl (er c2)⟩, Nat.le_of_eq rx.ms.1⟩
    · exact absurd nt.2.2.2.1.1.1 c2
