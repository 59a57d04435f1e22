/-! The beginning, whole. -/
def Gb (z : S1) (g : Int32) : Prop := gI z 74 0 = g ∧ Lv false z g 5 ∧ Bgn z g 0
theorem Gb.bq {z z' : S1} {g : Int32} {w : Nat} (h : Gb z g) (k : Bq w z z') : Gb z' g := by
  obtain ⟨h1, h2, h3, h4, h5⟩ := h
  obtain ⟨q1, q2, q3⟩ := k.2.2.2.2.2.2.2.1 g 5 h2 (by decide)
  refine ⟨(k.2.2.2.2.1 74 0 (by decide)).trans h1, q1, ?_, ?_, ?_⟩
  · rw [q2, k.2.2.2.2.2.2.2.2.2.1]
    exact h3
  · rw [q2]
    exact h4
  · rw [q3]
    exact h5
theorem Bq.g3 {z z' : S1} {w : Nat} (k : Bq w z z') (hw : w ≠ 3) (j : Int32) : gB z' 3 0 j = gB z 3 0 j := k.2.2.2.2.2.2.1 3 0 j (by decide) (fun _ => hw)
theorem begin_ok (s : S1) (h : Cl0 s) (hp : Pg s) (hu : a_upvalues s 0 = 1) (hk : RdK s) (rk : ∃ ρ, Rk ρ s) : ok M_Mo_begin s (fun v s' => (v = 0 ∧ Bf s s') ∨ (v = 1 ∧ Out s')) := by
  have g0 := cl_gg h
  have n0 : f_noCollection s = 1 := h.2.2.2.2.2.1.2.2.2.2.2
  have z0 : f_noCollection s ≠ 0 := by
    rw [n0]
    decide
  have b0 : BS s s := ⟨g0, n0, h.2.2.2.2.1.2.2.2, fun t a b => by rw [h.2.2.2.1 t a b]; decide, fun _ _ _ _ => rfl, fun _ _ _ _ _ _ _ => rfl, Or.inl h.2.2.2.2.2.1.2.2.1⟩
  have r0 : f_rooms s = 0 := h.2.1.2.2.1
  have no : ∀ z, BS s z → ok (oR 0 : M Int32) z (fun v s' => (v = 0 ∧ Bf s s') ∨ (v = 1 ∧ Out s')) := fun z b => by
    rw [ok_R]
    exact Or.inl ⟨rfl, b.f⟩
  unfold M_Mo_begin
  rw [ok_B]
  refine ok_mono (((table_x s g0).and (kz_Mo_table s)).and (kw_Mo_table s)) fun g s1 ⟨⟨md, kz⟩, kw⟩ => ?_
  have q1 := Bq.mdx 86 g0 z0 md (kz z0).2 kw
  have b1 := b0.bq q1 (Or.inr (by decide))
  have t1 : ∀ j, gB s1 3 0 j = gB s 3 0 j := q1.g3 (by decide)
  rw [ok_B, ok_PI]
  have b2 : BS s (sI s1 74 0 g) := by
    have bz := b1.z
    obtain ⟨x1, x2, x3, x4, x5, x6, x7⟩ := b1
    refine ⟨x1.glob bz, ?_, ?_, fun t a b => ?_, fun f i p q => ?_, x6, ?_⟩
    · simp only [f_noCollection, gI_sI, gI_sL, gI_sA, gI_sB, gI_sAf, gI_sBf, gL_sI, gL_sL, gL_sA, gL_sB, gL_sAf, gL_sBf, gA_sI, gA_sL, gA_sA, gA_sB, gA_sAf, gA_sBf, gB_sI, gB_sL, gB_sA, gB_sB, gB_sAf, gB_sBf, Nat.reduceEqDiff, Nat.reduceMul, Nat.reduceAdd, false_and, true_and, and_true, and_false, if_true, if_false]
      exact x2
    · simp only [v_hand_n, gI_sI, gI_sL, gI_sA, gI_sB, gI_sAf, gI_sBf, gL_sI, gL_sL, gL_sA, gL_sB, gL_sAf, gL_sBf, gA_sI, gA_sL, gA_sA, gA_sB, gA_sAf, gA_sBf, gB_sI, gB_sL, gB_sA, gB_sB, gB_sAf, gB_sBf, Nat.reduceEqDiff, Nat.reduceMul, Nat.reduceAdd, false_and, true_and, and_true, and_false, if_true, if_false]
      exact x3
    · simp only [t_place, gI_sI, gI_sL, gI_sA, gI_sB, gI_sAf, gI_sBf, gL_sI, gL_sL, gL_sA, gL_sB, gL_sAf, gL_sBf, gA_sI, gA_sL, gA_sA, gA_sB, gA_sAf, gA_sBf, gB_sI, gB_sL, gB_sA, gB_sB, gB_sAf, gB_sBf, Nat.reduceEqDiff, Nat.reduceMul, Nat.reduceAdd, false_and, true_and, and_true, and_false, if_true, if_false]
      exact x4 t a b
    · simp only [gI_sI, gI_sL, gI_sA, gI_sB, gI_sAf, gI_sBf, gL_sI, gL_sL, gL_sA, gL_sB, gL_sAf, gL_sBf, gA_sI, gA_sL, gA_sA, gA_sB, gA_sAf, gA_sBf, gB_sI, gB_sL, gB_sA, gB_sB, gB_sAf, gB_sBf, Nat.reduceEqDiff, Nat.reduceMul, Nat.reduceAdd, false_and, true_and, and_true, and_false, if_true, if_false, q]
      exact x5 f i p q
    · simp only [f_todo, gI_sI, gI_sL, gI_sA, gI_sB, gI_sAf, gI_sBf, gL_sI, gL_sL, gL_sA, gL_sB, gL_sAf, gL_sBf, gA_sI, gA_sL, gA_sA, gA_sB, gA_sAf, gA_sBf, gB_sI, gB_sL, gB_sA, gB_sB, gB_sAf, gB_sBf, Nat.reduceEqDiff, Nat.reduceMul, Nat.reduceAdd, false_and, true_and, and_true, and_false, if_true, if_false]
      exact x7
  have e74 : gI (sI s1 74 0 g) 74 0 = g := by simp only [gI_sI, gI_sL, gI_sA, gI_sB, gI_sAf, gI_sBf, gL_sI, gL_sL, gL_sA, gL_sB, gL_sAf, gL_sBf, gA_sI, gA_sL, gA_sA, gA_sB, gA_sAf, gA_sBf, gB_sI, gB_sL, gB_sA, gB_sB, gB_sAf, gB_sBf, Nat.reduceEqDiff, Nat.reduceMul, Nat.reduceAdd, false_and, true_and, and_true, and_false, if_true, if_false]
  have lw2 : ∀ y k, Lv false (sI s1 74 0 g) y k ↔ Lv false s1 y k := fun y k => by
    unfold Lv
    simp only [f_used, a_sort, a_marked, gI_sI, gI_sL, gI_sA, gI_sB, gI_sAf, gI_sBf, gL_sI, gL_sL, gL_sA, gL_sB, gL_sAf, gL_sBf, gA_sI, gA_sL, gA_sA, gA_sB, gA_sAf, gA_sBf, gB_sI, gB_sL, gB_sA, gB_sB, gB_sAf, gB_sBf, Nat.reduceEqDiff, Nat.reduceMul, Nat.reduceAdd, false_and, true_and, and_true, and_false, if_true, if_false]
  have gb2 : 0 ≤ g → Gb (sI s1 74 0 g) g := fun c => by
    rcases md.2 with ⟨e, _⟩ | ⟨sa, _, _, _, _, e5, l⟩
    · rw [e] at c
      exact absurd c (by decide)
    · have er : f_rooms s1 = 0 := (kz z0).2.trans r0
      refine ⟨e74, (lw2 g 5).mpr l, ?_, ?_, ?_⟩
      · show gI (sI s1 74 0 g) 36 0 = a_second s1 g
        rw [e5.2.2.1]
        simp only [gI_sI, gI_sL, gI_sA, gI_sB, gI_sAf, gI_sBf, gL_sI, gL_sL, gL_sA, gL_sB, gL_sAf, gL_sBf, gA_sI, gA_sL, gA_sA, gA_sB, gA_sAf, gA_sBf, gB_sI, gB_sL, gB_sA, gB_sB, gB_sAf, gB_sBf, Nat.reduceEqDiff, Nat.reduceMul, Nat.reduceAdd, false_and, true_and, and_true, and_false, if_true, if_false]
        exact er
      · show a_second s1 g ≤ 96
        rw [e5.2.2.1]
        decide
      · show a_third s1 g ≤ 0
        rw [e5.2.2.2.1]
        decide
  have t2 : ∀ j, gB (sI s1 74 0 g) 3 0 j = gB s 3 0 j := t1
  generalize sI s1 74 0 g = s2 at *
  rw [ok_B, ok_GI, e74, ok_C]
  refine ⟨fun _ => no s2 b2, fun c => ?_⟩
  have gb2 := gb2 (Int32.not_lt.mp c)
  rw [ok_B]
  refine ok_mono (words_ok s2 78 85 b2.1 b2.z (by decide) ⟨by decide, by decide⟩ ⟨rfl, by decide⟩ name78) fun v3 s3 ⟨q3, k3⟩ => ?_
  have b3 := b2.bq q3 (Or.inr (by decide))
  rw [ok_C]
  refine ⟨fun _ => no s3 b3, fun c3 => ?_⟩
  have n3 : Nam s3 85 24 := k3 c3
  rw [ok_B]
  refine ok_mono (words_ok s3 79 82 b3.1 b3.z (by decide) ⟨by decide, by decide⟩ ⟨rfl, by decide⟩ name79) fun v4 s4 ⟨q4, k4⟩ => ?_
  have b4 := b3.bq q4 (Or.inr (by decide))
  rw [ok_C]
  refine ⟨fun _ => no s4 b4, fun c4 => ?_⟩
  have n4 : Nam s4 82 22 := k4 c4
  rw [ok_B]
  refine ok_mono (words_ok s4 80 83 b4.1 b4.z (by decide) ⟨by decide, by decide⟩ ⟨rfl, by decide⟩ name80) fun v5 s5 ⟨q5, k5⟩ => ?_
  have b5 := b4.bq q5 (Or.inr (by decide))
  rw [ok_C]
  refine ⟨fun _ => no s5 b5, fun c5 => ?_⟩
  have n5 : Nam s5 83 7 := k5 c5
  rw [ok_B]
  refine ok_mono (words_ok s5 81 84 b5.1 b5.z (by decide) ⟨by decide, by decide⟩ ⟨rfl, by decide⟩ name81) fun v6 s6 ⟨q6, k6⟩ => ?_
  have b6 := b5.bq q6 (Or.inr (by decide))
  rw [ok_C]
  refine ⟨fun _ => no s6 b6, fun c6 => ?_⟩
  have n6 : Nam s6 84 4 := k6 c6
  have m85 := ((n3.bq q4 (by decide)).bq q5 (by decide)).bq q6 (by decide)
  have m82 := (n4.bq q5 (by decide)).bq q6 (by decide)
  have m83 := n5.bq q6 (by decide)
  have gb6 := (((gb2.bq q3).bq q4).bq q5).bq q6
  have t6 : ∀ j, gB s6 3 0 j = gB s 3 0 j := fun j => (q6.g3 (by decide) j).trans ((q5.g3 (by decide) j).trans ((q4.g3 (by decide) j).trans ((q3.g3 (by decide) j).trans (t2 j))))
  clear n3 n4 n5 k3 k4 k5 k6 c3 c4 c5 c6 gb2 t2 t1 q3 q4 q5 q1
  rw [ok_B]
  refine ok_mono (((newVariable_x s6 b6.1).and (kz_Mo_newVariable s6)).and (kw_Mo_newVariable s6)) fun x s7 ⟨⟨md7, kz7⟩, kw7⟩ => ?_
  have q7 := Bq.mdx 86 b6.1 b6.z md7 (kz7 b6.z).2 kw7
  have b7 := b6.bq q7 (Or.inr (by decide))
  rw [ok_C]
  refine ⟨fun x0 => ?_, fun _ => no s7 b7⟩
  have l7 : Lv false s7 x 8 := by
    rcases md7.2 with ⟨e, _⟩ | ⟨sa, _, _, _, _, _, l⟩
    · rw [e] at x0
      exact absurd x0 (by decide)
    · exact l
  have gb7 := gb6.bq q7
  rw [ok_B, ok_GI, gb7.1, ok_B]
  refine ok_mono (setV_ok s7 x 5 g.toInt64 (l7.b b7.1) (Vl.of gb7.2.1 ⟨by decide, by decide⟩ b7.1.used.2)) fun _ s8 ⟨_, sv⟩ => ?_
  have q8 := q_Sv.bq b7.1 sv
  have b8 := b7.bq q8 (Or.inr (by decide))
  have q78 := q7.trans q8
  have gb8 := gb6.bq q78
  have l8 := (q8.2.2.2.2.2.2.2.1 x 8 l7 (by decide)).1
  have t8 : ∀ j, gB s8 3 0 j = gB s 3 0 j := fun j => (q78.g3 (by decide) j).trans (t6 j)
  have e25 : f_constCount s8 = f_constCount s := b8.2.2.2.2.1 25 0 (by decide) (by decide)
  have rk8 : RdK s8 := fun i a b => by
    have e : nuK s8 = nuK s := by simp only [nuK, e25]
    rw [e] at b
    have w := hk i a b
    simp only [v_constants_k, v_constants_v, a_constText, t8, b8.2.2.2.2.2.1 2 _ _ (by decide) (by decide) (by decide) (by decide), b8.2.2.2.2.2.1 57 _ _ (by decide) (by decide) (by decide) (by decide)] at *
    exact w
  rw [ok_B]
  refine ok_mono (q_consts_ok s8 x b8.1 b8.z rk8 (by rw [e25]; exact hp.2.1)) fun y9 s9 ⟨q9, k9⟩ => ?_
  have b9 := b8.bq q9 (Or.inl rfl)
  rcases y9 with y9 | y9
  · simp only [Sum.elim_inl]
    exact no s9 b9
  simp only [Sum.elim_inr] at k9 ⊢
  obtain ⟨e9, kc9⟩ := k9
  rw [e25] at kc9
  have gb9 := gb8.bq q9
  have l9 := (q9.2.2.2.2.2.2.2.1 x 8 l8 (by decide)).1
  have a85 := (m85.bq q78 (by decide)).bq q9 (by decide)
  have a82 := (m82.bq q78 (by decide)).bq q9 (by decide)
  have a83 := (m83.bq q78 (by decide)).bq q9 (by decide)
  have a84 := (n6.bq q78 (by decide)).bq q9 (by decide)
  have kn9 : Knm s9 (f_constCount s) := kc9
  rw [e9, ok_B]
  refine ok_mono (puts_ok s9 x g b9.1 b9.z b9.2.2.1 gb9.1 gb9.2.1 gb9.2.2 a85) fun y10 s10 ⟨nx, hh10, pl10, k10⟩ => ?_
  have b10 := b9.nx nx hh10 pl10
  rcases y10 with y10 | y10
  · simp only [Sum.elim_inl]
    exact no s10 b10
  simp only [Sum.elim_inr] at k10 ⊢
  rw [k10]
  have l10 := nx.2.2.2.1 b9.z x 8 l9 (by decide)
  have lg10 := nx.2.2.2.1 b9.z g 5 gb9.2.1 (by decide)
  have g10 : gI s10 74 0 = g := (nx.2.1.I 74 (by decide) 0).trans gb9.1
  have c82 := a82.nx nx (by decide)
  have c83 := a83.nx nx (by decide)
  have c84 := a84.nx nx (by decide)
  have kn10 := kn9.nx nx
  rw [ok_B, ok_SI]
  refine ⟨⟨by decide, by decide⟩, ?_⟩
  obtain ⟨g11, lw11, fl11⟩ := Nx.cap (x := x) b10.1
  have b11 : BS s (sA s10 77 0 0 x) := by
    obtain ⟨x1, x2, x3, x4, x5, x6, x7⟩ := b10
    refine ⟨g11, x2, x3, x4, x5, fun a i j p q r u => ?_, x7⟩
    rw [gA_sA, if_neg (fun w => r w.1)]
    exact x6 a i j p q r u
  have cap : a_capture (sA s10 77 0 0 x) 0 = x := by simp only [a_capture, gI_sI, gI_sL, gI_sA, gI_sB, gI_sAf, gI_sBf, gL_sI, gL_sL, gL_sA, gL_sB, gL_sAf, gL_sBf, gA_sI, gA_sL, gA_sA, gA_sB, gA_sAf, gA_sBf, gB_sI, gB_sL, gB_sA, gB_sB, gB_sAf, gB_sBf, Nat.reduceEqDiff, Nat.reduceMul, Nat.reduceAdd, false_and, true_and, and_true, and_false, if_true, if_false]
  have l11 : Lv false (sA s10 77 0 0 x) (a_capture (sA s10 77 0 0 x) 0) 8 := by
    rw [cap]
    exact (lw11 x 8).mpr l10
  have lg11 : Lv false (sA s10 77 0 0 x) g 5 := (lw11 g 5).mpr lg10
  have g74 : gI (sA s10 77 0 0 x) 74 0 = g := g10
  have d82 : Nam (sA s10 77 0 0 x) 82 22 := fun i a b => by
    have e : gA (sA s10 77 0 0 x) 82 0 i = gA s10 82 0 i := by simp only [gI_sI, gI_sL, gI_sA, gI_sB, gI_sAf, gI_sBf, gL_sI, gL_sL, gL_sA, gL_sB, gL_sAf, gL_sBf, gA_sI, gA_sL, gA_sA, gA_sB, gA_sAf, gA_sBf, gB_sI, gB_sL, gB_sA, gB_sB, gB_sAf, gB_sBf, Nat.reduceEqDiff, Nat.reduceMul, Nat.reduceAdd, false_and, true_and, and_true, and_false, if_true, if_false]
    rw [e]
    exact (fl11 _).mpr (c82 i a b)
  have d83 : Nam (sA s10 77 0 0 x) 83 7 := fun i a b => by
    have e : gA (sA s10 77 0 0 x) 83 0 i = gA s10 83 0 i := by simp only [gI_sI, gI_sL, gI_sA, gI_sB, gI_sAf, gI_sBf, gL_sI, gL_sL, gL_sA, gL_sB, gL_sAf, gL_sBf, gA_sI, gA_sL, gA_sA, gA_sB, gA_sAf, gA_sBf, gB_sI, gB_sL, gB_sA, gB_sB, gB_sAf, gB_sBf, Nat.reduceEqDiff, Nat.reduceMul, Nat.reduceAdd, false_and, true_and, and_true, and_false, if_true, if_false]
    rw [e]
    exact (fl11 _).mpr (c83 i a b)
  have d84 : Nam (sA s10 77 0 0 x) 84 4 := fun i a b => by
    have e : gA (sA s10 77 0 0 x) 84 0 i = gA s10 84 0 i := by simp only [gI_sI, gI_sL, gI_sA, gI_sB, gI_sAf, gI_sBf, gL_sI, gL_sL, gL_sA, gL_sB, gL_sAf, gL_sBf, gA_sI, gA_sL, gA_sA, gA_sB, gA_sAf, gA_sBf, gB_sI, gB_sL, gB_sA, gB_sB, gB_sAf, gB_sBf, Nat.reduceEqDiff, Nat.reduceMul, Nat.reduceAdd, false_and, true_and, and_true, and_false, if_true, if_false]
    rw [e]
    exact (fl11 _).mpr (c84 i a b)
  have kn11 : Knm (sA s10 77 0 0 x) (f_constCount s) := fun i a b => by
    have w := kn10 i a b
    unfold Kc at *
    simp only [v_constants_k, v_constants_v, gI_sI, gI_sL, gI_sA, gI_sB, gI_sAf, gI_sBf, gL_sI, gL_sL, gL_sA, gL_sB, gL_sAf, gL_sBf, gA_sI, gA_sL, gA_sA, gA_sB, gA_sAf, gA_sBf, gB_sI, gB_sL, gB_sA, gB_sB, gB_sAf, gB_sBf, Nat.reduceEqDiff, Nat.reduceMul, Nat.reduceAdd, false_and, true_and, and_true, and_false, if_true, if_false] at *
    exact w.imp id fun q => ⟨q.1, q.2.1, q.2.2.1, (fl11 _).mpr q.2.2.2⟩
  generalize sA s10 77 0 0 x = s11 at *
  have e23 : f_protos s11 = f_protos s := b11.2.2.2.2.1 23 0 (by decide) (by decide)
  have e45 : a_upvalues s11 0 = a_upvalues s 0 := b11.2.2.2.2.2.1 45 0 0 (by decide) (by decide) (by decide) (by decide)
  rw [ok_B]
  refine ok_mono ((closureN_x s11 b11.1 b11.z ⟨by rw [e23]; exact Int32.lt_of_lt_of_le (by decide) hp.1.1, by rw [e45, hu]⟩ l11).and (kw_Mo_closure 0 0 1 s11)) fun fn s12 ⟨md12, kw12⟩ => ?_
  have nx12 := Nx.mdx b11.1 md12
  have hh12 : v_hand_n s12 = 0 := by
    rcases md12.2 with ⟨_, gx, _⟩ | ⟨sa, _, gc, _, hM, _⟩
    · exact (gx.I 2050 (by decide) 0).trans b11.2.2.1
    · exact ((hM.I 2050 (by decide) 0).trans (gc.I 2050 (by decide) 0)).trans b11.2.2.1
  have b12 := b11.nx nx12 hh12 kw12
  rw [ok_C]
  refine ⟨fun f0 => ?_, fun _ => no s12 b12⟩
  have l12 : Lv false s12 fn 6 ∧ a_first s12 fn = 0 := by
    rcases md12.2 with ⟨e, _⟩ | ⟨sa, _, _, _, _, e6, l⟩
    · rw [e] at f0
      exact absurd f0 (by decide)
    · exact ⟨l, e6.2.1⟩
  have lg12 := nx12.2.2.2.1 b11.z g 5 lg11 (by decide)
  have g12 : f_globals s12 = g := (nx12.2.1.I 74 (by decide) 0).trans g74
  have k12 := kn11.nx nx12
  have p82 := d82.nx nx12 (by decide)
  have p83 := d83.nx nx12 (by decide)
  have p84 := d84.nx nx12 (by decide)
  rw [ok_B]
  refine ok_mono (thread__ok s12 b12.1) fun v s13 w => ?_
  rw [ok_C]
  refine ⟨fun v0 => ?_, fun v0 => ?_⟩
  · rcases w with ⟨e, _⟩ | ⟨sa, sb, t, nt⟩
    · rw [e] at v0
      exact absurd v0 (by decide)
    have et : t = 0 := by
      obtain ⟨ga, gc, _, _, _, _, tb, _, _, _, _, _, _, _, _, _, lo⟩ := nt
      by_cases c : t = 0
      · exact c
      · have q := lo 0 (by decide) (Int32.lt_of_le_of_ne tb.1 (fun e => c e.symm))
        have q2 : t_place sa 0 < 0 := by
          rcases gc.x.pt.1 0 with e | e
          · rw [e]
            exact b12.2.2.2.1 0 (by decide) (by decide)
          · rw [e]
            decide
        exact absurd (Int32.lt_of_le_of_lt q q2) Int32.lt_irrefl
    rw [et] at nt
    obtain ⟨rZ, hZ, tZ, LZ⟩ := begin_ri b12 hp nt h.2.2.2.2.2.1.2.2.2.1 rk (by rw [g12]; exact lg12) p82 p83 p84 k12
    simp only [ok_B, ok_C, ok_R, ok_L, ok_K, ok_GI, ok_GL, ok_PI, ok_PL, ok_AI, ok_AL, ok_SI, ok_SL, ok_Pr, ok_CI, cmp_lt, cmp_le, cmp_gt, cmp_ge, cmp_eq, nar0, nar1, Sum.elim_inl, Sum.elim_inr]
    refine ⟨by decide, by decide, by decide, ?_⟩
    have aZ : gI (sI (sI (sI (sI (sI s13 3585 0 1) 3589 0 1) 72 0 0) 92 0 0) 898 0 0) 898 0 = 0 := by simp only [gI_sI, gI_sL, gI_sA, gI_sB, gI_sAf, gI_sBf, gL_sI, gL_sL, gL_sA, gL_sB, gL_sAf, gL_sBf, gA_sI, gA_sL, gA_sA, gA_sB, gA_sAf, gA_sBf, gB_sI, gB_sL, gB_sA, gB_sB, gB_sAf, gB_sBf, Nat.reduceEqDiff, Nat.reduceMul, Nat.reduceAdd, false_and, true_and, and_true, and_false, if_true, if_false]
    generalize sI (sI (sI (sI (sI s13 3585 0 1) 3589 0 1) 72 0 0) 92 0 0) 898 0 0 = Z at *
    obtain ⟨lZ, fZ⟩ := LZ fn 6 l12.1 (by decide) (by decide)
    exact ok_mono (enterB_ok Z fn rZ hZ tZ (by show gI Z 898 0 ≤ 250; rw [aZ]; decide) lZ (by rw [fZ, l12.2]; decide)) fun _ s' o => Or.inr ⟨by trivial, o⟩
  · rw [ok_R]
    rcases w with ⟨e, gg, gx, kl⟩ | ⟨sa, sb, t, nt⟩
    · refine Or.inl ⟨rfl, gg, fun i => Or.inl ?_⟩
      exact (gx.I 3590 (by decide) i).trans (b12.2.2.2.2.1 3590 i (by decide) (by decide))
    · exact absurd nt.2.2.2.1.1.1 v0
