/-! The program halts: every thread that waits is left. -/
/-- what the threads' chain looks like while it is taken down -/
def Hl (s z : S1) (x : Int32) : Prop := GG z ∧ f_noCollection z = 0 ∧ gI z 2050 0 = 0 ∧ cu z = cu s ∧ (∀ i, t_place z i = t_place s i) ∧ (∀ i, t_resumer z i = -1 ∨ t_resumer z i = t_resumer s i) ∧ ∃ k, x = chN s k ∧ ∀ j, k ≤ j → 0 ≤ chN s j → t_resumer z (chN s j) = t_resumer s (chN s j)
theorem ch_sub {s z : S1} (hc : cu z = cu s) (hr : ∀ i, t_resumer z i = -1 ∨ t_resumer z i = t_resumer s i) (n : Nat) : 0 ≤ chN z n → ∃ m, chN z n = chN s m := by
  induction n with
  | zero => exact fun _ => ⟨0, hc⟩
  | succ n ih =>
    intro h
    have e : chN z (n + 1) = if chN z n < 0 then -1 else t_resumer z (chN z n) := rfl
    by_cases c : chN z n < 0
    · rw [e, if_pos c] at h
      exact absurd h (by decide)
    · rw [e, if_neg c] at h ⊢
      obtain ⟨m, em⟩ := ih (Int32.not_lt.mp c)
      rcases hr (chN z n) with q | q
      · rw [q] at h
        exact absurd h (by decide)
      · refine ⟨m + 1, ?_⟩
        rw [q, em]
        have c' : ¬ chN s m < 0 := by
          rw [← em]
          exact c
        show _ = if chN s m < 0 then -1 else t_resumer s (chN s m)
        rw [if_neg c']
theorem zero_th {s : S1} {t : Int32} (h : GG s) (ht : 0 ≤ t ∧ t < 33) (hp : 0 ≤ t_place s t) : Tw2 s (sI s 3586 t 0) t := cut_th h ht hp ⟨by decide, (h.thr ht hp).1.2.1.1⟩ fun a => absurd a (by decide)
theorem ch_or {s : S1} (h : GG s) (hz : f_noCollection s = 0) (k : Nat) : chN s k = -1 ∨ (0 ≤ chN s k ∧ chN s k < 33) := by
  obtain ⟨⟨r1, ⟨ρ, r2⟩, -⟩, -⟩ := h.1.2 hz
  induction k with
  | zero => exact Or.inr r1
  | succ k ih =>
    have e : chN s (k + 1) = if chN s k < 0 then -1 else t_resumer s (chN s k) := rfl
    rcases ih with q | q
    · left
      rw [e, q, if_pos (by decide)]
    · rw [e, if_neg (Int32.not_lt.mpr q.1)]
      by_cases c : t_resumer s (chN s k) = -1
      · exact Or.inl c
      · have w := r2 _ q.1 q.2 c
        exact Or.inr ⟨w.1, w.2.1⟩
theorem halt26_ok (s : S1) (h : RI false s) (hh : gI s 2050 0 = 0) : ok (oW M_Mo_halt_L26 (cu s)) s (fun _ z => GG z ∧ f_noCollection z = 0 ∧ gI z 2050 0 = 0 ∧ (∀ i, t_place z i = t_place s i) ∧ (∀ i, t_resumer z i = -1 ∨ t_resumer z i = t_resumer s i)) := by
  obtain ⟨hg, hz, hf⟩ := h
  obtain ⟨t1, t2, t3, t4, t5, t6, t7, t8, t9, t10, t11⟩ := hf.2.2.1
  obtain ⟨⟨r1, ⟨ρ, r2⟩, -⟩, -⟩ := hg.1.2 hz
  refine ok_W (fun x z => Hl s z x) (fun x _ => if x = -1 then 0 else ρ x + 1) ?_ (cu s) s ⟨hg, hz, hh, rfl, fun _ => rfl, fun _ => Or.inr rfl, 0, rfl, fun _ _ _ => rfl⟩
  rintro x z ⟨gz, nz, hz2, ec, eP, eR, k, ex, hj⟩
  simp only [M_Mo_halt_L26, ok_B, ok_C, ok_R, ok_L, ok_K, ok_GI, ok_GL, ok_PI, ok_PL, ok_AI, ok_AL, ok_SI, ok_SL, ok_Pr, ok_CI, cmp_lt, cmp_le, cmp_gt, cmp_ge, cmp_eq, nar0, nar1, Sum.elim_inl, Sum.elim_inr]
  refine ⟨fun _ => ⟨gz, nz, hz2, eP, eR⟩, fun c => ?_⟩
  have xb : 0 ≤ x ∧ x < 33 := by
    rcases ch_or hg hz k with q | q
    · exact absurd (ex.trans q) c
    · rw [ex]
      exact q
  have hp : 0 ≤ t_place z x := by
    rw [eP, ex]
    exact t9 k (by rw [← ex]; exact xb.1)
  have er : gI z 3590 x = chN s (k + 1) := by
    have w := hj k (Nat.le_refl _) (by rw [← ex]; exact xb.1)
    rw [← ex] at w
    have w2 : gI z 3590 x = t_resumer s x := w
    rw [w2, ch_next ex.symm xb.1]
  refine ⟨xb, xb, ?_⟩
  refine ok_mono (leave_rx z x 0 gz nz xb hp (by decide)) fun _ z1 ⟨rx, I1, L1⟩ => ?_
  refine ⟨xb, xb, xb, ?_⟩
  have hp1 : 0 ≤ t_place z1 x := by
    show 0 ≤ gI z1 3584 x
    rw [I1 3584 _ (by decide) (by decide)]
    exact hp
  have g2 := rx.1.th (zero_th rx.1 xb hp1)
  have g3 : GG (sI (sI z1 3586 x 0) 3585 x 3) := g2.hx ((Hx0.refl _).sI (by decide))
  have I3 : ∀ f i, f ≠ 66 → f ≠ 3587 → f ≠ 3586 → f ≠ 3585 → gI (sI (sI z1 3586 x 0) 3585 x 3) f i = gI z f i := fun f i a b d e => by
    simp only [gI_sI, gI_sL, gI_sA, gI_sB, gI_sAf, gI_sBf, gL_sI, gL_sL, gL_sA, gL_sB, gL_sAf, gL_sBf, gA_sI, gA_sL, gA_sA, gA_sB, gA_sAf, gA_sBf, gB_sI, gB_sL, gB_sA, gB_sB, gB_sAf, gB_sBf, Nat.reduceEqDiff, Nat.reduceMul, Nat.reduceAdd, false_and, true_and, and_true, and_false, if_true, if_false, d, e]
    exact I1 f i a b
  generalize sI (sI z1 3586 x 0) 3585 x 3 = z3 at *
  have eR3 : ∀ i, t_resumer (sI z3 3590 x (-1)) i = if i = x then -1 else t_resumer z i := fun i => by
    simp only [t_resumer, gI_sI, gI_sL, gI_sA, gI_sB, gI_sAf, gI_sBf, gL_sI, gL_sL, gL_sA, gL_sB, gL_sAf, gL_sBf, gA_sI, gA_sL, gA_sA, gA_sB, gA_sAf, gA_sBf, gB_sI, gB_sL, gB_sA, gB_sB, gB_sAf, gB_sBf, Nat.reduceEqDiff, Nat.reduceMul, Nat.reduceAdd, false_and, true_and, and_true, and_false, if_true, if_false]
    rw [I3 3590 i (by decide) (by decide) (by decide) (by decide)]
  have eR4 : ∀ i, t_resumer (sI z3 3590 x (-1)) i = -1 ∨ t_resumer (sI z3 3590 x (-1)) i = t_resumer s i := fun i => by
    rw [eR3]
    by_cases q : i = x
    · rw [if_pos q]
      exact Or.inl rfl
    · rw [if_neg q]
      exact eR i
  have ec4 : cu (sI z3 3590 x (-1)) = cu s := by
    simp only [cu, f_current, gI_sI, gI_sL, gI_sA, gI_sB, gI_sAf, gI_sBf, gL_sI, gL_sL, gL_sA, gL_sB, gL_sAf, gL_sBf, gA_sI, gA_sL, gA_sA, gA_sB, gA_sAf, gA_sBf, gB_sI, gB_sL, gB_sA, gB_sB, gB_sAf, gB_sBf, Nat.reduceEqDiff, Nat.reduceMul, Nat.reduceAdd, false_and, true_and, and_true, and_false, if_true, if_false]
    exact (I3 72 0 (by decide) (by decide) (by decide) (by decide)).trans ec
  have rk4 : Rk ρ (sI z3 3590 x (-1)) := fun t a b w => by
    rcases eR4 t with q | q
    · exact absurd q w
    · rw [q] at w ⊢
      exact r2 t a b w
  have eP3 : ∀ i, t_place z3 i = t_place s i := fun i => (I3 3584 i (by decide) (by decide) (by decide) (by decide)).trans (eP i)
  have g4 : GG (sI z3 3590 x (-1)) := by
    refine g3.sw ⟨fun f i _ _ _ _ e => by simp only [gI_sI, gI_sL, gI_sA, gI_sB, gI_sAf, gI_sBf, gL_sI, gL_sL, gL_sA, gL_sB, gL_sAf, gL_sBf, gA_sI, gA_sL, gA_sA, gA_sB, gA_sAf, gA_sBf, gB_sI, gB_sL, gB_sA, gB_sB, gB_sAf, gB_sBf, Nat.reduceEqDiff, Nat.reduceMul, Nat.reduceAdd, false_and, true_and, and_true, and_false, if_true, if_false, e], fun _ _ => rfl, fun _ _ _ => rfl, fun _ _ _ => rfl, fun i => Or.inl (by simp only [gI_sI, gI_sL, gI_sA, gI_sB, gI_sAf, gI_sBf, gL_sI, gL_sL, gL_sA, gL_sB, gL_sAf, gL_sBf, gA_sI, gA_sL, gA_sA, gA_sB, gA_sAf, gA_sBf, gB_sI, gB_sL, gB_sA, gB_sB, gB_sAf, gB_sBf, Nat.reduceEqDiff, Nat.reduceMul, Nat.reduceAdd, false_and, true_and, and_true, and_false, if_true, if_false])⟩ ?_ ⟨ρ, rk4⟩ fun n a => ?_
    · have e : f_current (sI z3 3590 x (-1)) = cu s := ec4
      rw [e]
      exact t1
    · obtain ⟨m, em⟩ := ch_sub ec4 eR4 n a
      rw [em] at a ⊢
      rw [eP3]
      exact t9 m a
  have i92 : f_noCollection (sI z3 3590 x (-1)) = 0 := by
    simp only [f_noCollection, gI_sI, gI_sL, gI_sA, gI_sB, gI_sAf, gI_sBf, gL_sI, gL_sL, gL_sA, gL_sB, gL_sAf, gL_sBf, gA_sI, gA_sL, gA_sA, gA_sB, gA_sAf, gA_sBf, gB_sI, gB_sL, gB_sA, gB_sB, gB_sAf, gB_sBf, Nat.reduceEqDiff, Nat.reduceMul, Nat.reduceAdd, false_and, true_and, and_true, and_false, if_true, if_false]
    exact (I3 92 0 (by decide) (by decide) (by decide) (by decide)).trans nz
  have i20 : gI (sI z3 3590 x (-1)) 2050 0 = 0 := by
    simp only [gI_sI, gI_sL, gI_sA, gI_sB, gI_sAf, gI_sBf, gL_sI, gL_sL, gL_sA, gL_sB, gL_sAf, gL_sBf, gA_sI, gA_sL, gA_sA, gA_sB, gA_sAf, gA_sBf, gB_sI, gB_sL, gB_sA, gB_sB, gB_sAf, gB_sBf, Nat.reduceEqDiff, Nat.reduceMul, Nat.reduceAdd, false_and, true_and, and_true, and_false, if_true, if_false]
    exact (I3 2050 0 (by decide) (by decide) (by decide) (by decide)).trans hz2
  have eP4 : ∀ i, t_place (sI z3 3590 x (-1)) i = t_place s i := fun i => by
    simp only [t_place, gI_sI, gI_sL, gI_sA, gI_sB, gI_sAf, gI_sBf, gL_sI, gL_sL, gL_sA, gL_sB, gL_sAf, gL_sBf, gA_sI, gA_sL, gA_sA, gA_sB, gA_sAf, gA_sBf, gB_sI, gB_sL, gB_sA, gB_sB, gB_sAf, gB_sBf, Nat.reduceEqDiff, Nat.reduceMul, Nat.reduceAdd, false_and, true_and, and_true, and_false, if_true, if_false]
    exact eP3 i
  refine ⟨⟨g4, i92, i20, ec4, eP4, eR4, k + 1, er, fun j a b => ?_⟩, ?_⟩
  · have ne : chN s j ≠ x := by
      rw [ex]
      exact chN_inj hg hz (by omega) b
    rw [eR3, if_neg ne]
    exact hj j (by omega) b
  · rw [if_neg c]
    by_cases q : gI z 3590 x = -1
    · rw [if_pos q]
      exact Nat.succ_pos _
    · rw [if_neg q]
      have w := hj k (Nat.le_refl _) (by rw [← ex]; exact xb.1)
      rw [← ex] at w
      have w2 : gI z 3590 x = t_resumer s x := w
      rw [w2] at q ⊢
      have := (r2 x xb.1 xb.2 q).2.2
      omega
theorem halt_ok (s : S1) (h : Out s) (hd : f_todo s = 4) : ok M_Mo_halt s (fun _ s' => Od s s') := by
  obtain ⟨g, nc, hh, w⟩ := h
  have fr : Fr false s := by
    rcases w with w | w | w | w
    · exact absurd (w.1.symm.trans hd) (by decide)
    · exact w.2
    · exact absurd (w.1.symm.trans hd) (by decide)
    · exact absurd (w.1.symm.trans hd) (by decide)
  clear w
  have r : RI false s := ⟨g, nc, fr⟩
  unfold M_Mo_halt
  rw [ok_B, ok_PI, ok_B, ok_PI, ok_B, ok_PI]
  have rx0 := todo_rx g nc 0
  have ag1 := zero7 rx0.1
  have rx1 := ag1.rx (Or.inl rfl) rx0.2.1
  have ag2 := zero10 rx1.1
  have rx2 := ag2.rx (Or.inr (Or.inl rfl)) rx1.2.1
  have rx := (rx0.trans rx1).trans rx2
  have hz : gI (sI (sI (sI s 73 0 0) 898 0 0) 1282 0 0) 2050 0 = 0 := by
    simp only [gI_sI, gI_sL, gI_sA, gI_sB, gI_sAf, gI_sBf, gL_sI, gL_sL, gL_sA, gL_sB, gL_sAf, gL_sBf, gA_sI, gA_sL, gA_sA, gA_sB, gA_sAf, gA_sBf, gB_sI, gB_sL, gB_sA, gB_sB, gB_sAf, gB_sBf, Nat.reduceEqDiff, Nat.reduceMul, Nat.reduceAdd, false_and, true_and, and_true, and_false, if_true, if_false]
    exact hh
  have r2 := r.rx rx
  clear rx0 rx1 rx2 ag1 ag2
  generalize sI (sI (sI s 73 0 0) 898 0 0) 1282 0 0 = z at *
  have ec : gI z 72 0 = cu z := rfl
  rw [ok_B, ok_GI, ec, ok_B]
  obtain ⟨t1, t2, t3, t4, t5, t6, t7, t8, t9, t10, t11⟩ := r2.2.2.2.2.1
  obtain ⟨⟨-, ⟨ρ, k2⟩, -⟩, -⟩ := r2.1.1.2 r2.2.1
  refine ok_mono (halt26_ok z r2 hz) fun _ y ⟨gy, ny, hy, eP, eR⟩ => ?_
  rw [ok_B, ok_K]
  refine ⟨by decide, ?_⟩
  rw [ok_B, ok_PI]
  have eRy : ∀ i, t_resumer (sI y 72 0 0) i = t_resumer y i := fun i => by simp only [t_resumer, gI_sI, gI_sL, gI_sA, gI_sB, gI_sAf, gI_sBf, gL_sI, gL_sL, gL_sA, gL_sB, gL_sAf, gL_sBf, gA_sI, gA_sL, gA_sA, gA_sB, gA_sAf, gA_sBf, gB_sI, gB_sL, gB_sA, gB_sB, gB_sAf, gB_sBf, Nat.reduceEqDiff, Nat.reduceMul, Nat.reduceAdd, false_and, true_and, and_true, and_false, if_true, if_false]
  have c0 : chN (sI y 72 0 0) 0 = 0 := by
    show gI (sI y 72 0 0) 72 0 = 0
    simp only [gI_sI, gI_sL, gI_sA, gI_sB, gI_sAf, gI_sBf, gL_sI, gL_sL, gL_sA, gL_sB, gL_sAf, gL_sBf, gA_sI, gA_sL, gA_sA, gA_sB, gA_sAf, gA_sBf, gB_sI, gB_sL, gB_sA, gB_sB, gB_sAf, gB_sBf, Nat.reduceEqDiff, Nat.reduceMul, Nat.reduceAdd, false_and, true_and, and_true, and_false, if_true, if_false]
  have r0 : t_resumer (sI y 72 0 0) 0 = -1 := by
    rw [eRy]
    rcases eR 0 with q | q
    · exact q
    · rw [q]
      exact t7
  have cn : ∀ n, chN (sI y 72 0 0) (n + 1) = -1 := fun n => by
    induction n with
    | zero =>
      show (if chN (sI y 72 0 0) 0 < 0 then -1 else t_resumer (sI y 72 0 0) (chN (sI y 72 0 0) 0)) = -1
      rw [c0, r0, ite_self]
    | succ n ih =>
      show (if chN (sI y 72 0 0) (n + 1) < 0 then -1 else t_resumer (sI y 72 0 0) (chN (sI y 72 0 0) (n + 1))) = -1
      rw [ih, if_pos (by decide)]
  have gw : GG (sI y 72 0 0) := by
    refine gy.sw ⟨fun f i a _ _ _ _ => by simp only [gI_sI, gI_sL, gI_sA, gI_sB, gI_sAf, gI_sBf, gL_sI, gL_sL, gL_sA, gL_sB, gL_sAf, gL_sBf, gA_sI, gA_sL, gA_sA, gA_sB, gA_sAf, gA_sBf, gB_sI, gB_sL, gB_sA, gB_sB, gB_sAf, gB_sBf, Nat.reduceEqDiff, Nat.reduceMul, Nat.reduceAdd, false_and, true_and, and_true, and_false, if_true, if_false, a], fun _ _ => rfl, fun _ _ _ => rfl, fun _ _ _ => rfl, fun i => Or.inl (by simp only [gI_sI, gI_sL, gI_sA, gI_sB, gI_sAf, gI_sBf, gL_sI, gL_sL, gL_sA, gL_sB, gL_sAf, gL_sBf, gA_sI, gA_sL, gA_sA, gA_sB, gA_sAf, gA_sBf, gB_sI, gB_sL, gB_sA, gB_sB, gB_sAf, gB_sBf, Nat.reduceEqDiff, Nat.reduceMul, Nat.reduceAdd, false_and, true_and, and_true, and_false, if_true, if_false])⟩ ?_ ⟨ρ, fun t a b w => ?_⟩ fun n a => ?_
    · simp only [f_current, gI_sI, gI_sL, gI_sA, gI_sB, gI_sAf, gI_sBf, gL_sI, gL_sL, gL_sA, gL_sB, gL_sAf, gL_sBf, gA_sI, gA_sL, gA_sA, gA_sB, gA_sAf, gA_sBf, gB_sI, gB_sL, gB_sA, gB_sB, gB_sAf, gB_sBf, Nat.reduceEqDiff, Nat.reduceMul, Nat.reduceAdd, false_and, true_and, and_true, and_false, if_true, if_false]
      exact ⟨by decide, by decide⟩
    · rw [eRy] at w ⊢
      rcases eR t with q | q
      · exact absurd q w
      · rw [q] at w ⊢
        exact k2 t a b w
    · cases n with
      | zero =>
        rw [c0, eP]
        exact t8
      | succ n =>
        rw [cn] at a
        exact absurd a (by decide)
  refine ok_mono (q_end_ok _ gw ?_ ?_) fun _ s' w => Or.inl w
  · simp only [f_noCollection, gI_sI, gI_sL, gI_sA, gI_sB, gI_sAf, gI_sBf, gL_sI, gL_sL, gL_sA, gL_sB, gL_sAf, gL_sBf, gA_sI, gA_sL, gA_sA, gA_sB, gA_sAf, gA_sBf, gB_sI, gB_sL, gB_sA, gB_sB, gB_sAf, gB_sBf, Nat.reduceEqDiff, Nat.reduceMul, Nat.reduceAdd, false_and, true_and, and_true, and_false, if_true, if_false]
    exact ny
  · simp only [gI_sI, gI_sL, gI_sA, gI_sB, gI_sAf, gI_sBf, gL_sI, gL_sL, gL_sA, gL_sB, gL_sAf, gL_sBf, gA_sI, gA_sL, gA_sA, gA_sB, gA_sAf, gA_sBf, gB_sI, gB_sL, gB_sA, gB_sB, gB_sAf, gB_sBf, Nat.reduceEqDiff, Nat.reduceMul, Nat.reduceAdd, false_and, true_and, and_true, and_false, if_true, if_false]
    exact hy
