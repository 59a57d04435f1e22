/-! The top frame goes. -/
theorem chN_rank {s : S1} {ρ : Int32 → Nat} (hc : 0 ≤ f_current s ∧ f_current s < 33) (hk : Rk ρ s) (n : Nat) : 0 ≤ chN s n → (0 ≤ chN s n ∧ chN s n < 33) ∧ ρ (chN s n) + n ≤ ρ (f_current s) := by
  induction n with
  | zero => exact fun _ => ⟨hc, Nat.le_refl _⟩
  | succ n ih =>
    intro h
    have e : chN s (n + 1) = if chN s n < 0 then -1 else t_resumer s (chN s n) := rfl
    by_cases c : chN s n < 0
    · rw [e, if_pos c] at h
      exact absurd h (by decide)
    · rw [e, if_neg c] at h ⊢
      obtain ⟨q1, q2⟩ := ih (Int32.not_lt.mp c)
      have r := hk _ q1.1 q1.2 (fun z => by rw [z] at h; exact absurd h (by decide))
      exact ⟨⟨r.1, r.2.1⟩, by omega⟩
theorem chN_ne {s : S1} (h : GG s) (hz : f_noCollection s = 0) {n : Nat} (hn : 0 < n) (h0 : 0 ≤ chN s n) : chN s n ≠ f_current s := fun e => by
  obtain ⟨⟨r1, ⟨ρ, r2⟩, -⟩, -⟩ := h.1.2 hz
  have := (chN_rank r1 r2 n h0).2
  rw [e] at this
  omega
theorem chN_inj {s : S1} (h : GG s) (hz : f_noCollection s = 0) {n m : Nat} (hn : n < m) (h0 : 0 ≤ chN s m) : chN s m ≠ chN s n := fun e => by
  obtain ⟨⟨r1, ⟨ρ, r2⟩, -⟩, -⟩ := h.1.2 hz
  have key : ∀ k, 0 ≤ chN s (n + k) → ρ (chN s (n + k)) + k ≤ ρ (chN s n) := fun k => by
    induction k with
    | zero => exact fun _ => Nat.le_refl _
    | succ k ih =>
      intro w
      have e : chN s (n + (k + 1)) = if chN s (n + k) < 0 then -1 else t_resumer s (chN s (n + k)) := rfl
      by_cases c : chN s (n + k) < 0
      · rw [e, if_pos c] at w
        exact absurd w (by decide)
      · rw [e, if_neg c] at w ⊢
        have q := ih (Int32.not_lt.mp c)
        have q2 := (chN_rank r1 r2 (n + k) (Int32.not_lt.mp c)).1
        have r := (r2 _ q2.1 q2.2 (fun z => by rw [z] at w; exact absurd w (by decide))).2.2
        omega
  have k := key (m - n)
  have em : n + (m - n) = m := by omega
  rw [em] at k
  have := k h0
  rw [e] at this
  omega
theorem tp_num {f : Int32} (h : 0 ≤ f ∧ f ≤ 200) (h0 : 0 ≤ f - 1) : f - 1 < f ∧ f - 1 ≤ 200 ∧ (∀ g, g < f - 1 → g < f) ∧ ∀ g, g = f - 1 - 1 → g < f - 1 := by
  exact ⟨by grind, by grind, fun g a => by grind, fun g a => by grind⟩
theorem pop_th {s : S1} (h : GG s) (ht : 0 ≤ cu s ∧ cu s < 33) (hp : 0 ≤ t_place s (cu s)) (h0 : 0 ≤ tp s) (hr : 0 ≤ tp s - 1 → t_kind s (cu s) (tp s - 1) = 0 → t_rowCount s (cu s) (tp s - 1) = 0) : Tw2 s (sI s 3586 (cu s) (tp s)) (cu s) := by
  obtain ⟨⟨q1, q2, q3, q4⟩, p1, p2, p3⟩ := h.thr ht hp
  obtain ⟨n1, n2, n3, n4⟩ := tp_num q2 h0
  have ef : t_frames (sI s 3586 (cu s) (tp s)) (cu s) = tp s := by simp only [t_frames, gI_sI, gI_sL, gI_sA, gI_sB, gI_sAf, gI_sBf, gL_sI, gL_sL, gL_sA, gL_sB, gL_sAf, gL_sBf, gA_sI, gA_sL, gA_sA, gA_sB, gA_sAf, gA_sBf, gB_sI, gB_sL, gB_sA, gB_sB, gB_sAf, gB_sBf, Nat.reduceEqDiff, Nat.reduceMul, Nat.reduceAdd, false_and, true_and, and_true, and_false, if_true, if_false]
  refine ⟨fun f i q => ?_, fun _ _ => rfl, fun _ _ _ _ => rfl, fun _ _ _ _ => rfl, ⟨?_, ?_, ?_, fun g a b => ?_⟩, ?_, fun g a b => ?_, ?_⟩
  · rw [gI_sI, if_neg]
    rintro ⟨e1, e2⟩
    rcases q with q | q
    · exact q.2 e1
    · exact q e2
  · simp only [v_start_n, gI_sI, gI_sL, gI_sA, gI_sB, gI_sAf, gI_sBf, gL_sI, gL_sL, gL_sA, gL_sB, gL_sAf, gL_sBf, gA_sI, gA_sL, gA_sA, gA_sB, gA_sAf, gA_sBf, gB_sI, gB_sL, gB_sA, gB_sB, gB_sAf, gB_sBf, Nat.reduceEqDiff, Nat.reduceMul, Nat.reduceAdd, false_and, true_and, and_true, and_false, if_true, if_false]
    exact q1
  · rw [ef]
    exact ⟨h0, n2⟩
  · simp only [t_openCount, gI_sI, gI_sL, gI_sA, gI_sB, gI_sAf, gI_sBf, gL_sI, gL_sL, gL_sA, gL_sB, gL_sAf, gL_sBf, gA_sI, gA_sL, gA_sA, gA_sB, gA_sAf, gA_sBf, gB_sI, gB_sL, gB_sA, gB_sB, gB_sAf, gB_sBf, Nat.reduceEqDiff, Nat.reduceMul, Nat.reduceAdd, false_and, true_and, and_true, and_false, if_true, if_false]
    exact q3
  · rw [ef] at b
    exact q4 g a (n3 g b)
  · have lv : ∀ k v, Vl false (sI s 3586 (cu s) (tp s)) k v ↔ Vl false s k v := fun k v => by
      unfold Vl Lv
      simp only [f_used, a_sort, a_marked, gI_sI, gI_sL, gI_sA, gI_sB, gI_sAf, gI_sBf, gL_sI, gL_sL, gL_sA, gL_sB, gL_sAf, gL_sBf, gA_sI, gA_sL, gA_sA, gA_sB, gA_sAf, gA_sBf, gB_sI, gB_sL, gB_sA, gB_sB, gB_sAf, gB_sBf, Nat.reduceEqDiff, Nat.reduceMul, Nat.reduceAdd, false_and, true_and, and_true, and_false, if_true, if_false]
    simp only [lv]
    simp only [v_start_n, v_start_k, v_start_v, gI_sI, gI_sL, gI_sA, gI_sB, gI_sAf, gI_sBf, gL_sI, gL_sL, gL_sA, gL_sB, gL_sAf, gL_sBf, gA_sI, gA_sL, gA_sA, gA_sB, gA_sAf, gA_sBf, gB_sI, gB_sL, gB_sA, gB_sB, gB_sAf, gB_sBf, Nat.reduceEqDiff, Nat.reduceMul, Nat.reduceAdd, false_and, true_and, and_true, and_false, if_true, if_false]
    exact p1
  · rw [ef] at b
    have b4 := p2 g a (n3 g b)
    unfold FrV at *
    have lv : ∀ k v, Vl false (sI s 3586 (cu s) (tp s)) k v ↔ Vl false s k v := fun k v => by
      unfold Vl Lv
      simp only [f_used, a_sort, a_marked, gI_sI, gI_sL, gI_sA, gI_sB, gI_sAf, gI_sBf, gL_sI, gL_sL, gL_sA, gL_sB, gL_sAf, gL_sBf, gA_sI, gA_sL, gA_sA, gA_sB, gA_sAf, gA_sBf, gB_sI, gB_sL, gB_sA, gB_sB, gB_sAf, gB_sBf, Nat.reduceEqDiff, Nat.reduceMul, Nat.reduceAdd, false_and, true_and, and_true, and_false, if_true, if_false]
    have lw : ∀ x k, Lv false (sI s 3586 (cu s) (tp s)) x k ↔ Lv false s x k := fun x k => by
      unfold Lv
      simp only [f_used, a_sort, a_marked, gI_sI, gI_sL, gI_sA, gI_sB, gI_sAf, gI_sBf, gL_sI, gL_sL, gL_sA, gL_sB, gL_sAf, gL_sBf, gA_sI, gA_sL, gA_sA, gA_sB, gA_sAf, gA_sBf, gB_sI, gB_sL, gB_sA, gB_sB, gB_sAf, gB_sBf, Nat.reduceEqDiff, Nat.reduceMul, Nat.reduceAdd, false_and, true_and, and_true, and_false, if_true, if_false]
    simp only [lv, lw]
    rw [ef]
    refine ⟨b4.1, fun z => ⟨(b4.2 z).1, fun e i i1 i2 => ?_⟩⟩
    have e' : g = tp s - 1 := e
    have rc : t_rowCount s (cu s) g = 0 := by
      rw [e']
      rw [e'] at a z
      exact hr a z
    have i2' : i < 0 + t_rowCount s (cu s) g := i2
    rw [rc] at i2'
    exact absurd (Int32.lt_of_le_of_lt i1 i2') (by decide)
  · have lw : ∀ x k, Lv false (sI s 3586 (cu s) (tp s)) x k ↔ Lv false s x k := fun x k => by
      unfold Lv
      simp only [f_used, a_sort, a_marked, gI_sI, gI_sL, gI_sA, gI_sB, gI_sAf, gI_sBf, gL_sI, gL_sL, gL_sA, gL_sB, gL_sAf, gL_sBf, gA_sI, gA_sL, gA_sA, gA_sB, gA_sAf, gA_sBf, gB_sI, gB_sL, gB_sA, gB_sB, gB_sAf, gB_sBf, Nat.reduceEqDiff, Nat.reduceMul, Nat.reduceAdd, false_and, true_and, and_true, and_false, if_true, if_false]
    simp only [lw]
    simp only [t_openCount, t_open, gI_sI, gI_sL, gI_sA, gI_sB, gI_sAf, gI_sBf, gL_sI, gL_sL, gL_sA, gL_sB, gL_sAf, gL_sBf, gA_sI, gA_sL, gA_sA, gA_sB, gA_sAf, gA_sBf, gB_sI, gB_sL, gB_sA, gB_sB, gB_sAf, gB_sBf, Nat.reduceEqDiff, Nat.reduceMul, Nat.reduceAdd, false_and, true_and, and_true, and_false, if_true, if_false]
    exact p3
theorem Fr.pop {s : S1} (h : RI false s) (h0 : 0 ≤ tp s) : Fr true (sI s 3586 (cu s) (tp s)) := by
  obtain ⟨hg, hz, h1, h2, h3, h4⟩ := h
  have hc := h3.1
  have hpl : 0 ≤ t_place s (cu s) := h3.2.2.2.2.2.2.2.2.1 0 hc.1
  obtain ⟨⟨q1, q2, q3, q4⟩, -⟩ := hg.thr hc hpl
  obtain ⟨n1, n2, n3, n4⟩ := tp_num q2 h0
  have eF : ∀ t, t_frames (sI s 3586 (cu s) (tp s)) t = if t = cu s then tp s else t_frames s t := fun t => by simp only [t_frames, gI_sI, gI_sL, gI_sA, gI_sB, gI_sAf, gI_sBf, gL_sI, gL_sL, gL_sA, gL_sB, gL_sAf, gL_sBf, gA_sI, gA_sL, gA_sA, gA_sB, gA_sAf, gA_sBf, gB_sI, gB_sL, gB_sA, gB_sB, gB_sAf, gB_sBf, Nat.reduceEqDiff, Nat.reduceMul, Nat.reduceAdd, false_and, true_and, and_true, and_false, if_true, if_false]
  have eI : ∀ f i, f ≠ 3586 → gI (sI s 3586 (cu s) (tp s)) f i = gI s f i := fun f i q => by simp only [gI_sI, gI_sL, gI_sA, gI_sB, gI_sAf, gI_sBf, gL_sI, gL_sL, gL_sA, gL_sB, gL_sAf, gL_sBf, gA_sI, gA_sL, gA_sA, gA_sB, gA_sAf, gA_sBf, gB_sI, gB_sL, gB_sA, gB_sB, gB_sAf, gB_sBf, Nat.reduceEqDiff, Nat.reduceMul, Nat.reduceAdd, false_and, true_and, and_true, and_false, if_true, if_false, q]
  have hch : ∀ n, chN (sI s 3586 (cu s) (tp s)) n = chN s n := fun n => chN_I (eI 72 0 (by decide)) (fun i => eI 3590 i (by decide)) n
  have fl : ∀ x, FL (sI s 3586 (cu s) (tp s)) x ↔ FL s x := fun x => by
    unfold FL Lv
    simp only [f_used, a_sort, a_fixed, a_marked, gI_sI, gI_sL, gI_sA, gI_sB, gI_sAf, gI_sBf, gL_sI, gL_sL, gL_sA, gL_sB, gL_sAf, gL_sBf, gA_sI, gA_sL, gA_sA, gA_sB, gA_sAf, gA_sBf, gB_sI, gB_sL, gB_sA, gB_sB, gB_sAf, gB_sBf, Nat.reduceEqDiff, Nat.reduceMul, Nat.reduceAdd, false_and, true_and, and_true, and_false, if_true, if_false]
  refine ⟨?_, ?_, ?_, fun t a b c f d e => ?_⟩
  · unfold Pg Pp at *
    simp only [f_protos, f_constCount, eI 23 _ (by decide), eI 25 _ (by decide)] at *
    exact h1
  · unfold Fx4 Kc at *
    simp only [fl]
    simp only [f_constCount, eI 25 _ (by decide)] at *
    exact h2
  · obtain ⟨t1, t2, t3, t4, t5, t6, t7, t8, t9, t10, t11⟩ := h3
    unfold Ths
    simp only [hch]
    simp only [f_current, t_state, t_resumer, t_kind, t_begun, v_start_n, t_place, eI 72 _ (by decide), eI 3585 _ (by decide), eI 3590 _ (by decide), eI 3589 _ (by decide), eI 3202 _ (by decide), eI 3584 _ (by decide)]
    refine ⟨t1, t2, t3, fun n n1 n2 => ?_, t5, t6, t7, t8, t9, t10, t11⟩
    have ne := chN_ne hg hz n1 n2
    rw [eF, if_neg ne]
    exact t4 n n1 n2
  · have c' : 0 ≤ t_place s t := by
      have w : t_place (sI s 3586 (cu s) (tp s)) t = t_place s t := eI 3584 t (by decide)
      rw [← w]
      exact c
    rw [eF] at e
    have key : ∀ w : f < t_frames s t, (f < t_frames s t - 1 ∨ t ≠ f_current s) → Fi true (sI s 3586 (cu s) (tp s)) t f := fun w q => by
      have k := h4 t a b c' f d w
      refine ⟨k.1, fun z => ?_⟩
      have k2 := k.2 z
      refine ⟨k2.1, fun _ => ?_⟩
      exact k2.2 (by rcases q with q | q; exact Or.inl q; exact Or.inr (Or.inl q))
    by_cases g : t = cu s
    · rw [if_pos g] at e
      subst g
      exact key (n3 f e) (Or.inl e)
    · rw [if_neg g] at e
      exact key e (Or.inr g)
theorem Ic.pop {s : S1} {i d : Int32} (h : Ic s i) (hd : (d = 1 ∧ v_args_n s ≤ 250) ∨ (d = 2 ∧ v_results_n s ≤ 250)) : Out (sI (sI s 3586 (cu s) (tp s)) 73 0 d) := by
  have n := top_num h.1 h.2.1.1 h.2.1.2.1
  have q2 := frames_in h.1.1 n.1 h.alive
  obtain ⟨n1, n2, n3, n4⟩ := tp_num q2 h.2.1.1
  have th := pop_th h.1.1 n.1 h.alive h.2.1.1 fun a z => by
    have m : tp s - 1 < tp s := n4 _ rfl
    exact (((h.1.2.2.2.2.2 _ n.1.1 n.1.2 h.alive _ a (n3 _ m)).2 z).2 (Or.inl m)).2.2.1
  have g := h.1.1.th th
  have f := Fr.pop h.1 h.2.1.1
  have g2 : GG (sI (sI s 3586 (cu s) (tp s)) 73 0 d) := g.hx ((Hx0.refl _).sI (by decide))
  have f2 : Fr true (sI (sI s 3586 (cu s) (tp s)) 73 0 d) := f.hz ((Hz.refl _).sI (by decide))
  refine ⟨g2, ?_, ?_, ?_⟩
  · simp only [f_noCollection, gI_sI, gI_sL, gI_sA, gI_sB, gI_sAf, gI_sBf, gL_sI, gL_sL, gL_sA, gL_sB, gL_sAf, gL_sBf, gA_sI, gA_sL, gA_sA, gA_sB, gA_sAf, gA_sBf, gB_sI, gB_sL, gB_sA, gB_sB, gB_sAf, gB_sBf, Nat.reduceEqDiff, Nat.reduceMul, Nat.reduceAdd, false_and, true_and, and_true, and_false, if_true, if_false]
    exact h.1.2.1
  · simp only [v_hand_n, gI_sI, gI_sL, gI_sA, gI_sB, gI_sAf, gI_sBf, gL_sI, gL_sL, gL_sA, gL_sB, gL_sAf, gL_sBf, gA_sI, gA_sL, gA_sA, gA_sB, gA_sAf, gA_sBf, gB_sI, gB_sL, gB_sA, gB_sB, gB_sAf, gB_sBf, Nat.reduceEqDiff, Nat.reduceMul, Nat.reduceAdd, false_and, true_and, and_true, and_false, if_true, if_false]
    exact h.2.2.2
  · rcases hd with ⟨e, w⟩ | ⟨e, w⟩
    · refine Or.inr (Or.inr (Or.inl ⟨?_, f2, ?_⟩))
      · simp only [f_todo, gI_sI, gI_sL, gI_sA, gI_sB, gI_sAf, gI_sBf, gL_sI, gL_sL, gL_sA, gL_sB, gL_sAf, gL_sBf, gA_sI, gA_sL, gA_sA, gA_sB, gA_sAf, gA_sBf, gB_sI, gB_sL, gB_sA, gB_sB, gB_sAf, gB_sBf, Nat.reduceEqDiff, Nat.reduceMul, Nat.reduceAdd, false_and, true_and, and_true, and_false, if_true, if_false]
        exact e
      · simp only [v_args_n, gI_sI, gI_sL, gI_sA, gI_sB, gI_sAf, gI_sBf, gL_sI, gL_sL, gL_sA, gL_sB, gL_sAf, gL_sBf, gA_sI, gA_sL, gA_sA, gA_sB, gA_sAf, gA_sBf, gB_sI, gB_sL, gB_sA, gB_sB, gB_sAf, gB_sBf, Nat.reduceEqDiff, Nat.reduceMul, Nat.reduceAdd, false_and, true_and, and_true, and_false, if_true, if_false]
        exact w
    · refine Or.inr (Or.inr (Or.inr ⟨?_, f2, ?_⟩))
      · simp only [f_todo, gI_sI, gI_sL, gI_sA, gI_sB, gI_sAf, gI_sBf, gL_sI, gL_sL, gL_sA, gL_sB, gL_sAf, gL_sBf, gA_sI, gA_sL, gA_sA, gA_sB, gA_sAf, gA_sBf, gB_sI, gB_sL, gB_sA, gB_sB, gB_sAf, gB_sBf, Nat.reduceEqDiff, Nat.reduceMul, Nat.reduceAdd, false_and, true_and, and_true, and_false, if_true, if_false]
        exact e
      · simp only [v_results_n, gI_sI, gI_sL, gI_sA, gI_sB, gI_sAf, gI_sBf, gL_sI, gL_sL, gL_sA, gL_sB, gL_sAf, gL_sBf, gA_sI, gA_sL, gA_sA, gA_sB, gA_sAf, gA_sBf, gB_sI, gB_sL, gB_sA, gB_sB, gB_sAf, gB_sBf, Nat.reduceEqDiff, Nat.reduceMul, Nat.reduceAdd, false_and, true_and, and_true, and_false, if_true, if_false]
        exact w
theorem op37_ok (s : S1) (i : Int32) (h : Ic s i) (ho : iO (wd s (pq s) i) = 37) : ok (oB (M_Mo_gather (cu s) (tp s) (iA (wd s (pq s) i)) (iB (wd s (pq s) i))) fun v136 =>
    oC (v136 = 0)
      (oR ())
      (oB (oAI 20 4300 (cu s) (bs s + iA (wd s (pq s) i))) fun v153 =>
      oB (oPI 75 0 v153) fun _ =>
      oB (oAL 21 4300 (cu s) (bs s + iA (wd s (pq s) i))) fun v165 =>
      oB (oPL 76 0 v165) fun _ =>
      oB (oAI 33 201 (cu s) (tp s)) fun v176 =>
      oB (M_Mo_close (cu s) v176) fun _ =>
      oB (oGI 3586 (cu s)) fun v182 =>
      oB (oPI 3586 (cu s) (v182 - 1)) fun _ =>
      oB (oPI 73 0 1) fun _ =>
      oR ())) s (fun _ s' => Out s') := by
  obtain ⟨-, -, -, -, -, -, -, -, -, -, -, -, -, -, -, -, -, -, w37, -⟩ := Wn.all h
  obtain ⟨q1, q2⟩ := w37 ho
  have n := top_num h.1 h.2.1.1 h.2.1.2.1
  obtain ⟨t1, t2, t3, t4, t5, t6, t7, t8, t9, t10, t11, -⟩ := h.1.top h.2.1.1 h.2.1.2.1
  obtain ⟨x1, x2⟩ := t11 _ (iA_in (wd s (pq s) i)).1 q1
  have x3 : 0 ≤ bs s + iA (wd s (pq s) i) ∧ bs s + iA (wd s (pq s) i) < 4300 := ⟨x1.1, Int32.lt_trans x1.2 (by decide)⟩
  simp only [ok_B, ok_C, ok_R, ok_L, ok_K, ok_GI, ok_GL, ok_PI, ok_PL, ok_AI, ok_AL, ok_SI, ok_SL, ok_Pr, ok_CI, cmp_lt, cmp_le, cmp_gt, cmp_ge, cmp_eq, nar0, nar1, Sum.elim_inl, Sum.elim_inr]
  refine ok_mono (q_gather_ok s i h (Or.inr ho)) fun r s1 ⟨g0, g1⟩ => ⟨g0, fun c => ⟨x3, x3, n.2.2, ?_⟩⟩
  obtain ⟨i1, ga, hn, rc⟩ := g1 c
  obtain ⟨c1, c2, c3, c4, c5, c6, c7⟩ := ga.same
  have e20 : gA s1 20 (cu s) (bs s + iA (wd s (pq s) i)) = gA s 20 (cu s) (bs s + iA (wd s (pq s) i)) := ga.2.2.1 20 _ _ (by decide) (by decide)
  have e21 : gB (sI s1 75 0 (gA s1 20 (cu s) (bs s + iA (wd s (pq s) i)))) 21 (cu s) (bs s + iA (wd s (pq s) i)) = gB s 21 (cu s) (bs s + iA (wd s (pq s) i)) := ga.2.2.2 21 _ _ (by decide)
  rw [e21, e20]
  have vc : Vl false s1 (gA s 20 (cu s) (bs s + iA (wd s (pq s) i))) (gB s 21 (cu s) (bs s + iA (wd s (pq s) i))) := ga.vl.mpr x2
  generalize gA s 20 (cu s) (bs s + iA (wd s (pq s) i)) = ck at *
  generalize gB s 21 (cu s) (bs s + iA (wd s (pq s) i)) = cv at *
  have rx2 : Rx s1 (sL (sI s1 75 0 ck) 76 0 cv) := Rx.hy (i1.1.1.calling vc) ((Hy.refl s1).sI (by decide)).sL i1.1.2.1
  have i2 := i1.rx rx2 (by simp only [gI_sI, gI_sL, gI_sA, gI_sB, gI_sAf, gI_sBf, gL_sI, gL_sL, gL_sA, gL_sB, gL_sAf, gL_sBf, gA_sI, gA_sL, gA_sA, gA_sB, gA_sAf, gA_sBf, gB_sI, gB_sL, gB_sA, gB_sB, gB_sAf, gB_sBf, Nat.reduceEqDiff, Nat.reduceMul, Nat.reduceAdd, false_and, true_and, and_true, and_false, if_true, if_false]) (by simp only [gI_sI, gI_sL, gI_sA, gI_sB, gI_sAf, gI_sBf, gL_sI, gL_sL, gL_sA, gL_sB, gL_sAf, gL_sBf, gA_sI, gA_sL, gA_sA, gA_sB, gA_sAf, gA_sBf, gB_sI, gB_sL, gB_sA, gB_sB, gB_sAf, gB_sBf, Nat.reduceEqDiff, Nat.reduceMul, Nat.reduceAdd, false_and, true_and, and_true, and_false, if_true, if_false])
  have n2 : v_args_n (sL (sI s1 75 0 ck) 76 0 cv) ≤ 250 := by
    simp only [v_args_n, gI_sI, gI_sL, gI_sA, gI_sB, gI_sAf, gI_sBf, gL_sI, gL_sL, gL_sA, gL_sB, gL_sAf, gL_sBf, gA_sI, gA_sL, gA_sA, gA_sB, gA_sAf, gA_sBf, gB_sI, gB_sL, gB_sA, gB_sB, gB_sAf, gB_sBf, Nat.reduceEqDiff, Nat.reduceMul, Nat.reduceAdd, false_and, true_and, and_true, and_false, if_true, if_false]
    exact hn.2
  obtain ⟨d1, d2, d3, d4⟩ := rx2.same i1.1 i1.2.1.1 i1.2.1.2.1
  generalize sL (sI s1 75 0 ck) 76 0 cv = s2 at *
  have nn := top_num i2.1 i2.2.1.1 i2.2.1.2.1
  have ec : cu s2 = cu s := d1.trans c1
  have w := q_close_ok s2 (cu s2) (gA s2 33 (cu s) (tp s)) i2.1.1 nn.1 i2.alive
  rw [ec] at w
  refine ok_mono w fun _ s3 cw => ?_
  rw [← ec] at cw
  obtain ⟨i3, rx3⟩ := i2.cw cw
  obtain ⟨f1, f2, f3, f4⟩ := rx3.same i2.1 i2.2.1.1 i2.2.1.2.1
  have e3 : cu s3 = cu s := f1.trans ec
  have fin := i3.pop (d := 1) (Or.inl ⟨rfl, by
    have e : v_args_n s3 = v_args_n s2 := cw.I 898 (by decide) 0
    rw [e]
    exact n2⟩)
  rw [e3] at fin
  have et : tp s3 = gI s3 3586 (cu s) - 1 := by
    show gI s3 3586 (cu s3) - 1 = _
    rw [e3]
  rw [et] at fin
  exact fin
