/-! An instruction calls something: its frame waits. -/
def Tc3 (s s' : S1) : Prop := (∀ f i, hzI f = true → gI s' f i = gI s f i) ∧ (∀ a i j, hzA a = true → ((a ≠ 32 ∧ a ≠ 35 ∧ a ≠ 36 ∧ a ≠ 37 ∧ a ≠ 38 ∧ a ≠ 39 ∧ a ≠ 40) ∨ ¬ (i = cu s ∧ j = tp s)) → gA s' a i j = gA s a i j) ∧ ∀ i j, gB s' 3 i j = gB s 3 i j
theorem Fr.topz {s s' : S1} (h : Fr false s) (hs : Tc3 s s') : Fr false s' := by
  obtain ⟨h1, h2, h3, h4⟩ := h
  obtain ⟨q1, q3, q4⟩ := hs
  have fa : ∀ a, hzA a = true → (a ≠ 32 ∧ a ≠ 35 ∧ a ≠ 36 ∧ a ≠ 37 ∧ a ≠ 38 ∧ a ≠ 39 ∧ a ≠ 40) → ∀ i j, gA s' a i j = gA s a i j := fun a q p i j => q3 a i j q (Or.inl p)
  have eP : ∀ t, gI s' 3584 t = gI s 3584 t := fun t => q1 3584 t (by decide)
  have hz : Fe0 s s' := by
    refine ⟨fun f i q => q1 f i (by unfold hzI; rw [q]; rfl), fun a i j q => fa a ?_ ?_ i j, fun i j => q4 i j, fun t _ _ q => by
      have : t_place s' t = t_place s t := eP t
      rw [← this]
      exact q, fun n q => ?_, ?_, fun x q => ?_⟩
    · unfold feA0 at q
      unfold hzA feA
      simp only [List.contains_eq_mem, List.mem_cons, List.not_mem_nil, or_false, Bool.or_eq_true, decide_eq_true_eq] at *
      omega
    · unfold feA0 at q
      simp only [List.contains_eq_mem, List.mem_cons, List.not_mem_nil, or_false, decide_eq_true_eq] at q
      omega
    · show 0 ≤ gI s' 3584 _
      rw [eP]
      exact h3.2.2.2.2.2.2.2.2.1 n q
    · show 0 ≤ gI s' 3584 _
      rw [eP]
      exact h3.2.2.2.2.2.2.2.1
    · unfold FL Lv at *
      simp only [f_used, a_sort, a_fixed, q1 40 _ (by decide), fa 58 (by decide) (by decide), fa 60 (by decide) (by decide)] at *
      exact ⟨⟨q.1.1, q.1.2.1, q.1.2.2.1, fun z => by cases z⟩, q.2⟩
  have eF : ∀ t, gI s' 3586 t = gI s 3586 t := fun t => q1 3586 t (by decide)
  have eC : gI s' 72 0 = gI s 72 0 := q1 72 0 (by decide)
  refine ⟨(Pg.fe0 hz).mpr h1, h2.fe0 hz, h3.fe0 hz, fun t a b c f d e => ?_⟩
  have c' : 0 ≤ t_place s t := by
    have w : t_place s' t = t_place s t := eP t
    rw [← w]
    exact c
  have e' : f < t_frames s t := by
    have w : t_frames s' t = t_frames s t := eF t
    rw [← w]
    exact e
  have k := h4 t a b c' f d e'
  by_cases g : t = cu s ∧ f = tp s
  · obtain ⟨g1, g2⟩ := g
    subst g1
    unfold Fi at *
    simp only [t_kind, t_extra, t_frames, f_current, eF, eC, fa 30 (by decide) (by decide), fa 34 (by decide) (by decide)] at *
    refine ⟨k.1, fun z => ⟨(k.2 z).1, fun y => ?_⟩⟩
    exfalso
    rcases y with y | y | y
    · rw [g2] at y
      exact absurd y Int32.lt_irrefl
    · exact absurd rfl y
    · cases y
  · have fb : ∀ a, hzA a = true → gA s' a t f = gA s a t f := fun a q => q3 a t f q (Or.inr g)
    unfold Fi Wt Gs at *
    simp only [t_kind, t_extra, t_frames, f_current, pf, a_first, t_function, t_pc, t_rowCount, t_mode, t_into, t_want, t_step, a_registers, a_codeAt, a_codes, a_code, eF, eC, fb 30 (by decide), fb 31 (by decide), fb 32 (by decide), fb 34 (by decide), fb 36 (by decide), fb 37 (by decide), fb 38 (by decide), fb 39 (by decide), fb 40 (by decide), fa 62 (by decide) (by decide), fa 44 (by decide) (by decide), fa 49 (by decide) (by decide), fa 50 (by decide) (by decide), fa 55 (by decide) (by decide)] at *
    exact k
/-- an instruction at i, at work -/
def Ic (s : S1) (i : Int32) : Prop := RI false s ∧ Tf s i ∧ f_todo s = 0 ∧ v_hand_n s = 0
theorem Ic.rx {s s' : S1} {i : Int32} (h : Ic s i) (k : Rx s s') (ht : gI s' 73 0 = gI s 73 0) (hh : gI s' 2050 0 = gI s 2050 0) : Ic s' i := ⟨h.1.rx k, h.2.1.rx h.1 k, ht.trans h.2.2.1, hh.trans h.2.2.2⟩
/-- the columns of the call are set: mode, into, want; the rest is written beside the frames -/
def Ec (s s' : S1) (m a b : Int32) : Prop := (∀ f i, hyI f = true → gI s' f i = gI s f i) ∧ (∀ x i j, hyA x = true → ((x ≠ 37 ∧ x ≠ 38 ∧ x ≠ 39) ∨ ¬ (i = cu s ∧ j = tp s)) → gA s' x i j = gA s x i j) ∧ (∀ i j, gB s' 3 i j = gB s 3 i j) ∧ t_mode s' (cu s) (tp s) = m ∧ t_into s' (cu s) (tp s) = a ∧ t_want s' (cu s) (tp s) = b
theorem Ec.hy {s s1 s2 : S1} {m a b : Int32} (h : Ec s s1 m a b) (k : Hy s1 s2) : Ec s s2 m a b := by
  obtain ⟨h1, h2, h3, h4, h5, h6⟩ := h
  refine ⟨fun f i q => (k.1 f i q).trans (h1 f i q), fun x i j q p => (k.2.1 x i j q).trans (h2 x i j q p), fun i j => (k.2.2 i j).trans (h3 i j), ?_, ?_, ?_⟩
  · exact (k.2.1 37 _ _ (by decide)).trans h4
  · exact (k.2.1 38 _ _ (by decide)).trans h5
  · exact (k.2.1 39 _ _ (by decide)).trans h6
theorem Ec.topz {s s' : S1} {m a b : Int32} (h : Ec s s' m a b) : Tc3 s s' := by
  refine ⟨fun f i q => h.1 f i ?_, fun x i j q p => h.2.1 x i j ?_ (p.imp (fun w => ⟨w.2.2.2.1, w.2.2.2.2.1, w.2.2.2.2.2.1⟩) id), h.2.2.1⟩
  · unfold hzI feI at q
    unfold hyI
    simp only [List.contains_eq_mem, List.mem_cons, List.not_mem_nil, or_false, Bool.or_eq_true, decide_eq_true_eq] at *
    omega
  · unfold hzA feA at q
    unfold hyA
    simp only [List.contains_eq_mem, List.mem_cons, List.not_mem_nil, or_false, Bool.or_eq_true, decide_eq_true_eq] at *
    omega
theorem expect_ok (s : S1) (m a b : Int32) (h : GG s) (hc : 0 ≤ cu s ∧ cu s < 33) (ht : 0 ≤ tp s ∧ tp s < 200) : ok (M_Mo_expect m a b) s (fun _ s' => s' = sA (sA (sA s 37 (cu s) (tp s) m) 38 (cu s) (tp s) a) 39 (cu s) (tp s) b ∧ GG s' ∧ Ec s s' m a b) := by
  have b1 : 0 ≤ tp s ∧ tp s < 201 := ⟨ht.1, Int32.lt_trans ht.2 (by decide)⟩
  simp only [M_Mo_expect, M_Th_top, ok_B, ok_C, ok_R, ok_L, ok_K, ok_GI, ok_GL, ok_PI, ok_PL, ok_AI, ok_AL, ok_SI, ok_SL, ok_Pr, ok_CI, cmp_lt, cmp_le, cmp_gt, cmp_ge, cmp_eq, nar0, nar1, Sum.elim_inl, Sum.elim_inr]
  simp only [gI_sI, gI_sL, gI_sA, gI_sB, gI_sAf, gI_sBf, gL_sI, gL_sL, gL_sA, gL_sB, gL_sAf, gL_sBf, gA_sI, gA_sL, gA_sA, gA_sB, gA_sAf, gA_sBf, gB_sI, gB_sL, gB_sA, gB_sB, gB_sAf, gB_sBf, Nat.reduceEqDiff, Nat.reduceMul, Nat.reduceAdd, false_and, true_and, and_true, and_false, if_true, if_false]
  refine ⟨hc, hc, b1, hc, b1, hc, b1, h.hx ((((Hx0.refl s).sA (by decide)).sA (by decide)).sA (by decide)), fun _ _ _ => rfl, fun x i j q p => ?_, fun _ _ => rfl, ?_, ?_, ?_⟩
  · rw [gA_sA, if_neg, gA_sA, if_neg, gA_sA, if_neg]
    · rintro ⟨e1, e2, e3⟩
      rcases p with p | p
      · exact p.1 e1
      · exact p ⟨e2, e3⟩
    · rintro ⟨e1, e2, e3⟩
      rcases p with p | p
      · exact p.2.1 e1
      · exact p ⟨e2, e3⟩
    · rintro ⟨e1, e2, e3⟩
      rcases p with p | p
      · exact p.2.2 e1
      · exact p ⟨e2, e3⟩
  · simp only [t_mode, gI_sI, gI_sL, gI_sA, gI_sB, gI_sAf, gI_sBf, gL_sI, gL_sL, gL_sA, gL_sB, gL_sAf, gL_sBf, gA_sI, gA_sL, gA_sA, gA_sB, gA_sAf, gA_sBf, gB_sI, gB_sL, gB_sA, gB_sB, gB_sAf, gB_sBf, Nat.reduceEqDiff, Nat.reduceMul, Nat.reduceAdd, false_and, true_and, and_true, and_false, if_true, if_false]
  · simp only [t_into, gI_sI, gI_sL, gI_sA, gI_sB, gI_sAf, gI_sBf, gL_sI, gL_sL, gL_sA, gL_sB, gL_sAf, gL_sBf, gA_sI, gA_sL, gA_sA, gA_sB, gA_sAf, gA_sBf, gB_sI, gB_sL, gB_sA, gB_sB, gB_sAf, gB_sBf, Nat.reduceEqDiff, Nat.reduceMul, Nat.reduceAdd, false_and, true_and, and_true, and_false, if_true, if_false]
  · simp only [t_want, gI_sI, gI_sL, gI_sA, gI_sB, gI_sAf, gI_sBf, gL_sI, gL_sL, gL_sA, gL_sB, gL_sAf, gL_sBf, gA_sI, gA_sL, gA_sA, gA_sB, gA_sAf, gA_sBf, gB_sI, gB_sL, gB_sA, gB_sB, gB_sAf, gB_sBf, Nat.reduceEqDiff, Nat.reduceMul, Nat.reduceAdd, false_and, true_and, and_true, and_false, if_true, if_false]
/-- which calls an instruction's frame may wait for -/
def Wm (s : S1) (i m a b : Int32) : Prop := (m = 1 ∧ 0 ≤ a ∧ a < a_registers s (pq s)) ∨ m = 3 ∨ (m = 2 ∧ Gs s (pq s) (i + 2)) ∨ (m = 0 ∧ 0 ≤ b ∧ 0 ≤ a ∧ a ≤ 300 ∧ b ≤ 600 ∧ a + b ≤ a_registers s (pq s)) ∨
  (m = 4 ∧ iO (wd s (pq s) i) = 29 ∧ iB (wd s (pq s) i) ≤ t_step s (cu s) (tp s) ∧ t_step s (cu s) (tp s) < iC (wd s (pq s) i))
theorem Ec.same {s s' : S1} {m a b : Int32} (h : Ec s s' m a b) : cu s' = cu s ∧ tp s' = tp s ∧ pq s' = pq s ∧ (∀ p j, wd s' p j = wd s p j) ∧ (∀ p, a_codes s' p = a_codes s p) ∧ (∀ p, a_registers s' p = a_registers s p) ∧ t_pc s' (cu s) (tp s) = t_pc s (cu s) (tp s) ∧ t_rowCount s' (cu s) (tp s) = t_rowCount s (cu s) (tp s) ∧ t_kind s' (cu s) (tp s) = t_kind s (cu s) (tp s) ∧ t_step s' (cu s) (tp s) = t_step s (cu s) (tp s) := by
  obtain ⟨h1, h2, h3, h4, h5, h6⟩ := h
  have A : ∀ x, hyA x = true → (x ≠ 37 ∧ x ≠ 38 ∧ x ≠ 39) → ∀ i j, gA s' x i j = gA s x i j := fun x p q i j => h2 x i j p (Or.inl q)
  have e1 : cu s' = cu s := h1 72 0 (by decide)
  have e2 : tp s' = tp s := by
    show gI s' 3586 (cu s') - 1 = gI s 3586 (cu s) - 1
    rw [e1, h1 3586 _ (by decide)]
  refine ⟨e1, e2, ?_, fun p j => ?_, fun p => A 50 (by decide) (by decide) 0 p, fun p => A 44 (by decide) (by decide) 0 p, A 32 (by decide) (by decide) _ _, A 36 (by decide) (by decide) _ _, A 30 (by decide) (by decide) _ _, A 40 (by decide) (by decide) _ _⟩
  · show gA s' 62 0 (gA s' 31 (cu s') (tp s')) = gA s 62 0 (gA s 31 (cu s) (tp s))
    rw [e1, e2, A 31 (by decide) (by decide), A 62 (by decide) (by decide)]
  · show gA s' 55 0 (gA s' 49 0 p + j) = gA s 55 0 (gA s 49 0 p + j)
    rw [A 49 (by decide) (by decide), A 55 (by decide) (by decide)]
theorem Ic.call {s s' : S1} {i m a b : Int32} (h : Ic s i) (he : Ec s s' m a b) (hg : GG s') (ht : f_todo s' = 1) (hh : v_hand_n s' = 0) (hn : v_args_n s' ≤ 250) (hm : ¬ mks (wd s (pq s) i)) (hu : ¬ us (wd s (pq s) i)) (ho : iO (wd s (pq s) i) ≠ 30 ∧ iO (wd s (pq s) i) ≠ 37 ∧ iO (wd s (pq s) i) ≠ 38) (hw : Wm s i m a b) : Out s' := by
  obtain ⟨hr, hT, -, -⟩ := h
  have hz' : f_noCollection s' = 0 := (he.1 92 0 (by decide)).trans hr.2.1
  have hf : RI false s' := ⟨hg, hz', hr.2.2.topz he.topz⟩
  obtain ⟨n1, n2⟩ := hT.next hr hm ho
  obtain ⟨e1, e2, e3, e4, e5, e6, e7, e8, e9, e10⟩ := he.same
  obtain ⟨-, -, -, m1, m2, m3⟩ := he
  obtain ⟨t1, t2, t3, t4, t5, t6⟩ := hT
  have r0 : t_rowCount s (cu s) (tp s) = 0 := Classical.byContradiction fun z => hu (t5 z)
  have p1 : 1 ≤ i + 1 ∧ i + 1 - 1 = i ∧ i + 1 + 1 = i + 2 := by
    have c5 := n1
    have c6 := t4.1
    clear m1 m2 m3 t5 t6 hf hg hr e4 e5 e6 n2
    grind
  have hR := hf.wait fun z1 z2 => ?_
  · exact ⟨hg, hz', hh, Or.inr (Or.inr (Or.inl ⟨ht, hR.2.2, hn⟩))⟩
  · have g2 : Gs s (pq s) (i + 2) → Gs s' (pq s') (i + 1 + 1) := fun g => by
      unfold Gs at *
      rw [e3, e4, e5, p1.2.2]
      exact g
    rw [e1, e2]
    refine ⟨?_, ?_⟩
    · rw [e7, e5, e3, t3]
      exact n1
    · unfold Wt
      have w1 : pf s' (cu s) (tp s) = pq s := by
        rw [← e3]
        show pf s' (cu s) (tp s) = pf s' (cu s') (tp s')
        rw [e1, e2]
      rw [e7, e8, m1, m2, m3, w1, t3, e6, e10]
      simp only [e4]
      rw [e3] at g2
      refine ⟨p1.1, r0, ?_⟩
      rcases hw with w | w | w | w | w
      · exact Or.inr (Or.inl ⟨w.1, w.2.1, w.2.2, n2⟩)
      · exact Or.inr (Or.inr (Or.inr (Or.inl ⟨w, n2⟩)))
      · exact Or.inr (Or.inr (Or.inl ⟨w.1, n2, g2 w.2⟩))
      · exact Or.inl ⟨w.1, Or.inr ⟨w.2.1, w.2.2.1, w.2.2.2.1, w.2.2.2.2.1, w.2.2.2.2.2, n2⟩⟩
      · rw [p1.2.1]
        exact Or.inr (Or.inr (Or.inr (Or.inr ⟨w.1, n2, w.2.1, w.2.2.1, w.2.2.2⟩)))
theorem Ic.raise {s : S1} {i : Int32} (h : Ic s i) (n c : Int32) (hc : c = 3 ∨ c = 4) : Out (sI (sL (sI s 64 0 3) 65 0 n.toInt64) 73 0 c) := by
  have rx := (Nx.raise h.1.1 n c hc).rx h.1.2.1
  have r2 := h.1.rx rx
  refine ⟨rx.1, rx.2.1, ?_, Or.inr (Or.inl ⟨?_, r2.2.2⟩)⟩
  · simp only [v_hand_n, gI_sI, gI_sL, gI_sA, gI_sB, gI_sAf, gI_sBf, gL_sI, gL_sL, gL_sA, gL_sB, gL_sAf, gL_sBf, gA_sI, gA_sL, gA_sA, gA_sB, gA_sAf, gA_sBf, gB_sI, gB_sL, gB_sA, gB_sB, gB_sAf, gB_sBf, Nat.reduceEqDiff, Nat.reduceMul, Nat.reduceAdd, false_and, true_and, and_true, and_false, if_true, if_false]
    exact h.2.2.2
  · simp only [f_todo, gI_sI, gI_sL, gI_sA, gI_sB, gI_sAf, gI_sBf, gL_sI, gL_sL, gL_sA, gL_sB, gL_sAf, gL_sBf, gA_sI, gA_sL, gA_sA, gA_sB, gA_sAf, gA_sBf, gB_sI, gB_sL, gB_sA, gB_sB, gB_sAf, gB_sBf, Nat.reduceEqDiff, Nat.reduceMul, Nat.reduceAdd, false_and, true_and, and_true, and_false, if_true, if_false]
    exact hc
theorem Ic.done {s : S1} {i : Int32} (h : Ic s i) (hm : ¬ mks (wd s (pq s) i)) (hu : ¬ us (wd s (pq s) i)) (ho : iO (wd s (pq s) i) ≠ 30 ∧ iO (wd s (pq s) i) ≠ 37 ∧ iO (wd s (pq s) i) ≠ 38) : Out s := ⟨h.1.1, h.1.2.1, h.2.2.2, Or.inl ⟨h.2.2.1, h.1.2.2, h.2.1.run h.1 hm hu ho⟩⟩
theorem sL_self (s : S1) (f : Nat) (i : Int32) : sL s f i (gL s f i) = s := by
  unfold sL gL
  refine Prod.ext rfl (Prod.ext ?_ rfl)
  funext g j
  dsimp only
  by_cases h : g = f ∧ j = i
  · rw [if_pos h, h.1, h.2]
  · rw [if_neg h]
theorem meta_ok (s : S1) (k e : Int32) (v : Int64) (h : GG s) (hx : Fx4 s) (hv : Vl false s k v) (he : 0 ≤ e ∧ e < 22) : ok (M_Mo_meta k v e) s (fun r s' => ∃ gk gv, s' = sL (sI s 66 0 gk) 67 0 gv ∧ (r ≠ 0 → Vl false s gk gv ∧ gk ≠ 0)) := by
  have no : ∃ gk gv, sI s 66 0 0 = sL (sI s 66 0 gk) 67 0 gv ∧ ((0 : Int32) ≠ 0 → Vl false s gk gv ∧ gk ≠ 0) := ⟨0, gL s 67 0, (sL_self (sI s 66 0 0) 67 0).symm, fun z => absurd rfl z⟩
  simp only [M_Mo_meta, ok_B, ok_C, ok_R, ok_L, ok_K, ok_GI, ok_GL, ok_PI, ok_PL, ok_AI, ok_AL, ok_SI, ok_SL, ok_Pr, ok_CI, cmp_lt, cmp_le, cmp_gt, cmp_ge, cmp_eq, nar0, nar1, Sum.elim_inl, Sum.elim_inr]
  refine ⟨fun c => ?_, fun _ => no⟩
  subst c
  have hl : Lv false s v.toInt32 5 := by
    rcases hv with w | w | w
    · exact absurd w.2 (by decide)
    · exact absurd w.1 (by decide)
    · exact w.2.2.2.2
  have hu := h.used
  have b1 : 0 ≤ v.toInt32 ∧ v.toInt32 < 4100 := ⟨hl.1, Int32.lt_trans (Int32.lt_of_lt_of_le hl.2.1 hu.2) (by decide)⟩
  have ch := ((h.1.1.1.2.2 _ hl.1 hl.2.1).2.1 hl.2.2.1).1
  have ev := (hx.1 e he.1 he.2).1
  have hx0 := (Hx0.refl s).sI (f := 66) (i := 0) (x := 0) (by decide)
  have g0 := h.hx hx0
  refine ⟨b1, fun c => ⟨b1, he, ?_⟩, fun _ => no⟩
  have hl2 : Lv false s (a_chain s v.toInt32) 5 := by
    rcases ch with w | w
    · exact absurd (Int32.lt_of_le_of_lt c w) Int32.lt_irrefl
    · exact w
  have hh := hx0.hw.hs
  have es : ∀ gk gv, sL (sI (sI s 66 0 0) 66 0 gk) 67 0 gv = sL (sI s 66 0 gk) 67 0 gv := fun gk gv => by
    have := got_got s 0 gk (gL s 67 0) gv
    have w := sL_self (sI s 66 0 0) 67 0
    rw [gL_sI] at w
    rw [w] at this
    exact this
  simp only [gI_sI, gI_sL, gI_sA, gI_sB, gI_sAf, gI_sBf, gL_sI, gL_sL, gL_sA, gL_sB, gL_sAf, gL_sBf, gA_sI, gA_sL, gA_sA, gA_sB, gA_sAf, gA_sBf, gB_sI, gB_sL, gB_sA, gB_sB, gB_sAf, gB_sBf, Nat.reduceEqDiff, Nat.reduceMul, Nat.reduceAdd, false_and, true_and, and_true, and_false, if_true, if_false]
  generalize sI s 66 0 0 = z at *
  refine ok_mono (raw_ok z (a_chain s v.toInt32) 4 (a_event s e).toInt64 g0 ((Lv.hs hh).mpr hl2)) fun r s' ⟨gk, gv, e1, q1, q2, q3, q4⟩ => ⟨q4, gk, gv, e1.trans (es gk gv), fun y => ⟨(Vl.hs hh).mp q1, fun w => y (q2.mpr w)⟩⟩
