/-! A function, from its beginning. -/
def Nm (s : S1) : Prop := (f_entryTop s ≤ f_roomAll s ∧ 0 ≤ f_roomAll s ∧ f_roomAll s ≤ 300000) ∧ (f_textMade s ≤ f_textAll s ∧ 0 ≤ f_textAll s ∧ f_textAll s ≤ 400000) ∧ (0 ≤ f_made s ∧ f_made s ≤ f_madeAll s ∧ f_madeAll s ≤ 60000) ∧ f_limit s ≤ 4000 ∧ ∀ x q, Sg s x q → a_tag s x < f_made s
theorem Gc.I {s s' : S1} (h : Gc s s') (f : Nat) (hf : f ≠ 34 ∧ f ≠ 35 ∧ f ≠ 36 ∧ f ≠ 39 ∧ f ≠ 54 ∧ f ≠ 66 ∧ f ≠ 69 ∧ f ≠ 3584 ∧ f ≠ 3587) (i : Int32) : gI s' f i = gI s f i := h.1 f i hf.1 hf.2.1 hf.2.2.1 hf.2.2.2.1 hf.2.2.2.2.1 hf.2.2.2.2.2.1 hf.2.2.2.2.2.2.1 hf.2.2.2.2.2.2.2.1 hf.2.2.2.2.2.2.2.2
theorem Gcx.I {s s' : S1} (h : Gcx s s') (f : Nat) (hf : f ≠ 34 ∧ f ≠ 35 ∧ f ≠ 36 ∧ f ≠ 39 ∧ f ≠ 54 ∧ f ≠ 64 ∧ f ≠ 66 ∧ f ≠ 69 ∧ f ≠ 73 ∧ f ≠ 3584 ∧ f ≠ 3587) (i : Int32) : gI s' f i = gI s f i := h.1 f i hf.1 hf.2.1 hf.2.2.1 hf.2.2.2.1 hf.2.2.2.2.1 hf.2.2.2.2.2.1 hf.2.2.2.2.2.2.1 hf.2.2.2.2.2.2.2.1 hf.2.2.2.2.2.2.2.2.1 hf.2.2.2.2.2.2.2.2.2.1 hf.2.2.2.2.2.2.2.2.2.2
theorem Gcx.A {s s' : S1} (h : Gcx s s') (a : Nat) (ha : a ≠ 5 ∧ a ≠ 58 ∧ a ≠ 59 ∧ a ≠ 62 ∧ a ≠ 65 ∧ a ≠ 66 ∧ a ≠ 68 ∧ a ≠ 75) (i j : Int32) : gA s' a i j = gA s a i j := h.2.2.1 a i j ha.1 ha.2.1 ha.2.2.1 ha.2.2.2.1 ha.2.2.2.2.1 ha.2.2.2.2.2.1 ha.2.2.2.2.2.2.1 ha.2.2.2.2.2.2.2
theorem Sg.gcx {s s' : S1} {x q : Int32} (h : Sg s' x q) (hg : Gcx s s') : Sg s x q := by
  have eu : f_used s' = f_used s := hg.I 40 (by decide) 0
  obtain ⟨a, b, c, d⟩ := h
  rw [eu] at b
  have es : a_sort s x = 4 := by
    rcases hg.2.2.2.2.2.1 x a b with w | w
    · rw [c] at w
      exact absurd w (by decide)
    · exact w.symm.trans c
  have ef : a_first s' x = a_first s x := hg.2.2.2.2.1 x (by rw [es]; decide)
  have e2 : a_second s' x = a_second s x := hg.A 63 (by decide) 0 x
  rw [ef, e2, hF_congr (fun j => hg.A 67 (by decide) 0 j)] at d
  exact ⟨a, b, es, d⟩
theorem Nm.gcx {s s' : S1} (h : Nm s) (hg : Gcx s s') : Nm s' := by
  obtain ⟨h1, h2, h3, h4, h5⟩ := h
  have et : ∀ x, a_tag s' x = a_tag s x := fun x => hg.A 61 (by decide) 0 x
  unfold Nm
  simp only [et]
  simp only [f_entryTop, f_roomAll, f_textMade, f_textAll, f_made, f_madeAll, f_limit, hg.I 41 (by decide), hg.I 43 (by decide), hg.I 38 (by decide), hg.I 44 (by decide), hg.I 33 (by decide), hg.I 42 (by decide), hg.I 32 (by decide)] at *
  exact ⟨h1, h2, h3, h4, fun x q hq => h5 x q (hq.gcx hg)⟩
theorem closure_ok (s : S1) (l1 l2 n : Int32) (h : Gm s) (hnm : Nm s) (hn : 0 ≤ n ∧ n ≤ 64) (hl : l1 < 251) (hc : 0 ≤ l1 → ∀ s0, Gm s0 → Gc s s0 → ∀ k, 0 ≤ k → k < n → Lv false s0 (a_capture s0 k) 8) (hw : l1 < 0 → ∀ s0, Gm s0 → Gc s s0 → Lv false s0 l2 7) :
    ok (M_Mo_closure l1 l2 n) s (Made s 6) := by
  simp only [M_Mo_closure, ok_B, ok_C, ok_R, ok_L, ok_K, ok_GI, ok_GL, ok_PI, ok_PL, ok_AI, ok_AL, ok_SI, ok_SL, ok_Pr, ok_CI, cmp_lt, cmp_le, cmp_gt, cmp_ge, cmp_eq, nar0, nar1, Sum.elim_inl, Sum.elim_inr]
  refine ⟨fun c => ?_, fun c => ok_mono (raise_ok s 11) fun v s' ⟨ev, es⟩ => ?_⟩
  · refine ok_mono (may_ok s 0 h) fun v s0 ⟨h0, hx, hv, hok⟩ => ⟨fun c => Or.inl ⟨rfl, h0, hx⟩, fun d => ?_⟩
    obtain ⟨hg, he, hm, -⟩ := hok d
    have nm0 := hnm.gcx hx
    refine ok_mono (object_ok s0 6 ⟨by decide, by decide⟩ h0.1.2.2.2.2.2.2 h0.1.2.2.1 (Int32.lt_of_lt_of_le he nm0.2.2.2.1)) fun x s1 hN => ?_
    have hx1 : 0 ≤ x ∧ x < 4100 := ⟨hN.1.1, Int32.lt_trans (Int32.lt_of_lt_of_le hN.1.2.1 hN.1.2.2) (by decide)⟩
    have e43 : f_roomAll s0 = f_roomAll s := hg.I 43 (by decide) 0
    have ht : f_entryTop s0 + n ≤ 300000 := by
      have q1 := nm0.1
      have q0 := h0.1.1.2.1
      rw [e43] at q1
      simp only [f_roomAll, f_entryTop] at *
      clear hc hw hok hN nm0 hnm h h0 hx hg
      grind
    have e41 : gI (sA (sI (sI s1 37 0 (gI s1 37 0 + n)) 43 0 (gI (sI s1 37 0 (gI s1 37 0 + n)) 43 0 + n)) 62 0 x l1) 41 0 = f_entryTop s0 := by
      simp only [gI_sI, gI_sL, gI_sA, gI_sB, gI_sAf, gI_sBf, gL_sI, gL_sL, gL_sA, gL_sB, gL_sAf, gL_sBf, gA_sI, gA_sL, gA_sA, gA_sB, gA_sAf, gA_sBf, gB_sI, gB_sL, gB_sA, gB_sB, gB_sAf, gB_sBf, Nat.reduceEqDiff, Nat.reduceMul, Nat.reduceAdd, false_and, true_and, and_true, and_false, if_true, if_false]
      exact hN.2.2.2.2.2.1 41 0 (by decide) (by decide) (by decide) (by decide) (by decide)
    refine ⟨hx1, fun e => ?_, fun e => ?_⟩
    · rw [e41]
      refine ok_mono (clos83_ok s0 s1 x l1 _ n h0 hN hn ht hl (fun _ => rfl) (fun w => hc w s0 h0 hg) (fun w => absurd (Int32.lt_of_le_of_lt e w) Int32.lt_irrefl) _ _) fun v s2 ⟨ev, hM, g2, _⟩ => ?_
      subst ev
      exact Made.of h0 hg hM g2
    · have e' := Int32.not_le.mp e
      refine ok_mono (clos83_ok s0 s1 x l1 l2 n h0 hN hn ht hl (fun w => absurd w e) (fun w => absurd w e) (fun w => hw w s0 h0 hg) _ _) fun v s2 ⟨ev, hM, g2, _⟩ => ?_
      subst ev
      exact Made.of h0 hg hM g2
  · subst ev es
    exact Or.inl ⟨rfl, h.raise 11 _, (Gc.refl s).x.raise 11 _⟩
