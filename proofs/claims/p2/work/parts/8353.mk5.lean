/-! A function, from its beginning. -/
/-- a new function: its prototype, its room -/
def E6 (p n : Int32) (s0 s' : S1) (x : Int32) : Prop := f_entryTop s' = f_entryTop s0 + n ∧ a_first s' x = p ∧ a_third s' x = n ∧ (0 ≤ p → a_second s' x = f_entryTop s0)
theorem closure_ok (s : S1) (l1 l2 n : Int32) (h : Gm s) (hnm : Nm s) (hn : 0 ≤ n ∧ n ≤ 64) (hl : l1 < 251) (hc : 0 ≤ l1 → ∀ s0, Gm s0 → Gc s s0 → ∀ k, 0 ≤ k → k < n → Lv false s0 (a_capture s0 k) 8) (hw : l1 < 0 → ∀ s0, Gm s0 → Gc s s0 → Lv false s0 l2 7) :
    ok (M_Mo_closure l1 l2 n) s (Made s 6 (E6 l1 n)) := by
  simp only [M_Mo_closure, ok_B, ok_C, ok_R, ok_L, ok_K, ok_GI, ok_GL, ok_PI, ok_PL, ok_AI, ok_AL, ok_SI, ok_SL, ok_Pr, ok_CI, cmp_lt, cmp_le, cmp_gt, cmp_ge, cmp_eq, nar0, nar1, Sum.elim_inl, Sum.elim_inr]
  refine ⟨fun c => ?_, fun c => ok_mono (q_raise_ok s 11) fun v s' ⟨ev, es⟩ => ?_⟩
  · refine ok_mono (may_ok s 0 h) fun v s0 ⟨h0, hx, hkl, hv, hok⟩ => ⟨fun c => Or.inl ⟨rfl, h0, hx, hkl, hnm.gcx hx⟩, fun d => ?_⟩
    obtain ⟨hg, he, hm, -⟩ := hok d
    have nm0 := hnm.gcx hx
    refine ok_mono (object_ok s0 6 ⟨by decide, by decide⟩ h0.1.2.2.2.2.2.2 h0.1.2.2.1 (Int32.lt_of_lt_of_le he nm0.2.2.2.1)) fun x s1 hN => ?_
    have hx1 : 0 ≤ x ∧ x < 4100 := ⟨hN.1.1, Int32.lt_trans (Int32.lt_of_lt_of_le hN.1.2.1 hN.1.2.2) (by decide)⟩
    have e43 : f_roomAll s0 = f_roomAll s := hg.I 43 (by decide) 0
    have ht : f_entryTop s0 + n ≤ 300000 := by
      have q1 := nm0.1
      have q0 := h0.1.1.2.1
      rw [e43] at q1
      simp only [f_roomAll, f_entryTop] at *
      clear hc hw hok hN nm0 hnm h h0 hx hg
      grind
    have e41 : gI (sA (sI (sI s1 37 0 (gI s1 37 0 + n)) 43 0 (gI (sI s1 37 0 (gI s1 37 0 + n)) 43 0 + n)) 62 0 x l1) 41 0 = f_entryTop s0 := by
      simp only [gI_sI, gI_sL, gI_sA, gI_sB, gI_sAf, gI_sBf, gL_sI, gL_sL, gL_sA, gL_sB, gL_sAf, gL_sBf, gA_sI, gA_sL, gA_sA, gA_sB, gA_sAf, gA_sBf, gB_sI, gB_sL, gB_sA, gB_sB, gB_sAf, gB_sBf, Nat.reduceEqDiff, Nat.reduceMul, Nat.reduceAdd, false_and, true_and, and_true, and_false, if_true, if_false]
      exact hN.2.2.2.2.2.1 41 0 (by decide) (by decide) (by decide) (by decide) (by decide)
    have hrm : f_roomAll s0 + n ≤ 300000 := by
      rw [e43]
      exact c
    have hNm : ∀ v s2, Mk2 s0 s2 v 6 → gI s2 41 0 = f_entryTop s0 + n → gI s2 43 0 = gI (sI s1 37 0 (gI s1 37 0 + n)) 43 0 + n → gI s2 38 0 = gI s1 38 0 → gI s2 44 0 = gI s1 44 0 → Nm s2 := fun v s2 hM a b c d => by
      have w : ∀ f, f ≠ 33 → f ≠ 34 → f ≠ 40 → f ≠ 42 → f ≠ 54 → gI s1 f 0 = gI s0 f 0 := fun f p q r t u => hN.2.2.2.2.2.1 f 0 p q r t u
      refine nm0.mk2 hM (fun e => absurd e (by decide)) hm n 0 ⟨hn.1, Int32.le_trans hn.2 (by decide)⟩ ⟨by decide, by decide⟩ h0.1.1.2.1.1 h0.1.2.1.1.1 a ?_ ?_ ?_ hrm (by rw [Int32.add_zero]; exact nm0.2.1.2.2)
      · rw [gI_sI, if_neg (by decide), w 43 (by decide) (by decide) (by decide) (by decide) (by decide)] at b
        exact b
      · exact c.trans ((w 38 (by decide) (by decide) (by decide) (by decide) (by decide)).trans (Int32.add_zero _).symm)
      · exact d.trans ((w 44 (by decide) (by decide) (by decide) (by decide) (by decide)).trans (Int32.add_zero _).symm)
    refine ⟨hx1, fun e => ?_, fun e => ?_⟩
    · rw [e41]
      refine ok_mono (clos83_ok s0 s1 x l1 _ n h0 hN hn ht hl (fun _ => rfl) (fun w => hc w s0 h0 hg) (fun w => absurd (Int32.lt_of_le_of_lt e w) Int32.lt_irrefl) _ _) fun v s2 ⟨ev, hM, g2, q41, ⟨q62, q63, q64⟩, q43, q38, q44⟩ => ?_
      subst ev
      exact Made.of h0 hg hkl nm0 hM (hNm v s2 hM q41 q43 q38 q44) ⟨q41, q62, q64, fun _ => q63⟩ g2
    · have e' := Int32.not_le.mp e
      refine ok_mono (clos83_ok s0 s1 x l1 l2 n h0 hN hn ht hl (fun w => absurd w e) (fun w => absurd w e) (fun w => hw w s0 h0 hg) _ _) fun v s2 ⟨ev, hM, g2, q41, ⟨q62, q63, q64⟩, q43, q38, q44⟩ => ?_
      subst ev
      exact Made.of h0 hg hkl nm0 hM (hNm v s2 hM q41 q43 q38 q44) ⟨q41, q62, q64, fun w => absurd w e⟩ g2
  · subst ev es
    exact Or.inl ⟨rfl, h.raise 11 _, (Gc.refl s).x.raise 11 _, (Kl.refl s).raise 11 _ (by decide), hnm.gcx ((Gc.refl s).x.raise 11 _)⟩
