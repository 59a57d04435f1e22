/-! The class: the variable of a register. -/
theorem openVar_ok {s : S1} {n e : Nat × Nat} {c r : Int32} (H : cHR s) (R : cRo s n e) (hc : pC s c) (hl : 0 ≤ oSl s c) (ix : gI s 18947 c = c) (hr : 0 ≤ r ∧ r < 4000)
    (hv : ∀ s0, cMg s s0 → cHR s0 → 0 ≤ oSl s0 c ∧ cV (cLv false s0) (oRk s0 c r) (oRv s0 c r)) : ok (M_He_openVariable n c r) s (ovQ s e c r) := by
  have cn := (H.1.2.2.2.2.1.1 c hc hl).2.2
  have pts : ∀ y, cOp s c y → pT s y := fun y q => H.1.1.2 y q.1.1.1 q.1.1.2
  have made : ∀ a z, osE s c r a z → (0 ≤ z → (cPl s z).toInt ≠ r.toInt) → ok (M_He_openVariable_j81 c r a z n) s (ovQ s e c r) := fun a z es zn => by
    simp only [M_He_openVariable_j81, ok_B, ok_C, ok_R, ok_L, ok_K, ok_GI, ok_GL, ok_PI, ok_PL, ok_AI, ok_AL, ok_SI, ok_SL, ok_CI, cmp_lt, cmp_le, cmp_gt, cmp_ge, cmp_eq, nar0, nar1, Sum.elim_inl, Sum.elim_inr, ok_PzT, ok_PzC, ok_PzP, ok_PrC, ok_PrP, ok_PrF, ok_PrN, ok_Ln, ok_CL, ok_Nw, ok_S, ok_Ks, ok_Nz]
    refine ok_mono (make_ok H R 8 0 0 ⟨by decide, by decide⟩ ⟨by decide, by decide⟩) ?_
    rintro ⟨x, m⟩ s1 ⟨s0, mg, h0, r0, w⟩
    dsimp only at w
    rcases w with ⟨w1, rfl, rfl⟩ | ⟨x0, md, -, r1⟩
    · refine ⟨fun q => absurd (neg_not w1) (by clear H R h0 r0 mg hv; dsimp only at q; grind), fun _ => .inr ⟨_, mg, h0, r0, .inl ⟨w1, rfl⟩⟩⟩
    · refine ⟨fun _ => ?_, fun q => absurd x0 q⟩
      obtain ⟨l0, v0⟩ := hv s0 mg h0
      have hc0 : pC s0 c := by
        rcases mg with rfl | mg
        · exact hc
        · unfold pC at hc ⊢
          rw [mg.2.1 _ _ (by decide)]
          exact hc
      have ix0 : gI s1 18947 c = c := by
        rw [md.I _ _ (by decide) (.inl (by decide))]
        rcases mg with rfl | mg
        · exact ix
        · rw [mg.2.1 _ _ (by decide)]
          exact ix
      have ep : ∀ y, cPl s0 y = cPl s y := fun y => by
        rcases mg with rfl | mg
        · rfl
        · exact mg.2.1 _ _ (by decide)
      have es0 := es.mg mg hc l0
      have zr : 0 ≤ z → (cPl s0 z).toInt < r.toInt := fun q => by
        have b := zn q
        rcases es.2 with b1 | ⟨-, b2⟩
        · exact absurd q (by clear H R h0 r0 mg hv es es0 md r1; grind)
        · rw [ep]
          omega
      have px := md.nw.2.1
      have pt : ∀ (t : S1), gI t 18687 x = gI s1 18687 x → pT t x := fun t q => ⟨px.1, q.trans px.2⟩
      have rr : cRo s1 m e := r1.le (Nat.le_succ _) (by dsimp only; omega)
      rw [ix0]
      refine ⟨px, pt _ (by simp only [gI_sI, gI_sL, gI_sA, gI_sB, gI_sAf, gI_sBf, gL_sI, gL_sL, gL_sA, gL_sB, gL_sAf, gL_sBf, gA_sI, gA_sL, gA_sA, gA_sB, gA_sAf, gA_sBf, gB_sI, gB_sL, gB_sA, gB_sB, gB_sAf, gB_sBf, Nat.reduceEqDiff, Nat.reduceMul, Nat.reduceAdd, false_and, true_and, and_true, and_false, if_true, if_false]), pt _ (by simp only [gI_sI, gI_sL, gI_sA, gI_sB, gI_sAf, gI_sBf, gL_sI, gL_sL, gL_sA, gL_sB, gL_sAf, gL_sBf, gA_sI, gA_sL, gA_sA, gA_sB, gA_sAf, gA_sBf, gB_sI, gB_sL, gB_sA, gB_sB, gB_sAf, gB_sBf, Nat.reduceEqDiff, Nat.reduceMul, Nat.reduceAdd, false_and, true_and, and_true, and_false, if_true, if_false]), fun a0 => ⟨?_, ?_⟩, fun a0 => ?_⟩
      · have b : 0 ≤ a ∧ cOp s0 c a := by
          rcases es0.1 with ⟨b1, -⟩ | ⟨b1, b2, -⟩
          · rw [b1] at a0
            exact absurd a0 (by decide)
          · exact ⟨b1, b2⟩
        have pa := h0.1.1.2 a b.2.1.1.1 b.2.1.1.2
        refine ⟨pa.1, ?_⟩
        have ne := (md.nw.old b.2.1 (by decide))
        have : gI s1 18687 a = gI s0 18687 a := md.I _ _ (by decide) (.inr ne)
        simp only [gI_sI, gI_sL, gI_sA, gI_sB, gI_sAf, gI_sBf, gL_sI, gL_sL, gL_sA, gL_sB, gL_sAf, gL_sBf, gA_sI, gA_sL, gA_sA, gA_sB, gA_sAf, gA_sBf, gB_sI, gB_sL, gB_sA, gB_sB, gB_sAf, gB_sBf, Nat.reduceEqDiff, Nat.reduceMul, Nat.reduceAdd, false_and, true_and, and_true, and_false, if_true, if_false]
        exact this.trans pa.2
      · have f := ov_fin (t := sI (sI (sI (sI s1 18564 x c) 18566 x r) 18565 x z) 18565 a x) h0 r0.1.1.1 md rr hc0 l0 hr v0 es0 zr (fun f j q => by
          rw [gI_sI, if_neg (fun w => q.1 w.1), gI_sI, if_neg (fun w => q.1 w.1), gI_sI, gI_sI]) rfl (fun y => by
          unfold cNx
          rw [gI_sI, gI_sI, gI_sI, if_neg (c := 18565 = 18566 ∧ y = x) (fun w => absurd w.1 (by decide)), gI_sI, if_neg (c := 18565 = 18564 ∧ y = x) (fun w => absurd w.1 (by decide))]
          simp only [a0, true_and]) (fun c' => by
          unfold oNo
          rw [if_neg (fun w => w.1 a0)]
          simp only [gI_sI, gI_sL, gI_sA, gI_sB, gI_sAf, gI_sBf, gL_sI, gL_sL, gL_sA, gL_sB, gL_sAf, gL_sBf, gA_sI, gA_sL, gA_sA, gA_sB, gA_sAf, gA_sBf, gB_sI, gB_sL, gB_sA, gB_sB, gB_sAf, gB_sBf, Nat.reduceEqDiff, Nat.reduceMul, Nat.reduceAdd, false_and, true_and, and_true, and_false, if_true, if_false])
        exact .inr ⟨s0, mg, h0, f.1, .inr ⟨x0, f.2⟩⟩
      · have f := ov_fin (t := sI (sI (sI (sI s1 18564 x c) 18566 x r) 18565 x z) 18954 c x) h0 r0.1.1.1 md rr hc0 l0 hr v0 es0 zr (fun f j q => by
          rw [gI_sI, if_neg (fun w => q.2 w.1), gI_sI, if_neg (fun w => q.1 w.1), gI_sI, gI_sI]) rfl (fun y => by
          unfold cNx
          rw [if_neg (fun w => a0 w.1)]
          simp only [gI_sI, gI_sL, gI_sA, gI_sB, gI_sAf, gI_sBf, gL_sI, gL_sL, gL_sA, gL_sB, gL_sAf, gL_sBf, gA_sI, gA_sL, gA_sA, gA_sB, gA_sAf, gA_sBf, gB_sI, gB_sL, gB_sA, gB_sB, gB_sAf, gB_sBf, Nat.reduceEqDiff, Nat.reduceMul, Nat.reduceAdd, false_and, true_and, and_true, and_false, if_true, if_false]) (fun c' => by
          unfold oNo
          simp only [gI_sI, gI_sL, gI_sA, gI_sB, gI_sAf, gI_sBf, gL_sI, gL_sL, gL_sA, gL_sB, gL_sAf, gL_sBf, gA_sI, gA_sL, gA_sA, gA_sB, gA_sAf, gA_sBf, gB_sI, gB_sL, gB_sA, gB_sB, gB_sAf, gB_sBf, Nat.reduceEqDiff, Nat.reduceMul, Nat.reduceAdd, false_and, true_and, and_true, and_false, if_true, if_false, a0, not_false_eq_true])
        exact .inr ⟨s0, mg, h0, f.1, .inr ⟨x0, f.2⟩⟩
  simp only [M_He_openVariable, M_He_openVariable_j59, ok_B, ok_C, ok_R, ok_L, ok_K, ok_GI, ok_GL, ok_PI, ok_PL, ok_AI, ok_AL, ok_SI, ok_SL, ok_CI, cmp_lt, cmp_le, cmp_gt, cmp_ge, cmp_eq, nar0, nar1, Sum.elim_inl, Sum.elim_inr, ok_PzT, ok_PzC, ok_PzP, ok_PrC, ok_PrP, ok_PrF, ok_PrN, ok_Ln, ok_CL, ok_Nw, ok_S, ok_Ks, ok_Nz]
  refine ok_mono (opSearch_ok n cn pts) ?_
  rintro y s1 ⟨rfl, a, z, rfl, es⟩
  refine ⟨fun d => made a z es (fun q => absurd q (by clear H R cn hv es made pts; dsimp only at d; grind)), fun d => ?_⟩
  have z0 : 0 ≤ z := by
    clear H R cn hv es made pts
    dsimp only at d
    grind
  have oz := (es.2.resolve_left d).1
  refine ⟨pts z oz, fun f => .inl ⟨rfl, oz, f, R⟩, fun f => made a z es (fun _ w => f (toInt_inj w))⟩
