/-! The class: closed variables and functions made. -/
theorem not_j {x j : Int32} {f : Nat} (w : 145 ≤ f / 128 ∧ f / 128 ≤ 147 → j ≠ x) (g : Nat) (hg : 145 ≤ g / 128 ∧ g / 128 ≤ 147) : ¬ (f = g ∧ j = x) := fun z => by
  rw [z.1] at w
  exact w hg z.2
theorem makeVar_ok {s : S1} {n e : Nat × Nat} (H : cHR s) (R : cRo s n e) (k : Int32) (v : Int64) (hv : ∀ s0, cMg s s0 → cHR s0 → cV (cLv false s0) k v) : ok (M_He_makeClosedVariable n k v) s (mdQ s e 8 (fun x s' => cLk s' x = -1)) := by
  simp only [M_He_makeClosedVariable, ok_B, ok_C, ok_R, ok_L, ok_K, ok_GI, ok_GL, ok_PI, ok_PL, ok_AI, ok_AL, ok_SI, ok_SL, ok_CI, cmp_lt, cmp_le, cmp_gt, cmp_ge, cmp_eq, nar0, nar1, Sum.elim_inl, Sum.elim_inr, ok_PzT, ok_PzC, ok_PzP, ok_PrC, ok_PrP, ok_PrF, ok_PrN, ok_Ln, ok_CL, ok_Nw, ok_S, ok_Ks, ok_Nz]
  refine ok_mono (make_ok H R 8 0 0 ⟨by decide, by decide⟩ ⟨by decide, by decide⟩) ?_
  rintro ⟨x, m⟩ s1 ⟨s0, mg, h0, r0, w⟩
  dsimp only at w
  rcases w with ⟨w1, rfl, rfl⟩ | ⟨x0, md, -, r1⟩
  · refine ⟨fun _ => ⟨_, mg, h0, r0, .inl ⟨w1, rfl⟩⟩, fun c => absurd (neg_not w1) c⟩
  · refine ⟨fun c => absurd x0 (by clear H R h0 r0 md r1 mg hv; dsimp only at c; grind), fun _ => ?_⟩
    have px := md.nw.2.1
    have pt : ∀ (t : S1), gI t 18687 x = gI s1 18687 x → pT t x := fun t q => ⟨px.1, q.trans px.2⟩
    refine ⟨px, pt _ (by simp only [gI_sI, gI_sL, gI_sA, gI_sB, gI_sAf, gI_sBf, gL_sI, gL_sL, gL_sA, gL_sB, gL_sAf, gL_sBf, gA_sI, gA_sL, gA_sA, gA_sB, gA_sAf, gA_sBf, gB_sI, gB_sL, gB_sA, gB_sB, gB_sAf, gB_sBf, Nat.reduceEqDiff, Nat.reduceMul, Nat.reduceAdd, false_and, true_and, and_true, and_false, if_true, if_false]), pt _ (by simp only [gI_sI, gI_sL, gI_sA, gI_sB, gI_sAf, gI_sBf, gL_sI, gL_sL, gL_sA, gL_sB, gL_sAf, gL_sBf, gA_sI, gA_sL, gA_sA, gA_sB, gA_sAf, gA_sBf, gB_sI, gB_sL, gB_sA, gB_sB, gB_sAf, gB_sBf, Nat.reduceEqDiff, Nat.reduceMul, Nat.reduceAdd, false_and, true_and, and_true, and_false, if_true, if_false]), s0, mg, h0, ?_, .inr ⟨x0, ?_⟩⟩
    · refine cRo.fi (x := x) (r1.le (Nat.le_succ _) (by dsimp only; omega)) (fun f j q => ?_) (fun j _ => rfl)
      rcases q with rfl | rfl | rfl | rfl | rfl | rfl | rfl | rfl | rfl <;> simp only [gI_sI, gI_sL, gI_sA, gI_sB, gI_sAf, gI_sBf, gL_sI, gL_sL, gL_sA, gL_sB, gL_sAf, gL_sBf, gA_sI, gA_sL, gA_sA, gA_sB, gA_sAf, gA_sBf, gB_sI, gB_sL, gB_sA, gB_sB, gB_sAf, gB_sBf, Nat.reduceEqDiff, Nat.reduceMul, Nat.reduceAdd, false_and, true_and, and_true, and_false, if_true, if_false]
    · have fi : cFi x s1 (sL (sI (sI s1 18564 x (-1)) 18567 x k) 18568 x v) := by
        refine ⟨fun f j q w => ?_, fun f j w => ?_, fun _ _ _ _ _ => rfl, fun _ _ _ _ _ => rfl, ?_, ?_, ?_, ?_⟩
        · rw [gI_sL, gI_sI, if_neg (not_j w _ (by decide)), gI_sI, if_neg (not_j w _ (by decide))]
        · rw [gL_sL, if_neg (fun z => w (by rw [z.1]) z.2)]
          rfl
        · simp only [cTy, gI_sI, gI_sL, gI_sA, gI_sB, gI_sAf, gI_sBf, gL_sI, gL_sL, gL_sA, gL_sB, gL_sAf, gL_sBf, gA_sI, gA_sL, gA_sA, gA_sB, gA_sAf, gA_sBf, gB_sI, gB_sL, gB_sA, gB_sB, gB_sAf, gB_sBf, Nat.reduceEqDiff, Nat.reduceMul, Nat.reduceAdd, false_and, true_and, and_true, and_false, if_true, if_false]
        · simp only [cNu, gI_sI, gI_sL, gI_sA, gI_sB, gI_sAf, gI_sBf, gL_sI, gL_sL, gL_sA, gL_sB, gL_sAf, gL_sBf, gA_sI, gA_sL, gA_sA, gA_sB, gA_sAf, gA_sBf, gB_sI, gB_sL, gB_sA, gB_sB, gB_sAf, gB_sBf, Nat.reduceEqDiff, Nat.reduceMul, Nat.reduceAdd, false_and, true_and, and_true, and_false, if_true, if_false]
        · simp only [cSy, gI_sI, gI_sL, gI_sA, gI_sB, gI_sAf, gI_sBf, gL_sI, gL_sL, gL_sA, gL_sB, gL_sAf, gL_sBf, gA_sI, gA_sL, gA_sA, gA_sB, gA_sAf, gA_sBf, gB_sI, gB_sL, gB_sA, gB_sB, gB_sAf, gB_sBf, Nat.reduceEqDiff, Nat.reduceMul, Nat.reduceAdd, false_and, true_and, and_true, and_false, if_true, if_false]
        · simp only [gI_sI, gI_sL, gI_sA, gI_sB, gI_sAf, gI_sBf, gL_sI, gL_sL, gL_sA, gL_sB, gL_sAf, gL_sBf, gA_sI, gA_sL, gA_sA, gA_sB, gA_sAf, gA_sBf, gB_sI, gB_sL, gB_sA, gB_sB, gB_sAf, gB_sBf, Nat.reduceEqDiff, Nat.reduceMul, Nat.reduceAdd, false_and, true_and, and_true, and_false, if_true, if_false]
      have f1 : cLk (sL (sI (sI s1 18564 x (-1)) 18567 x k) 18568 x v) x = -1 := by
        simp only [cLk, gI_sI, gI_sL, gI_sA, gI_sB, gI_sAf, gI_sBf, gL_sI, gL_sL, gL_sA, gL_sB, gL_sAf, gL_sBf, gA_sI, gA_sL, gA_sA, gA_sB, gA_sAf, gA_sBf, gB_sI, gB_sL, gB_sA, gB_sB, gB_sAf, gB_sBf, Nat.reduceEqDiff, Nat.reduceMul, Nat.reduceAdd, false_and, true_and, and_true, and_false, if_true, if_false]
      have f2 : cCk (sL (sI (sI s1 18564 x (-1)) 18567 x k) 18568 x v) x = k := by
        simp only [cCk, gI_sI, gI_sL, gI_sA, gI_sB, gI_sAf, gI_sBf, gL_sI, gL_sL, gL_sA, gL_sB, gL_sAf, gL_sBf, gA_sI, gA_sL, gA_sA, gA_sB, gA_sAf, gA_sBf, gB_sI, gB_sL, gB_sA, gB_sB, gB_sAf, gB_sBf, Nat.reduceEqDiff, Nat.reduceMul, Nat.reduceAdd, false_and, true_and, and_true, and_false, if_true, if_false]
      have f3 : cCv (sL (sI (sI s1 18564 x (-1)) 18567 x k) 18568 x v) x = v := by
        simp only [cCv, gI_sI, gI_sL, gI_sA, gI_sB, gI_sAf, gI_sBf, gL_sI, gL_sL, gL_sA, gL_sB, gL_sAf, gL_sBf, gA_sI, gA_sL, gA_sA, gA_sB, gA_sAf, gA_sBf, gB_sI, gB_sL, gB_sA, gB_sB, gB_sAf, gB_sBf, Nat.reduceEqDiff, Nat.reduceMul, Nat.reduceAdd, false_and, true_and, and_true, and_false, if_true, if_false]
      generalize sL (sI (sI s1 18564 x (-1)) 18567 x k) 18568 x v = t at fi f1 f2 f3
      have ty : cTy t x = 8 := fi.2.2.2.2.1.trans md.ty
      have nt := md.nt h0.1 fi (by decide)
      have pl := md.plain h0 r0.1.1.1 fi (.inr (.inr (.inl rfl))) ⟨cPv.of8 ty (.inl ⟨by rw [f1]; decide, ?_⟩), fun z => absurd (ty.symm.trans z) (by decide)⟩ (fun z => absurd z (by decide)) (fun _ => by rw [f1]; decide)
      · exact ⟨pl.1, pl.2, f1⟩
      · rw [f2, f3]
        exact (hv s0 mg h0).up (fun y u u0 l => (nt.2.1 y u u0 l).1)
/-- what makeClosure leaves: the function's variables are still to be set -/
def mcQ (s : S1) (e : Nat × Nat) (p u : Int32) (r : Int32 × (Nat × Nat)) (s' : S1) : Prop := ∃ s0, cMg s s0 ∧ cHR s0 ∧ 0 ≤ (cTl s0 4).toInt ∧ cRo s' r.2 e ∧ (((r.1 = -10 ∨ r.1 = -11) ∧ s' = s0) ∨ (0 ≤ r.1 ∧ ∃ s1, cMd r.1 6 u 0 s0 s1 ∧ cFi r.1 s1 s' ∧ cLk s' r.1 = p ∧ cUf s' r.1 = 1 ∧ u.toInt ≤ (cUl s' r.1).toInt))
theorem ofNat_toInt {k : Nat} (h : k < 2147483648) : (Int32.ofNat k).toInt = k := Int32.toInt_ofNat_of_lt h
theorem makeClosure_ok {s : S1} {n e : Nat × Nat} (H : cHR s) (R : cRo s n e) (p u : Int32) (hu : 0 ≤ u.toInt ∧ u.toInt ≤ 1000) : ok (M_He_makeClosure n p u) s (mcQ s e p u) := by
  simp only [M_He_makeClosure, M_He_makeClosure_j45, ok_B, ok_C, ok_R, ok_L, ok_K, ok_GI, ok_GL, ok_PI, ok_PL, ok_AI, ok_AL, ok_SI, ok_SL, ok_CI, cmp_lt, cmp_le, cmp_gt, cmp_ge, cmp_eq, nar0, nar1, Sum.elim_inl, Sum.elim_inr, ok_PzT, ok_PzC, ok_PzP, ok_PrC, ok_PrP, ok_PrF, ok_PrN, ok_Ln, ok_CL, ok_Nw, ok_S, ok_Ks, ok_Nz]
  refine ok_mono (make_ok H R 6 u 0 hu ⟨by decide, by decide⟩) ?_
  rintro ⟨x, m⟩ s1 ⟨s0, mg, h0, r0, w⟩
  dsimp only at w
  have e0 : (0 : Int32).toInt = 0 := rfl
  rcases w with ⟨w1, rfl, rfl⟩ | ⟨x0, md, -, r1⟩
  · refine ⟨fun _ => ⟨_, mg, h0, r0.1.1.1, r0, .inl ⟨w1, rfl⟩⟩, fun c => absurd (neg_not w1) c⟩
  · refine ⟨fun c => absurd x0 (by clear H R h0 r0 md r1 mg; dsimp only at c; grind), fun _ => ?_⟩
    have px := md.nw.2.1
    dsimp only at r1 ⊢
    have uc : u.toNatClampNeg = u.toInt.toNat := rfl
    have new : (0 ≤ u ∧ u ≤ 60000000) ∧ (1 ≤ m.1 ∧ u.toNatClampNeg ≤ m.2) ∧ mcQ s e p u (x, (m.1 - 1, m.2 - u.toNatClampNeg)) (nwR (sI s1 18564 x p) 147 x u.toNatClampNeg) := by
      have q6 : (60000000 : Int32).toInt = 60000000 := rfl
      refine ⟨by rw [i32_le, i32_le]; omega, ?_, s0, mg, h0, r0.1.1.1, ?_, .inr ⟨x0, s1, md, ?_, ?_, ?_, ?_⟩⟩
      · obtain ⟨-, a, b, c, -, c1, c2⟩ := r1
        rw [uc]
        dsimp only at c1 c2
        omega
      · obtain ⟨al, a, b, c, hw, c1, c2⟩ := r1
        have ei : ∀ f j, f ≠ 18943 → f ≠ 18942 → f ≠ 18564 → gI (nwR (sI s1 18564 x p) 147 x u.toNatClampNeg) f j = gI s1 f j := fun f j a b c => by
          rw [gI_nwR, if_neg (fun z => a z.1), if_neg (fun z => b z.1), gI_sI, if_neg (fun z => c z.1)]
        have et : ∀ j, cTl (nwR (sI s1 18564 x p) 147 x u.toNatClampNeg) j = cTl s1 j := fun j => by
          unfold cTl
          rw [gA_nwR, if_neg (fun z => absurd z.1 (by decide))]
          rfl
        refine ⟨?_, a, b, c, ?_, ?_, ?_⟩
        · unfold cAl at al ⊢
          rw [et, et, et, et, ei 15230 0 (by decide) (by decide) (by decide), ei 14220 0 (by decide) (by decide) (by decide)]
          exact al
        · obtain ⟨w1, w2, w3, w4, w5⟩ := hw
          unfold cHw
          simp only [ei 18687 _ (by decide) (by decide) (by decide), ei 18559 _ (by decide) (by decide) (by decide), ei 19071 _ (by decide) (by decide) (by decide), ei 18815 _ (by decide) (by decide) (by decide), ei 18814 _ (by decide) (by decide) (by decide)]
          refine ⟨w1, w2, w3, w4, fun y y0 y1 => ?_⟩
          obtain ⟨v1, v2, v3⟩ := w5 y y0 y1
          rw [gI_nwR, gI_nwR]
          by_cases q : y = x
          · subst q
            rw [if_pos ⟨rfl, rfl⟩, if_neg (fun z => absurd z.1 (by decide)), if_pos ⟨rfl, rfl⟩, ofNat_toInt (by rw [uc]; omega)]
            exact ⟨fun z => absurd px.2 z, fun _ => by omega, v3⟩
          · rw [if_neg (fun z => q z.2), if_neg (fun z => absurd z.1 (by decide)), if_neg (fun z => absurd z.1 (by decide)), if_neg (fun z => q z.2)]
            simp only [gI_sI, gI_sL, gI_sA, gI_sB, gI_sAf, gI_sBf, gL_sI, gL_sL, gL_sA, gL_sB, gL_sAf, gL_sBf, gA_sI, gA_sL, gA_sA, gA_sB, gA_sAf, gA_sBf, gB_sI, gB_sL, gB_sA, gB_sB, gB_sAf, gB_sBf, Nat.reduceEqDiff, Nat.reduceMul, Nat.reduceAdd, false_and, true_and, and_true, and_false, if_true, if_false]
            exact ⟨v1, v2, v3⟩
        · unfold cNd at c1 ⊢
          simp only [et, ei 15230 0 (by decide) (by decide) (by decide)]
          dsimp only at c1
          omega
        · unfold cNd at c2 ⊢
          simp only [et, ei 15230 0 (by decide) (by decide) (by decide)]
          dsimp only at c2
          rw [uc]
          rw [e0] at c2
          omega
      · refine ⟨fun f j q w => ?_, fun f j w => rfl, fun a j k q w => ?_, fun a j k q w => ?_, ?_, ?_, ?_, ?_⟩
        · rw [gI_nwR, if_neg (not_j w _ (by decide)), if_neg (not_j w _ (by decide)), gI_sI, if_neg (not_j w _ (by decide))]
        · rw [gA_nwR, if_neg (fun z => w (.inr z.1) z.2)]
          rfl
        · rw [gB_nwR, if_neg (fun z => w (.inr z.1) z.2)]
          rfl
        · simp only [cTy, gI_nwR, gI_sI, gI_sL, gI_sA, gI_sB, gI_sAf, gI_sBf, gL_sI, gL_sL, gL_sA, gL_sB, gL_sAf, gL_sBf, gA_sI, gA_sL, gA_sA, gA_sB, gA_sAf, gA_sBf, gB_sI, gB_sL, gB_sA, gB_sB, gB_sAf, gB_sBf, Nat.reduceEqDiff, Nat.reduceMul, Nat.reduceAdd, false_and, true_and, and_true, and_false, if_true, if_false]
        · simp only [cNu, gI_nwR, gI_sI, gI_sL, gI_sA, gI_sB, gI_sAf, gI_sBf, gL_sI, gL_sL, gL_sA, gL_sB, gL_sAf, gL_sBf, gA_sI, gA_sL, gA_sA, gA_sB, gA_sAf, gA_sBf, gB_sI, gB_sL, gB_sA, gB_sB, gB_sAf, gB_sBf, Nat.reduceEqDiff, Nat.reduceMul, Nat.reduceAdd, false_and, true_and, and_true, and_false, if_true, if_false]
        · simp only [cSy, gI_nwR, gI_sI, gI_sL, gI_sA, gI_sB, gI_sAf, gI_sBf, gL_sI, gL_sL, gL_sA, gL_sB, gL_sAf, gL_sBf, gA_sI, gA_sL, gA_sA, gA_sB, gA_sAf, gA_sBf, gB_sI, gB_sL, gB_sA, gB_sB, gB_sAf, gB_sBf, Nat.reduceEqDiff, Nat.reduceMul, Nat.reduceAdd, false_and, true_and, and_true, and_false, if_true, if_false]
        · simp only [gI_nwR, gI_sI, gI_sL, gI_sA, gI_sB, gI_sAf, gI_sBf, gL_sI, gL_sL, gL_sA, gL_sB, gL_sAf, gL_sBf, gA_sI, gA_sL, gA_sA, gA_sB, gA_sAf, gA_sBf, gB_sI, gB_sL, gB_sA, gB_sB, gB_sAf, gB_sBf, Nat.reduceEqDiff, Nat.reduceMul, Nat.reduceAdd, false_and, true_and, and_true, and_false, if_true, if_false]
      · simp only [cLk, gI_nwR, gI_sI, gI_sL, gI_sA, gI_sB, gI_sAf, gI_sBf, gL_sI, gL_sL, gL_sA, gL_sB, gL_sAf, gL_sBf, gA_sI, gA_sL, gA_sA, gA_sB, gA_sAf, gA_sBf, gB_sI, gB_sL, gB_sA, gB_sB, gB_sAf, gB_sBf, Nat.reduceEqDiff, Nat.reduceMul, Nat.reduceAdd, false_and, true_and, and_true, and_false, if_true, if_false]
      · simp only [cUf, gI_nwR, gI_sI, gI_sL, gI_sA, gI_sB, gI_sAf, gI_sBf, gL_sI, gL_sL, gL_sA, gL_sB, gL_sAf, gL_sBf, gA_sI, gA_sL, gA_sA, gA_sB, gA_sAf, gA_sBf, gB_sI, gB_sL, gB_sA, gB_sB, gB_sAf, gB_sBf, Nat.reduceEqDiff, Nat.reduceMul, Nat.reduceAdd, false_and, true_and, and_true, and_false, if_true, if_false]
      · unfold cUl
        rw [gI_nwR, if_neg (fun z => absurd z.1 (by decide)), if_pos ⟨rfl, rfl⟩, ofNat_toInt (by rw [uc]; omega), uc]
        omega
    refine ⟨px, fun c => ?_, fun c => new⟩
    have c' : gI s1 18943 x = 1 := by
      rw [gI_sI, if_neg (fun z => absurd z.1 (by decide))] at c
      exact c
    refine ⟨c, fun d => ?_, fun d => new⟩
    obtain ⟨-, a, b, c2, hw, -⟩ := id r1
    have l0 := (hw.2.2.2.2 x px.1.1 px.1.2).2.1 c'
    have el : Int32.ofNat (lnS (sI s1 18564 x p) 147 x) = gI s1 18942 x := by
      unfold lnS
      rw [if_pos (by decide)]
      show Int32.ofNat (gI (sI s1 18564 x p) 18942 x).toNatClampNeg = _
      rw [gI_sI, if_neg (fun z => absurd z.1 (by decide))]
      exact ofNat_clamp (by rw [i32_le]; omega)
    rw [el, i32_le] at d
    refine ⟨s0, mg, h0, r0.1.1.1, ?_, .inr ⟨x0, s1, md, ?_, ?_, ?_, ?_⟩⟩
    · refine cRo.fi (x := x) (r1.le (Nat.le_succ _) (by dsimp only; omega)) (fun f j q => ?_) (fun j _ => rfl)
      rcases q with rfl | rfl | rfl | rfl | rfl | rfl | rfl | rfl | rfl <;> simp only [gI_sI, gI_sL, gI_sA, gI_sB, gI_sAf, gI_sBf, gL_sI, gL_sL, gL_sA, gL_sB, gL_sAf, gL_sBf, gA_sI, gA_sL, gA_sA, gA_sB, gA_sAf, gA_sBf, gB_sI, gB_sL, gB_sA, gB_sB, gB_sAf, gB_sBf, Nat.reduceEqDiff, Nat.reduceMul, Nat.reduceAdd, false_and, true_and, and_true, and_false, if_true, if_false]
    · refine ⟨fun f j q w => ?_, fun f j w => rfl, fun a j k q w => rfl, fun a j k q w => rfl, ?_, ?_, ?_, ?_⟩
      · rw [gI_sI, if_neg (not_j w _ (by decide))]
      · simp only [cTy, gI_sI, gI_sL, gI_sA, gI_sB, gI_sAf, gI_sBf, gL_sI, gL_sL, gL_sA, gL_sB, gL_sAf, gL_sBf, gA_sI, gA_sL, gA_sA, gA_sB, gA_sAf, gA_sBf, gB_sI, gB_sL, gB_sA, gB_sB, gB_sAf, gB_sBf, Nat.reduceEqDiff, Nat.reduceMul, Nat.reduceAdd, false_and, true_and, and_true, and_false, if_true, if_false]
      · simp only [cNu, gI_sI, gI_sL, gI_sA, gI_sB, gI_sAf, gI_sBf, gL_sI, gL_sL, gL_sA, gL_sB, gL_sAf, gL_sBf, gA_sI, gA_sL, gA_sA, gA_sB, gA_sAf, gA_sBf, gB_sI, gB_sL, gB_sA, gB_sB, gB_sAf, gB_sBf, Nat.reduceEqDiff, Nat.reduceMul, Nat.reduceAdd, false_and, true_and, and_true, and_false, if_true, if_false]
      · simp only [cSy, gI_sI, gI_sL, gI_sA, gI_sB, gI_sAf, gI_sBf, gL_sI, gL_sL, gL_sA, gL_sB, gL_sAf, gL_sBf, gA_sI, gA_sL, gA_sA, gA_sB, gA_sAf, gA_sBf, gB_sI, gB_sL, gB_sA, gB_sB, gB_sAf, gB_sBf, Nat.reduceEqDiff, Nat.reduceMul, Nat.reduceAdd, false_and, true_and, and_true, and_false, if_true, if_false]
      · simp only [gI_sI, gI_sL, gI_sA, gI_sB, gI_sAf, gI_sBf, gL_sI, gL_sL, gL_sA, gL_sB, gL_sAf, gL_sBf, gA_sI, gA_sL, gA_sA, gA_sB, gA_sAf, gA_sBf, gB_sI, gB_sL, gB_sA, gB_sB, gB_sAf, gB_sBf, Nat.reduceEqDiff, Nat.reduceMul, Nat.reduceAdd, false_and, true_and, and_true, and_false, if_true, if_false]
    · simp only [cLk, gI_sI, gI_sL, gI_sA, gI_sB, gI_sAf, gI_sBf, gL_sI, gL_sL, gL_sA, gL_sB, gL_sAf, gL_sBf, gA_sI, gA_sL, gA_sA, gA_sB, gA_sAf, gA_sBf, gB_sI, gB_sL, gB_sA, gB_sB, gB_sAf, gB_sBf, Nat.reduceEqDiff, Nat.reduceMul, Nat.reduceAdd, false_and, true_and, and_true, and_false, if_true, if_false]
    · exact c
    · unfold cUl
      rw [gI_sI, if_neg (fun z => absurd z.1 (by decide))]
      exact d
