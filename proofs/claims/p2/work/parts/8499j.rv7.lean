/-! The reference: load, the whole. -/
theorem RdF.code {s0 s : S1} (h : RdF (-1) s0 s) (h0 : nuP s0 = 0) (hf : f_fault s = 0) : (0 ≤ nuP s ∧ nuP s ≤ 250) ∧ ∀ p : Int32, 0 ≤ p.toInt → p.toInt < nuP s → 0 ≤ (a_codeAt s p).toInt ∧ (a_codeAt s p).toInt + (a_codes s p).toInt ≤ 20000 := by
  obtain ⟨hG, hr, h3, h4, h5⟩ := h
  obtain ⟨h6, h7, -, h9⟩ := h5 hf
  obtain ⟨-, r1, r2, r3, r4, -⟩ := hr
  refine ⟨r1, fun p p0 p1 => ?_⟩
  obtain ⟨⟨re, ph, pH⟩, -⟩ := h7 p (by omega) p1
  obtain ⟨pa, pr, pu, pv, pc, pk, -⟩ := re
  exact ⟨pk.1, by omega⟩
theorem rj100 {t : S1} {n e : Nat × Nat} (h : Vz t n e) (c0 : f_chunk t = 0) (hr : f_fault t = 0 → chK t) : ok (M_Mo_load__j100 n) t (vlR e) := by
  have v := h.size (x := 0) ⟨by decide, by decide⟩
  have I : ∀ f i, f ≠ 1 → gI (sI t 1 0 0) f i = gI t f i := fun f i q => by rw [gI_sI, if_neg (fun z => q z.1)]
  have c1 : f_chunk (sI t 1 0 0) = 0 := (I 5 0 (by decide)).trans c0
  have f3 : gI (sI t 1 0 0) 3 0 = gI t 3 0 := I 3 0 (by decide)
  have ck : f_fault t = 0 → chK (sI t 1 0 0) := fun z => by
    obtain ⟨a, b, c⟩ := hr z
    refine ⟨pk_pg (fun f q => I f 0 (by omega)) (fun _ _ _ _ => rfl) a, b, ?_⟩
    unfold RdK at c ⊢
    simp only [nuK, f_constCount, I 25 _ (by decide)] at c ⊢
    exact c
  simp only [M_Mo_load__j100, ok_B, ok_C, ok_R, ok_L, ok_K, ok_GI, ok_GL, ok_PI, ok_PL, ok_AI, ok_AL, ok_SI, ok_SL, ok_CI, cmp_lt, cmp_le, cmp_gt, cmp_ge, cmp_eq, nar0, nar1, Sum.elim_inl, Sum.elim_inr, ok_PzT, ok_PzC, ok_PzP, ok_PrC, ok_PrP, ok_PrF, ok_PrN, ok_Ln, ok_CL, ok_Nw, ok_S, ok_Ks, ok_Nz]
  rw [f3]
  exact ⟨fun z => rj119 0 v c1 (.inl rfl) (fun _ => ck z), fun _ => rj119 1 v c1 (.inr rfl) (fun y => absurd y (by decide))⟩
theorem rj89 {s s1 t : S1} {n e : Nat × Nat} (h : Vz s n e) (lz : Lz s t) (z1 : nuP s1 = 0 ∧ nuH s1 = 0) (rd : f_fault t = 0 → RdF (-1) s1 t) : ok (M_Mo_load__j89 n) t (vlR e) := by
  have vt := lz.vz h
  simp only [M_Mo_load__j89, ok_B, ok_C, ok_R, ok_L, ok_K, ok_GI, ok_GL, ok_PI, ok_PL, ok_AI, ok_AL, ok_SI, ok_SL, ok_CI, cmp_lt, cmp_le, cmp_gt, cmp_ge, cmp_eq, nar0, nar1, Sum.elim_inl, Sum.elim_inr, ok_PzT, ok_PzC, ok_PzP, ok_PrC, ok_PrP, ok_PrF, ok_PrN, ok_Ln, ok_CL, ok_Nw, ok_S, ok_Ks, ok_Nz]
  refine ⟨fun z => ?_, fun z => rj100 vt lz.2 (fun y => absurd y z)⟩
  have rf := rd z
  obtain ⟨hP, hk⟩ := rf.code z1.1 z
  refine ok_mono (lookOver_ok t hP hk) ?_
  rintro - w ⟨ro, wf⟩
  have lw : Lz s w := ⟨fun f i q => (ro.1 f i q.2.1 q.2.2.1 (by omega) (by omega)).trans (lz.1 f i q), (ro.1 5 0 (by decide) (by decide) (by decide) (by decide)).trans lz.2⟩
  refine rj100 (lw.vz h) lw.2 (fun y => ?_)
  obtain ⟨pg, au⟩ := pg_of rf z1 z (wf y)
  refine ⟨pk_pg (fun f q => ro.1 f 0 (by omega) (by omega) (by omega) (by omega)) (fun a i j _ => ro.2.2.1 a i j) pg, (ro.2.2.1 45 0 0).trans au, ?_⟩
  have rk := rf.2.1.2.2.2.2.2
  unfold RdK at rk ⊢
  simp only [v_constants_k, v_constants_v, a_constText, nuK, f_constCount, ro.2.2.1, ro.2.2.2.1, ro.1 25 _ (by decide) (by decide) (by decide) (by decide)] at rk ⊢
  exact rk
theorem rload_ok {s : S1} {n e : Nat × Nat} (h : Vz s n e) : ok (M_Mo_load_ n) s (vlR e) := by
  simp only [M_Mo_load_, ok_B, ok_C, ok_R, ok_L, ok_K, ok_GI, ok_GL, ok_PI, ok_PL, ok_AI, ok_AL, ok_SI, ok_SL, ok_CI, cmp_lt, cmp_le, cmp_gt, cmp_ge, cmp_eq, nar0, nar1, Sum.elim_inl, Sum.elim_inr, ok_PzT, ok_PzC, ok_PzP, ok_PrC, ok_PrP, ok_PrF, ok_PrN, ok_Ln, ok_CL, ok_Nw, ok_S, ok_Ks, ok_Nz]
  have key : ∀ s1 : S1, (∀ f i, f ≠ 2 ∧ f ≠ 3 ∧ f ≠ 4 ∧ f ≠ 5 ∧ ¬ (23 ≤ f ∧ f ≤ 28) → gI s1 f i = gI s f i) → (gI s1 3 0 = 0 ∧ gI s1 5 0 = 0 ∧ gI s1 28 0 = 0 ∧ gI s1 23 0 = 0 ∧ gI s1 24 0 = 0 ∧ gI s1 25 0 = 0 ∧ gI s1 26 0 = 0 ∧ gI s1 27 0 = 0) → ok (M_Mo_proto 25 (-1) 1) s1 (fun _ t => Lz s t ∧ RdF (-1) s1 t ∧ nuP s1 = 0 ∧ nuH s1 = 0) := fun s1 I ⟨g3, g5, g28, g23, g24, g25, g26, g27⟩ => by
    have e0 : (0 : Int32).toInt = 0 := rfl
    have nP : nuP s1 = 0 := by unfold nuP f_protos; rw [g23]; rfl
    have nU : nuU s1 = 0 := by unfold nuU f_upCount; rw [g24]; rfl
    have nK : nuK s1 = 0 := by unfold nuK f_constCount; rw [g25]; rfl
    have nC : nuC s1 = 0 := by unfold nuC f_codeCount; rw [g26]; rfl
    have nH : nuH s1 = 0 := by unfold nuH f_childCount; rw [g27]; rfl
    have sz : f_size s1 = f_size s := I 1 0 (by decide)
    have at0 : (f_at s1).toInt = 0 := by unfold f_at; rw [g28]; rfl
    have rd : Rd s1 := by
      refine ⟨⟨by rw [sz]; exact h.1, fun _ => ⟨by omega, by rw [at0, sz]; exact h.1.1⟩⟩, by omega, by omega, by omega, by omega, fun i i0 i1 => ?_⟩
      omega
    refine ok_mono (q_proto_ok 25 s1 (-1) 1 (by decide) (by decide) rd (by omega) (by omega) (fun z => absurd z (by decide)) (by decide)) ?_
    rintro - t rf
    refine ⟨⟨fun f i q => ?_, ?_⟩, rf, nP, nH⟩
    · rw [rf.1.1 f i (by omega)]
      exact I f i (by omega)
    · rw [rf.1.1 5 0 (by decide)]
      exact g5
  refine ok_mono (key _ (fun f i q => ?_) ⟨?_, ?_, ?_, ?_, ?_, ?_, ?_, ?_⟩) ?_
  · simp only [gI_sI]
    rw [if_neg (fun z => by omega), if_neg (fun z => by omega), if_neg (fun z => by omega), if_neg (fun z => by omega), if_neg (fun z => by omega), if_neg (fun z => by omega), if_neg (fun z => by omega), if_neg (fun z => by omega), if_neg (fun z => by omega), if_neg (fun z => by omega)]
  · simp only [gI_sI, gI_sL, gI_sA, gI_sB, gI_sAf, gI_sBf, gL_sI, gL_sL, gL_sA, gL_sB, gL_sAf, gL_sBf, gA_sI, gA_sL, gA_sA, gA_sB, gA_sAf, gA_sBf, gB_sI, gB_sL, gB_sA, gB_sB, gB_sAf, gB_sBf, Nat.reduceEqDiff, Nat.reduceMul, Nat.reduceAdd, false_and, true_and, and_true, and_false, if_true, if_false]
  · simp only [gI_sI, gI_sL, gI_sA, gI_sB, gI_sAf, gI_sBf, gL_sI, gL_sL, gL_sA, gL_sB, gL_sAf, gL_sBf, gA_sI, gA_sL, gA_sA, gA_sB, gA_sAf, gA_sBf, gB_sI, gB_sL, gB_sA, gB_sB, gB_sAf, gB_sBf, Nat.reduceEqDiff, Nat.reduceMul, Nat.reduceAdd, false_and, true_and, and_true, and_false, if_true, if_false]
  · simp only [gI_sI, gI_sL, gI_sA, gI_sB, gI_sAf, gI_sBf, gL_sI, gL_sL, gL_sA, gL_sB, gL_sAf, gL_sBf, gA_sI, gA_sL, gA_sA, gA_sB, gA_sAf, gA_sBf, gB_sI, gB_sL, gB_sA, gB_sB, gB_sAf, gB_sBf, Nat.reduceEqDiff, Nat.reduceMul, Nat.reduceAdd, false_and, true_and, and_true, and_false, if_true, if_false]
  · simp only [gI_sI, gI_sL, gI_sA, gI_sB, gI_sAf, gI_sBf, gL_sI, gL_sL, gL_sA, gL_sB, gL_sAf, gL_sBf, gA_sI, gA_sL, gA_sA, gA_sB, gA_sAf, gA_sBf, gB_sI, gB_sL, gB_sA, gB_sB, gB_sAf, gB_sBf, Nat.reduceEqDiff, Nat.reduceMul, Nat.reduceAdd, false_and, true_and, and_true, and_false, if_true, if_false]
  · simp only [gI_sI, gI_sL, gI_sA, gI_sB, gI_sAf, gI_sBf, gL_sI, gL_sL, gL_sA, gL_sB, gL_sAf, gL_sBf, gA_sI, gA_sL, gA_sA, gA_sB, gA_sAf, gA_sBf, gB_sI, gB_sL, gB_sA, gB_sB, gB_sAf, gB_sBf, Nat.reduceEqDiff, Nat.reduceMul, Nat.reduceAdd, false_and, true_and, and_true, and_false, if_true, if_false]
  · simp only [gI_sI, gI_sL, gI_sA, gI_sB, gI_sAf, gI_sBf, gL_sI, gL_sL, gL_sA, gL_sB, gL_sAf, gL_sBf, gA_sI, gA_sL, gA_sA, gA_sB, gA_sAf, gA_sBf, gB_sI, gB_sL, gB_sA, gB_sB, gB_sAf, gB_sBf, Nat.reduceEqDiff, Nat.reduceMul, Nat.reduceAdd, false_and, true_and, and_true, and_false, if_true, if_false]
  · simp only [gI_sI, gI_sL, gI_sA, gI_sB, gI_sAf, gI_sBf, gL_sI, gL_sL, gL_sA, gL_sB, gL_sAf, gL_sBf, gA_sI, gA_sL, gA_sA, gA_sB, gA_sAf, gA_sBf, gB_sI, gB_sL, gB_sA, gB_sB, gB_sAf, gB_sBf, Nat.reduceEqDiff, Nat.reduceMul, Nat.reduceAdd, false_and, true_and, and_true, and_false, if_true, if_false]
  · simp only [gI_sI, gI_sL, gI_sA, gI_sB, gI_sAf, gI_sBf, gL_sI, gL_sL, gL_sA, gL_sB, gL_sAf, gL_sBf, gA_sI, gA_sL, gA_sA, gA_sB, gA_sAf, gA_sBf, gB_sI, gB_sL, gB_sA, gB_sB, gB_sAf, gB_sBf, Nat.reduceEqDiff, Nat.reduceMul, Nat.reduceAdd, false_and, true_and, and_true, and_false, if_true, if_false]
  · rintro - t ⟨lz, rf, nP, nH⟩
    refine ⟨fun f0 => ⟨fun _ => rj89 h lz ⟨nP, nH⟩ (fun _ => rf), fun _ => ?_⟩, fun f0 => rj89 h lz ⟨nP, nH⟩ (fun z => absurd z f0)⟩
    refine ok_mono (bad_ok t 5 _ (by decide) rf.2.1.1) ?_
    rintro - w ⟨nb, -, fw, -⟩
    exact rj89 h ⟨fun f i q => (nb.1 f i q.2.1 q.2.2.1 (by omega) (by omega)).trans (lz.1 f i q), (nb.1 5 0 (by decide) (by decide) (by decide) (by decide)).trans lz.2⟩ ⟨nP, nH⟩ (fun z => absurd z fw)
