/-! The class: decode, and a step. -/
def sdI (f : Nat) : Prop := 16516 ≤ f ∧ f ≤ 16524
theorem dec_w {s t : S1} {n : Nat × Nat} {τ : Bool} (W : cW s n) (F : qFr τ s) (I : ∀ f j, ¬ sdI f → gI t f j = gI s f j) (T2 : t.2 = s.2) (S1' : pC s (gI t 16516 0)) (S2 : pF s (gI t 16517 0)) (S3 : pP s (gI t 16518 0)) : cW t n ∧ qFr τ t := by
  have L : ∀ f j, gL t f j = gL s f j := fun f j => by
    show t.2.1 f j = s.2.1 f j
    rw [T2]
  have A : ∀ a j q, gA t a j q = gA s a j q := fun a j q => by
    show t.2.2.1 a j q = s.2.2.1 a j q
    rw [T2]
  have B : ∀ a j q, gB t a j q = gB s a j q := fun a j q => by
    show t.2.2.2 a j q = s.2.2.2 a j q
    rw [T2]
  have lv : ∀ y u, cLv false t y u ↔ cLv false s y u := fun y u => by
    rw [cLv_f, cLv_f, show cN t = cN s from I _ _ (by unfold sdI; decide), show cTy t y = cTy s y from I _ _ (by unfold sdI; decide)]
  have Hi : cHI t := W.hi.sm ⟨fun f j q _ _ => I f j (by unfold hpI at q; unfold sdI; omega), fun f j _ _ _ => L f j, fun a j k _ _ => A a j k, fun a j k _ _ => B a j k⟩
  have kp : cKp s t := by
    refine ⟨⟨fun f j q => I f j (by unfold sdI; omega), fun a j k _ => A a j k⟩, I _ _ (by unfold sdI; decide), fun c a => .inl ⟨⟨⟨a.1.1, (I 19071 c (by unfold sdI; decide)).symm.trans a.1.2⟩, by rw [← show oSl t c = oSl s c from I _ _ (by unfold sdI; decide)]; exact a.2⟩, fun f q => I f c (by unfold sdI; omega), fun f j q _ _ => I f _ (by unfold sdI; omega), fun j _ _ _ l => ⟨(lv _ _).2 l, I _ _ (by unfold sdI; decide)⟩, fun y m => ⟨⟨(lv _ _).1 m.1, (I 18564 y (by unfold sdI; decide)).symm.trans m.2⟩, I _ _ (by unfold sdI; decide)⟩⟩⟩
  have pcE : ∀ c, pC t c ↔ pC s c := fun c => by
    unfold pC
    rw [I 19071 c (by unfold sdI; decide)]
  have pfE : ∀ c, pF t c ↔ pF s c := fun c => by
    unfold pF
    rw [I 19583 c (by unfold sdI; decide)]
  have ppE : ∀ c, pP t c ↔ pP s c := fun c => by
    unfold pP
    rw [I 18559 c (by unfold sdI; decide)]
  have sf : cSf t := by
    obtain ⟨c1, c2, -, -, -, c6⟩ := W.sf
    refine ⟨fun c a b => ?_, ?_, .inr ((pcE _).2 S1'), .inr ((pfE _).2 S2), .inr ((ppE _).2 S3), fun f p => ?_⟩
    · have w := c1 c a b
      unfold cFlg cNfl at w ⊢
      simp only [I 19071 _ (by unfold sdI; decide), I 19199 _ (by unfold sdI; decide), I 19327 _ (by unfold sdI; decide), I 19455 _ (by unfold sdI; decide), I 18947 _ (by unfold sdI; decide), I 19583 _ (by unfold sdI; decide)]
      exact w
    · rw [I 16395 _ (by unfold sdI; decide), pcE]
      exact c2
    · rw [I 19458 _ (by unfold sdI; decide), ppE]
      exact c6 f ((pfE f).1 p)
  refine ⟨⟨Hi, W.rt.up (fun y u _ l => (lv y u).2 l) (fun f j q => I f j ?_) (fun a j k _ => A a j k) (fun a j k _ => B a j k) (fun y _ => I _ _ (by unfold sdI; decide)), (I _ _ (by unfold sdI; decide)).trans W.ld, sf, cRo.fi (x := 0) W.ro (fun f j q => I f j (by unfold sdI; omega)) (fun j _ => A _ _ _), kp.1.pg W.pg, fun x l => ?_⟩, kp.fr F W.dd⟩
  · unfold rtI at q
    unfold sdI
    omega
  · rw [show cLk t x = cLk s x from I _ _ (by unfold sdI; decide)]
    unfold nPr
    rw [I 12937 _ (by unfold sdI; decide)]
    exact W.kl x ((lv _ _).1 l)
def deQ (s : S1) (n : Nat × Nat) (t : S1) : Prop := Ix t n (gI s 19461 (tF s) - 1) (dW s (fPr s (tF s)) (gI s 19461 (tF s) - 1)) ∧ (∀ f j, ¬ sdI f → gI t f j = gI s f j) ∧ t.2 = s.2
theorem decode_ok {s : S1} {n : Nat × Nat} (W : cW s n) (F : qFr false s) (h1 : gI s 18951 (mCur s) = 1) (h2 : 1 ≤ (oD s (mCur s)).toInt) (h3 : fWh s (tF s) = 0) (p1 : 1 ≤ (gI s 19461 (tF s)).toInt) (p2 : (gI s 19461 (tF s)).toInt ≤ pNi s (fPr s (tF s))) : ok M_St_decode s (fun _ t => deQ s n t) := by
  have ac := W.cur
  obtain ⟨pf, r, rl⟩ := pT_of W h2
  obtain ⟨t1, t2, t3, t4, t5, t6, t7⟩ := W.tp F h2 h3
  have e0 : (0 : Int32).toInt = 0 := rfl
  have e1 : (1 : Int32).toInt = 1 := rfl
  have e2 : (20000 : Int32).toInt = 20000 := rfl
  have pc := t3.2.2.2.2.2.2.1
  have em : (gI s 19461 (tF s) - 1).toInt = (gI s 19461 (tF s)).toInt - 1 := by rw [ktI_sub] <;> omega
  have s1 : (gI s 18440 (fPr s (tF s)) + gI s 19461 (tF s)).toInt = pKs s (fPr s (tF s)) + (gI s 19461 (tF s)).toInt := ktI_add (by show -2147483648 ≤ pKs s (fPr s (tF s)) + (gI s 19461 (tF s)).toInt ∧ pKs s (fPr s (tF s)) + (gI s 19461 (tF s)).toInt < 2147483648; omega)
  have s2 : (gI s 18440 (fPr s (tF s)) + gI s 19461 (tF s) - 1).toInt = pKs s (fPr s (tF s)) + (gI s 19461 (tF s)).toInt - 1 := by rw [ktI_sub, s1] <;> omega
  have s3 : (gI s 18440 (fPr s (tF s)) + (gI s 19461 (tF s) - 1)).toInt = pKs s (fPr s (tF s)) + ((gI s 19461 (tF s)).toInt - 1) := by
    rw [← em]
    exact ktI_add (by show -2147483648 ≤ pKs s (fPr s (tF s)) + (gI s 19461 (tF s) - 1).toInt ∧ pKs s (fPr s (tF s)) + (gI s 19461 (tF s) - 1).toInt < 2147483648; omega)
  have ew : gA s 104 0 (gI s 18440 (fPr s (tF s)) + gI s 19461 (tF s) - 1) = dW s (fPr s (tF s)) (gI s 19461 (tF s) - 1) := by
    show _ = gA s 104 0 _
    rw [toInt_inj (show (gI s 18440 (fPr s (tF s)) + gI s 19461 (tF s) - 1).toInt = (gI s 18440 (fPr s (tF s)) + (gI s 19461 (tF s) - 1)).toInt by omega)]
  have eT : gI s 16395 0 * 200 + (gI s 18948 (gI s 16395 0) - 1) = tF s := rfl
  have pcs : ∀ (T : S1) c, (∀ j, gI T 19071 j = gI s 19071 j) → pC s c → pC T c := fun T c q w => ⟨w.1, (q _).trans w.2⟩
  have pfs : ∀ (T : S1) c, (∀ j, gI T 19583 j = gI s 19583 j) → pF s c → pF T c := fun T c q w => ⟨w.1, (q _).trans w.2⟩
  have pps : ∀ (T : S1) c, (∀ j, gI T 18559 j = gI s 18559 j) → pP s c → pP T c := fun T c q w => ⟨w.1, (q _).trans w.2⟩
  simp only [M_St_decode, M_Co_top, ok_B, ok_C, ok_R, ok_L, ok_K, ok_GI, ok_GL, ok_PI, ok_PL, ok_AI, ok_AL, ok_SI, ok_SL, ok_CI, cmp_lt, cmp_le, cmp_gt, cmp_ge, cmp_eq, nar0, nar1, Sum.elim_inl, Sum.elim_inr, ok_PzT, ok_PzC, ok_PzP, ok_PrC, ok_PrP, ok_PrF, ok_PrN, ok_Ln, ok_CL, ok_Nw, ok_S, ok_Ks, ok_Nz]
  simp only [gI_sI, gI_sL, gI_sA, gI_sB, gI_sAf, gI_sBf, gL_sI, gL_sL, gL_sA, gL_sB, gL_sAf, gL_sBf, gA_sI, gA_sL, gA_sA, gA_sB, gA_sAf, gA_sBf, gB_sI, gB_sL, gB_sA, gB_sB, gB_sAf, gB_sBf, Nat.reduceEqDiff, Nat.reduceMul, Nat.reduceAdd, false_and, true_and, and_true, and_false, if_true, if_false, eT]
  refine ⟨ac.1, pcs _ _ (fun j => by simp only [gI_sI, gI_sL, gI_sA, gI_sB, gI_sAf, gI_sBf, gL_sI, gL_sL, gL_sA, gL_sB, gL_sAf, gL_sBf, gA_sI, gA_sL, gA_sA, gA_sB, gA_sAf, gA_sBf, gB_sI, gB_sL, gB_sA, gB_sB, gB_sAf, gB_sBf, Nat.reduceEqDiff, Nat.reduceMul, Nat.reduceAdd, false_and, true_and, and_true, and_false, if_true, if_false]) ac.1, r, pfs _ _ (fun j => by simp only [gI_sI, gI_sL, gI_sA, gI_sB, gI_sAf, gI_sBf, gL_sI, gL_sL, gL_sA, gL_sB, gL_sAf, gL_sBf, gA_sI, gA_sL, gA_sA, gA_sB, gA_sAf, gA_sBf, gB_sI, gB_sL, gB_sA, gB_sB, gB_sAf, gB_sBf, Nat.reduceEqDiff, Nat.reduceMul, Nat.reduceAdd, false_and, true_and, and_true, and_false, if_true, if_false]) pf, pfs _ _ (fun j => by simp only [gI_sI, gI_sL, gI_sA, gI_sB, gI_sAf, gI_sBf, gL_sI, gL_sL, gL_sA, gL_sB, gL_sAf, gL_sBf, gA_sI, gA_sL, gA_sA, gA_sB, gA_sAf, gA_sBf, gB_sI, gB_sL, gB_sA, gB_sB, gB_sAf, gB_sBf, Nat.reduceEqDiff, Nat.reduceMul, Nat.reduceAdd, false_and, true_and, and_true, and_false, if_true, if_false]) pf, pps _ _ (fun j => by simp only [gI_sI, gI_sL, gI_sA, gI_sB, gI_sAf, gI_sBf, gL_sI, gL_sL, gL_sA, gL_sB, gL_sAf, gL_sBf, gA_sI, gA_sL, gA_sA, gA_sB, gA_sAf, gA_sBf, gB_sI, gB_sL, gB_sA, gB_sB, gB_sAf, gB_sBf, Nat.reduceEqDiff, Nat.reduceMul, Nat.reduceAdd, false_and, true_and, and_true, and_false, if_true, if_false]) t4, pfs _ _ (fun j => by simp only [gI_sI, gI_sL, gI_sA, gI_sB, gI_sAf, gI_sBf, gL_sI, gL_sL, gL_sA, gL_sB, gL_sAf, gL_sBf, gA_sI, gA_sL, gA_sA, gA_sB, gA_sAf, gA_sBf, gB_sI, gB_sL, gB_sA, gB_sB, gB_sAf, gB_sBf, Nat.reduceEqDiff, Nat.reduceMul, Nat.reduceAdd, false_and, true_and, and_true, and_false, if_true, if_false]) pf, pps _ _ (fun j => by simp only [gI_sI, gI_sL, gI_sA, gI_sB, gI_sAf, gI_sBf, gL_sI, gL_sL, gL_sA, gL_sB, gL_sAf, gL_sBf, gA_sI, gA_sL, gA_sA, gA_sB, gA_sAf, gA_sBf, gB_sI, gB_sL, gB_sA, gB_sB, gB_sAf, gB_sBf, Nat.reduceEqDiff, Nat.reduceMul, Nat.reduceAdd, false_and, true_and, and_true, and_false, if_true, if_false]) t4, pfs _ _ (fun j => by simp only [gI_sI, gI_sL, gI_sA, gI_sB, gI_sAf, gI_sBf, gL_sI, gL_sL, gL_sA, gL_sB, gL_sAf, gL_sBf, gA_sI, gA_sL, gA_sA, gA_sB, gA_sAf, gA_sBf, gB_sI, gB_sL, gB_sA, gB_sB, gB_sAf, gB_sBf, Nat.reduceEqDiff, Nat.reduceMul, Nat.reduceAdd, false_and, true_and, and_true, and_false, if_true, if_false]) pf, ⟨by rw [i32_le]; show _ ≤ (gI s 18440 (fPr s (tF s)) + gI s 19461 (tF s) - 1).toInt; omega, by rw [i32_lt]; show (gI s 18440 (fPr s (tF s)) + gI s 19461 (tF s) - 1).toInt < _; omega⟩, ?_⟩
  have key : ∀ T : S1, (∀ f j, ¬ sdI f → gI T f j = gI s f j) → T.2 = s.2 → gI T 16516 0 = mCur s → gI T 16517 0 = tF s → gI T 16518 0 = fPr s (tF s) → gI T 16519 0 = gI s 19459 (tF s) → gI T 16520 0 = dO (dW s (fPr s (tF s)) (gI s 19461 (tF s) - 1)) → gI T 16521 0 = dA (dW s (fPr s (tF s)) (gI s 19461 (tF s) - 1)) → gI T 16522 0 = dB (dW s (fPr s (tF s)) (gI s 19461 (tF s) - 1)) → gI T 16523 0 = dC (dW s (fPr s (tF s)) (gI s 19461 (tF s) - 1)) → gI T 16524 0 = dX (dW s (fPr s (tF s)) (gI s 19461 (tF s) - 1)) → deQ s n T := fun T I T2 b1 b2 b3 b4 b5 b6 b7 b8 b9 => by
    obtain ⟨WT, FT⟩ := dec_w W F I T2 (by rw [b1]; exact ac.1) (by rw [b2]; exact pf) (by rw [b3]; exact t4)
    have et : tF T = tF s := tF_eq (fun f j q => I f j (by unfold sdI; omega))
    have ec : mCur T = mCur s := I _ _ (by unfold sdI; decide)
    have ewT : dW T (fPr s (tF s)) (gI s 19461 (tF s) - 1) = dW s (fPr s (tF s)) (gI s 19461 (tF s) - 1) := by
      unfold dW
      rw [I 18440 _ (by unfold sdI; decide)]
      show T.2.2.1 _ _ _ = s.2.2.1 _ _ _
      rw [T2]
    refine ⟨?_, I, T2⟩
    unfold Ix
    rw [et, ec, show fPr T (tF s) = fPr s (tF s) from I _ _ (by unfold sdI; decide), ewT, show fWh T (tF s) = fWh s (tF s) from I _ _ (by unfold sdI; decide), show oD T (mCur s) = oD s (mCur s) from I _ _ (by unfold sdI; decide)]
    unfold pNi
    rw [I 18439 _ (by unfold sdI; decide), I 18951 _ (by unfold sdI; decide), I 19459 _ (by unfold sdI; decide)]
    exact ⟨WT, FT, h1, h2, h3, ⟨b1, b2, b3, b4⟩, ⟨b5, b6, b7, b8, b9⟩, ⟨by omega, by show _ < pNi s (fPr s (tF s)); omega⟩, rfl⟩
  refine key _ (fun f j q => ?_) rfl ?_ ?_ ?_ ?_ ?_ ?_ ?_ ?_ ?_
  · unfold sdI at q
    simp only [gI_sI]
    rw [if_neg (fun z => q (by omega)), if_neg (fun z => q (by omega)), if_neg (fun z => q (by omega)), if_neg (fun z => q (by omega)), if_neg (fun z => q (by omega)), if_neg (fun z => q (by omega)), if_neg (fun z => q (by omega)), if_neg (fun z => q (by omega)), if_neg (fun z => q (by omega))]
  · simp only [gI_sI, gI_sL, gI_sA, gI_sB, gI_sAf, gI_sBf, gL_sI, gL_sL, gL_sA, gL_sB, gL_sAf, gL_sBf, gA_sI, gA_sL, gA_sA, gA_sB, gA_sAf, gA_sBf, gB_sI, gB_sL, gB_sA, gB_sB, gB_sAf, gB_sBf, Nat.reduceEqDiff, Nat.reduceMul, Nat.reduceAdd, false_and, true_and, and_true, and_false, if_true, if_false]
  · simp only [gI_sI, gI_sL, gI_sA, gI_sB, gI_sAf, gI_sBf, gL_sI, gL_sL, gL_sA, gL_sB, gL_sAf, gL_sBf, gA_sI, gA_sL, gA_sA, gA_sB, gA_sAf, gA_sBf, gB_sI, gB_sL, gB_sA, gB_sB, gB_sAf, gB_sBf, Nat.reduceEqDiff, Nat.reduceMul, Nat.reduceAdd, false_and, true_and, and_true, and_false, if_true, if_false]
  · simp only [gI_sI, gI_sL, gI_sA, gI_sB, gI_sAf, gI_sBf, gL_sI, gL_sL, gL_sA, gL_sB, gL_sAf, gL_sBf, gA_sI, gA_sL, gA_sA, gA_sB, gA_sAf, gA_sBf, gB_sI, gB_sL, gB_sA, gB_sB, gB_sAf, gB_sBf, Nat.reduceEqDiff, Nat.reduceMul, Nat.reduceAdd, false_and, true_and, and_true, and_false, if_true, if_false]
  · simp only [gI_sI, gI_sL, gI_sA, gI_sB, gI_sAf, gI_sBf, gL_sI, gL_sL, gL_sA, gL_sB, gL_sAf, gL_sBf, gA_sI, gA_sL, gA_sA, gA_sB, gA_sAf, gA_sBf, gB_sI, gB_sL, gB_sA, gB_sB, gB_sAf, gB_sBf, Nat.reduceEqDiff, Nat.reduceMul, Nat.reduceAdd, false_and, true_and, and_true, and_false, if_true, if_false]
  · simp only [gI_sI, gI_sL, gI_sA, gI_sB, gI_sAf, gI_sBf, gL_sI, gL_sL, gL_sA, gL_sB, gL_sAf, gL_sBf, gA_sI, gA_sL, gA_sA, gA_sB, gA_sAf, gA_sBf, gB_sI, gB_sL, gB_sA, gB_sB, gB_sAf, gB_sBf, Nat.reduceEqDiff, Nat.reduceMul, Nat.reduceAdd, false_and, true_and, and_true, and_false, if_true, if_false]
    rw [← ew]
  · simp only [gI_sI, gI_sL, gI_sA, gI_sB, gI_sAf, gI_sBf, gL_sI, gL_sL, gL_sA, gL_sB, gL_sAf, gL_sBf, gA_sI, gA_sL, gA_sA, gA_sB, gA_sAf, gA_sBf, gB_sI, gB_sL, gB_sA, gB_sB, gB_sAf, gB_sBf, Nat.reduceEqDiff, Nat.reduceMul, Nat.reduceAdd, false_and, true_and, and_true, and_false, if_true, if_false]
    rw [← ew]
  · simp only [gI_sI, gI_sL, gI_sA, gI_sB, gI_sAf, gI_sBf, gL_sI, gL_sL, gL_sA, gL_sB, gL_sAf, gL_sBf, gA_sI, gA_sL, gA_sA, gA_sB, gA_sAf, gA_sBf, gB_sI, gB_sL, gB_sA, gB_sB, gB_sAf, gB_sBf, Nat.reduceEqDiff, Nat.reduceMul, Nat.reduceAdd, false_and, true_and, and_true, and_false, if_true, if_false]
    rw [← ew]
  · simp only [gI_sI, gI_sL, gI_sA, gI_sB, gI_sAf, gI_sBf, gL_sI, gL_sL, gL_sA, gL_sB, gL_sAf, gL_sBf, gA_sI, gA_sL, gA_sA, gA_sB, gA_sAf, gA_sBf, gB_sI, gB_sL, gB_sA, gB_sB, gB_sAf, gB_sBf, Nat.reduceEqDiff, Nat.reduceMul, Nat.reduceAdd, false_and, true_and, and_true, and_false, if_true, if_false]
    rw [← ew]
  · simp only [gI_sI, gI_sL, gI_sA, gI_sB, gI_sAf, gI_sBf, gL_sI, gL_sL, gL_sA, gL_sB, gL_sAf, gL_sBf, gA_sI, gA_sL, gA_sA, gA_sB, gA_sAf, gA_sBf, gB_sI, gB_sL, gB_sA, gB_sB, gB_sAf, gB_sBf, Nat.reduceEqDiff, Nat.reduceMul, Nat.reduceAdd, false_and, true_and, and_true, and_false, if_true, if_false]
    rw [← ew]
