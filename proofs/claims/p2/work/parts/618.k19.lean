/-! The class: strings made. -/
def cNb (n : Int32) (s s' : S1) : Prop := (∀ f j, f ≠ 19839 ∧ f ≠ 19838 → gI s' f j = gI s f j) ∧ (∀ f j, gL s' f j = gL s f j) ∧ (∀ a j k, a ≠ 154 → gA s' a j k = gA s a j k) ∧ (∀ a j k, a ≠ 154 → gB s' a j k = gB s a j k) ∧ gI s' 19839 0 = 1 ∧ gI s' 19838 0 = n
def cpQ (s : S1) (m : Nat × Nat) (n : Int32) (q : Int32 × (Nat × Nat)) (s' : S1) : Prop := q = (0, (m.1 - 1, m.2 - n.toInt.toNat)) ∧ cNb n s s'
theorem copyR_ok {s : S1} {r : Nat} {i a n : Int32} (h : cSrc s r i a n) (m : Nat × Nat) (h1 : 1 ≤ m.1) (h2 : n.toInt.toNat ≤ m.2) : ok (M_Arr_copyOfRange m r i a (a + n)) s (cpQ s m n) := by
  have e0 : (0 : Int32).toInt = 0 := rfl
  have e6 : (60000000 : Int32).toInt = 60000000 := rfl
  obtain ⟨hr, ha, hn, hl, hm⟩ := h
  have hm' := len_toInt hm
  have ean : (a + n).toInt = a.toInt + n.toInt := by rw [ktI_add] <;> omega
  have edn : a + n - a = n := toInt_inj (by rw [ktI_sub, ean] <;> omega)
  have uc : n.toNatClampNeg = n.toInt.toNat := rfl
  have j10 : ok (M_Arr_copyOfRange_j10 r i a (a + n) m) s (cpQ s m n) := by
    simp only [M_Arr_copyOfRange_j10, M_Arr_copyOfRangeByte, M_Arr_checkLength, M_Mth_min, ok_B, ok_C, ok_R, ok_L, ok_K, ok_GI, ok_GL, ok_PI, ok_PL, ok_AI, ok_AL, ok_SI, ok_SL, ok_CI, cmp_lt, cmp_le, cmp_gt, cmp_ge, cmp_eq, nar0, nar1, Sum.elim_inl, Sum.elim_inr, ok_PzT, ok_PzC, ok_PzP, ok_PrC, ok_PrP, ok_PrF, ok_PrN, ok_Ln, ok_CL, ok_Nw, ok_S, ok_Ks, ok_Nz]
    refine ⟨fun _ => ?_, fun c => absurd (show a ≤ a + n by rw [i32_le]; omega) c⟩
    rw [edn]
    have l1 : lnS (nwR s 154 0 n.toNatClampNeg) r i = lnS s r i := by
      have eI : gI (nwR s 154 0 n.toNatClampNeg) (128 * r + 126) i = gI s (128 * r + 126) i := by
        rw [gI_nwR, if_neg (fun z => absurd z.1 (by omega)), if_neg (fun z => absurd z.1 (by omega))]
      unfold lnS
      rw [eI]
    have l2 : Int32.ofNat (lnS (nwR s 154 0 n.toNatClampNeg) 154 0) = n := by
      unfold lnS
      rw [if_pos (by decide)]
      show Int32.ofNat (gI (nwR s 154 0 n.toNatClampNeg) 19838 0).toNatClampNeg = n
      rw [gI_nwR, if_neg (fun z => absurd z.1 (by decide)), if_pos ⟨rfl, rfl⟩]
      have : Int32.ofNat n.toNatClampNeg = n := ofNat_clamp (by rw [i32_le]; omega)
      rw [this, this]
    rw [l1, l2]
    have ela : (Int32.ofNat (lnS s r i) - a).toInt = (lnS s r i : Int) - a.toInt := by rw [ktI_sub] <;> omega
    refine ⟨⟨by rw [i32_le]; omega, by rw [i32_le]; omega⟩, ⟨h1, by rw [uc]; exact h2⟩, ?_⟩
    have fin : ∀ v : Int32, v.toInt = n.toInt → (0 ≤ a ∧ (0 : Int32) ≤ 0 ∧ 0 ≤ v ∧ a ≤ Int32.ofNat (lnS s r i) ∧ v ≤ Int32.ofNat (lnS s r i) - a ∧ 0 ≤ n ∧ v ≤ n - 0) ∧ (True ∧ pN (sAf (nwR s 154 0 n.toNatClampNeg) 154 0 (cpI (nwR s 154 0 n.toNatClampNeg) r i 154 0 a 0 v)) ∧ cpQ s m n (0, (m.1 - 1, m.2 - n.toNatClampNeg)) (sAf (nwR s 154 0 n.toNatClampNeg) 154 0 (cpI (nwR s 154 0 n.toNatClampNeg) r i 154 0 a 0 v))) := fun v hv => by
      have en0 : (n - 0).toInt = n.toInt := by rw [ktI_sub] <;> omega
      refine ⟨⟨by rw [i32_le]; omega, by decide, by rw [i32_le]; omega, by rw [i32_le]; omega, by rw [i32_le]; omega, by rw [i32_le]; omega, by rw [i32_le]; omega⟩, trivial, ?_, by rw [uc], fun f j q => ?_, fun _ _ => rfl, fun a j k q => ?_, fun a j k q => ?_, ?_, ?_⟩
      · show gI (nwR s 154 0 n.toNatClampNeg) 19839 0 = 1
        rw [gI_nwR, if_pos ⟨rfl, rfl⟩]
      · show gI (nwR s 154 0 n.toNatClampNeg) f j = _
        rw [gI_nwR, if_neg (fun z => q.1 z.1), if_neg (fun z => q.2 z.1)]
      · rw [gA_sAf, if_neg (fun z => q z.1), gA_nwR, if_neg (fun z => q z.1)]
      · show gB (nwR s 154 0 n.toNatClampNeg) a j k = _
        rw [gB_nwR, if_neg (fun z => q z.1)]
      · show gI (nwR s 154 0 n.toNatClampNeg) 19839 0 = 1
        rw [gI_nwR, if_pos ⟨rfl, rfl⟩]
      · show gI (nwR s 154 0 n.toNatClampNeg) 19838 0 = n
        rw [gI_nwR, if_neg (fun z => absurd z.1 (by decide)), if_pos ⟨rfl, rfl⟩]
        exact ofNat_clamp (by rw [i32_le]; omega)
    refine ⟨fun c => ?_, fun c => ?_⟩
    · exact fin n rfl
    · refine fin _ ?_
      rw [i32_lt] at c
      omega
  simp only [M_Arr_copyOfRange, ok_B, ok_C, ok_R, ok_L, ok_K, ok_GI, ok_GL, ok_PI, ok_PL, ok_AI, ok_AL, ok_SI, ok_SL, ok_CI, cmp_lt, cmp_le, cmp_gt, cmp_ge, cmp_eq, nar0, nar1, Sum.elim_inl, Sum.elim_inr, ok_PzT, ok_PzC, ok_PzP, ok_PrC, ok_PrP, ok_PrF, ok_PrN, ok_Ln, ok_CL, ok_Nw, ok_S, ok_Ks, ok_Nz]
  refine ⟨fun c => ⟨fun d => ?_, fun _ => j10⟩, fun _ => j10⟩
  have dl : (lnS s r i : Int) = n.toInt := by
    have : (a + n).toInt = (Int32.ofNat (lnS s r i)).toInt := by rw [d]
    have c0 : a.toInt = 0 := by
      rw [c]
      rfl
    rw [ean, hm'] at this
    omega
  have ec : (Int32.ofNat (lnS s r i)).toNatClampNeg = n.toInt.toNat := by
    unfold Int32.toNatClampNeg
    rw [hm', dl]
  rw [ec]
  refine ⟨⟨h1, h2⟩, rfl, fun f j q => ?_, fun _ _ => rfl, fun a j k q => ?_, fun _ _ _ _ => rfl, ?_, ?_⟩
  · rw [gI_clB, if_neg (fun z => q.1 z.1), if_neg (fun z => q.2 z.1)]
  · rw [gA_clB, if_neg (fun z => q z.1)]
  · rw [gI_clB, if_pos ⟨rfl, rfl⟩]
  · rw [gI_clB, if_neg (fun z => absurd z.1 (by decide)), if_pos ⟨rfl, rfl⟩]
    exact toInt_inj (by rw [hm', dl])
/-- what intern leaves -/
def inQ (s : S1) (e : Nat × Nat) (r : Int32 × (Nat × Nat)) (s' : S1) : Prop := (s' = s ∧ cLv false s r.1 4 ∧ cRo s r.2 e) ∨ mdQ s e 4 (fun _ _ => True) r s'
theorem cSrc.eq {s s' : S1} {r : Nat} {i a n : Int32} (h : cSrc s r i a n) (e : gI s' (128 * r + 126) i = gI s (128 * r + 126) i) : cSrc s' r i a n := by
  unfold cSrc lnS at h ⊢
  rw [e]
  exact h
theorem intern_ok {s : S1} {n e : Nat × Nat} (H : cHR s) (R : cRo s n e) (r : Nat) (i a z : Int32) (hr : r = 146 ∨ r = 118 ∨ r = 108) (hz : z ≤ 400000 → cSrc s r i a z) : ok (M_He_intern n r i a z) s (inQ s e) := by
  have q4 : (400000 : Int32).toInt = 400000 := rfl
  simp only [M_He_intern, ok_B, ok_C, ok_R, ok_L, ok_K, ok_GI, ok_GL, ok_PI, ok_PL, ok_AI, ok_AL, ok_SI, ok_SL, ok_CI, cmp_lt, cmp_le, cmp_gt, cmp_ge, cmp_eq, nar0, nar1, Sum.elim_inl, Sum.elim_inr, ok_PzT, ok_PzC, ok_PzP, ok_PrC, ok_PrP, ok_PrF, ok_PrN, ok_Ln, ok_CL, ok_Nw, ok_S, ok_Ks, ok_Nz]
  refine ⟨fun c => ?_, fun _ => .inr ⟨s, .inl rfl, H, R, .inl ⟨.inr rfl, rfl⟩⟩⟩
  have sr := hz c
  refine ok_mono (hash_ok sr n z) ?_
  rintro y s1 ⟨rfl, x0, rfl⟩
  dsimp only
  generalize x0 = hs
  change (0 ≤ bkt hs ∧ bkt hs < 4096) ∧ _
  have hb := bkt_in hs
  refine ⟨hb, ?_⟩
  refine ok_mono (search_ok H.1 R sr hs n (bkt hs) hb) ?_
  rintro y s2 ⟨rfl, ⟨x, rfl, hx⟩ | rfl⟩
  · simp only [ok_B, ok_C, ok_R, ok_L, ok_K, ok_GI, ok_GL, ok_PI, ok_PL, ok_AI, ok_AL, ok_SI, ok_SL, ok_CI, cmp_lt, cmp_le, cmp_gt, cmp_ge, cmp_eq, nar0, nar1, Sum.elim_inl, Sum.elim_inr, ok_PzT, ok_PzC, ok_PzP, ok_PrC, ok_PrP, ok_PrF, ok_PrN, ok_Ln, ok_CL, ok_Nw, ok_S, ok_Ks, ok_Nz]
    exact .inl ⟨rfl, hx, R⟩
  · simp only [M_He_intern_j135, ok_B, ok_C, ok_R, ok_L, ok_K, ok_GI, ok_GL, ok_PI, ok_PL, ok_AI, ok_AL, ok_SI, ok_SL, ok_CI, cmp_lt, cmp_le, cmp_gt, cmp_ge, cmp_eq, nar0, nar1, Sum.elim_inl, Sum.elim_inr, ok_PzT, ok_PzC, ok_PzP, ok_PrC, ok_PrP, ok_PrF, ok_PrN, ok_Ln, ok_CL, ok_Nw, ok_S, ok_Ks, ok_Nz]
    have sr2 := sr.2
    refine ok_mono (make_ok H R 4 0 z ⟨by decide, by decide⟩ ⟨sr2.2.1, by rw [i32_le] at c; omega⟩) ?_
    rintro ⟨x, m⟩ s1 ⟨s0, mg, h0, r0, w⟩
    dsimp only at w
    rcases w with ⟨w1, rfl, rfl⟩ | ⟨x0, md, -, r1⟩
    · refine ⟨fun _ => .inr ⟨_, mg, h0, r0, .inl ⟨w1, rfl⟩⟩, fun c => absurd (neg_not w1) c⟩
    · refine ⟨fun c => absurd x0 (by clear H R h0 r0 md r1 mg hz sr sr2; dsimp only at c; grind), fun _ => ?_⟩
      have px := md.nw.2.1
      refine ⟨px, ?_⟩
      have e1 : gI s1 (128 * r + 126) i = gI s2 (128 * r + 126) i := by
        have q : (128 * r + 126) ≠ 14209 ∧ (128 * r + 126) ≠ 14211 ∧ (128 * r + 126) / 128 ≠ 145 := by omega
        rw [md.I _ _ ⟨q.1, q.2.1⟩ (.inl q.2.2)]
        rcases mg with rfl | mg
        · rfl
        · refine mg.2.1 _ _ ?_
          rcases hr with rfl | rfl | rfl <;> decide
      have sr3 := sr.eq e1
      have rm : 1 ≤ m.1 ∧ z.toInt.toNat ≤ m.2 := by
        obtain ⟨-, wa, wb, wc, -, w1, w2⟩ := r1
        dsimp only at w1 w2
        omega
      refine ok_mono (copyR_ok sr3 m rm.1 rm.2) ?_
      rintro y s3 ⟨rfl, n1, n2, n3, n4, n5, n6⟩
      dsimp only
      have eb : gA (sI (mvB s3 146 x) 18566 x hs) 117 0 (bkt hs) = cBk s0 (bkt hs) := by
        show gA (mvB s3 146 x) 117 0 (bkt hs) = _
        rw [gA_mvB, if_neg (fun z => absurd z.1 (by decide)), n3 _ _ _ (by decide)]
        exact md.A _ _ _ (by decide)
      rw [eb]
      refine ⟨rfl, n5, hb, hb, .inr ⟨s0, mg, h0, ?_⟩⟩
      obtain ⟨t0, ht⟩ : ∃ t0, t0 = sI (sI (mvB s3 146 x) 18566 x hs) 18565 x (cBk s0 (bkt hs)) := ⟨_, rfl⟩
      rw [← ht]
      have fi : cFi x s1 t0 := by
        rw [ht]
        refine ⟨fun f j q w => ?_, fun f j w => n2 f j, fun a j k q w => ?_, fun a j k q w => n4 a j k q, ?_, ?_, ?_, ?_⟩
        · rw [gI_sI, if_neg (not_j w _ (by decide)), gI_sI, if_neg (not_j w _ (by decide)), gI_mvB, if_neg (not_j w _ (by decide)), if_neg (not_j w _ (by decide)), if_neg (fun z => q (by rw [z.1])), n1 f j ⟨fun z => q (by rw [z]), fun z => q (by rw [z])⟩]
        · show gA (mvB s3 146 x) a j k = _
          rw [gA_mvB, if_neg (fun z => w (.inl z.1) z.2), n3 a j k q]
        · simp only [cTy, gI_mvB, gI_sI, gI_sL, gI_sA, gI_sB, gI_sAf, gI_sBf, gL_sI, gL_sL, gL_sA, gL_sB, gL_sAf, gL_sBf, gA_sI, gA_sL, gA_sA, gA_sB, gA_sAf, gA_sBf, gB_sI, gB_sL, gB_sA, gB_sB, gB_sAf, gB_sBf, Nat.reduceEqDiff, Nat.reduceMul, Nat.reduceAdd, false_and, true_and, and_true, and_false, if_true, if_false]
          exact n1 _ _ (by decide)
        · simp only [cNu, gI_mvB, gI_sI, gI_sL, gI_sA, gI_sB, gI_sAf, gI_sBf, gL_sI, gL_sL, gL_sA, gL_sB, gL_sAf, gL_sBf, gA_sI, gA_sL, gA_sA, gA_sB, gA_sAf, gA_sBf, gB_sI, gB_sL, gB_sA, gB_sB, gB_sAf, gB_sBf, Nat.reduceEqDiff, Nat.reduceMul, Nat.reduceAdd, false_and, true_and, and_true, and_false, if_true, if_false]
          exact n1 _ _ (by decide)
        · simp only [cSy, gI_mvB, gI_sI, gI_sL, gI_sA, gI_sB, gI_sAf, gI_sBf, gL_sI, gL_sL, gL_sA, gL_sB, gL_sAf, gL_sBf, gA_sI, gA_sL, gA_sA, gA_sB, gA_sAf, gA_sBf, gB_sI, gB_sL, gB_sA, gB_sB, gB_sAf, gB_sBf, Nat.reduceEqDiff, Nat.reduceMul, Nat.reduceAdd, false_and, true_and, and_true, and_false, if_true, if_false]
          exact n1 _ _ (by decide)
        · simp only [gI_mvB, gI_sI, gI_sL, gI_sA, gI_sB, gI_sAf, gI_sBf, gL_sI, gL_sL, gL_sA, gL_sB, gL_sAf, gL_sBf, gA_sI, gA_sL, gA_sA, gA_sB, gA_sAf, gA_sBf, gB_sI, gB_sL, gB_sA, gB_sB, gB_sAf, gB_sBf, Nat.reduceEqDiff, Nat.reduceMul, Nat.reduceAdd, false_and, true_and, and_true, and_false, if_true, if_false]
          exact n1 _ _ (by decide)
      have g1 : cBf t0 x = 1 := by
        rw [ht]
        simp only [cBf, gI_mvB, gI_sI, gI_sL, gI_sA, gI_sB, gI_sAf, gI_sBf, gL_sI, gL_sL, gL_sA, gL_sB, gL_sAf, gL_sBf, gA_sI, gA_sL, gA_sA, gA_sB, gA_sAf, gA_sBf, gB_sI, gB_sL, gB_sA, gB_sB, gB_sAf, gB_sBf, Nat.reduceEqDiff, Nat.reduceMul, Nat.reduceAdd, false_and, true_and, and_true, and_false, if_true, if_false]
      have g2 : cBl t0 x = z := by
        rw [ht]
        simp only [cBl, gI_mvB, gI_sI, gI_sL, gI_sA, gI_sB, gI_sAf, gI_sBf, gL_sI, gL_sL, gL_sA, gL_sB, gL_sAf, gL_sBf, gA_sI, gA_sL, gA_sA, gA_sB, gA_sAf, gA_sBf, gB_sI, gB_sL, gB_sA, gB_sB, gB_sAf, gB_sBf, Nat.reduceEqDiff, Nat.reduceMul, Nat.reduceAdd, false_and, true_and, and_true, and_false, if_true, if_false]
        exact n6
      have g3 : cPl t0 x = hs := by
        rw [ht]
        simp only [cPl, gI_mvB, gI_sI, gI_sL, gI_sA, gI_sB, gI_sAf, gI_sBf, gL_sI, gL_sL, gL_sA, gL_sB, gL_sAf, gL_sBf, gA_sI, gA_sL, gA_sA, gA_sB, gA_sAf, gA_sBf, gB_sI, gB_sL, gB_sA, gB_sB, gB_sAf, gB_sBf, Nat.reduceEqDiff, Nat.reduceMul, Nat.reduceAdd, false_and, true_and, and_true, and_false, if_true, if_false]
      have g4 : cNx t0 x = cBk s0 (bkt hs) := by
        rw [ht]
        simp only [cNx, gI_sI, gI_sL, gI_sA, gI_sB, gI_sAf, gI_sBf, gL_sI, gL_sL, gL_sA, gL_sB, gL_sAf, gL_sBf, gA_sI, gA_sL, gA_sA, gA_sB, gA_sAf, gA_sBf, gB_sI, gB_sL, gB_sA, gB_sB, gB_sAf, gB_sBf, Nat.reduceEqDiff, Nat.reduceMul, Nat.reduceAdd, false_and, true_and, and_true, and_false, if_true, if_false]
      have g5 : ∀ f j, f = 18943 ∨ f = 18942 → gI t0 f j = gI s1 f j := fun f j q => by
        rw [ht]
        rcases q with rfl | rfl
        · simp only [gI_mvB, gI_sI, gI_sL, gI_sA, gI_sB, gI_sAf, gI_sBf, gL_sI, gL_sL, gL_sA, gL_sB, gL_sAf, gL_sBf, gA_sI, gA_sL, gA_sA, gA_sB, gA_sAf, gA_sBf, gB_sI, gB_sL, gB_sA, gB_sB, gB_sAf, gB_sBf, Nat.reduceEqDiff, Nat.reduceMul, Nat.reduceAdd, false_and, true_and, and_true, and_false, if_true, if_false]
          exact n1 _ _ (by decide)
        · simp only [gI_mvB, gI_sI, gI_sL, gI_sA, gI_sB, gI_sAf, gI_sBf, gL_sI, gL_sL, gL_sA, gL_sB, gL_sAf, gL_sBf, gA_sI, gA_sL, gA_sA, gA_sB, gA_sAf, gA_sBf, gB_sI, gB_sL, gB_sA, gB_sB, gB_sAf, gB_sBf, Nat.reduceEqDiff, Nat.reduceMul, Nat.reduceAdd, false_and, true_and, and_true, and_false, if_true, if_false]
          exact n1 _ _ (by decide)
      clear ht eb n1 n2 n3 n4 n5 n6
      have ad0 := md.ad fi
      have nt0 := md.nt h0.1 fi (by decide)
      have et : ∀ a j k, a ≠ 117 → gA (sA t0 117 0 (bkt hs) x) a j k = gA t0 a j k := fun a j k q => by
        rw [gA_sA, if_neg (fun z => q z.1)]
      have ad : cAd x (-1) s0 (sA t0 117 0 (bkt hs) x) := by
        refine ⟨ad0.I, ad0.C, ad0.F, ad0.top, ad0.L1, ad0.L2, ad0.L3, fun a k q => ?_, fun j k q => ?_, fun j k q => ?_, ad0.B, ad0.V⟩
        · rw [et _ _ _ (by rcases q with rfl | rfl | rfl | rfl | rfl <;> decide)]
          exact ad0.A a k q
        · rw [et _ _ _ (by decide)]
          exact ad0.U j k q
        · rw [et _ _ _ (by decide)]
          exact ad0.K j k q
      have nt : cNt x 4 s0 (sA t0 117 0 (bkt hs) x) := by
        refine ⟨nt0.1, nt0.2.1, nt0.2.2.1, nt0.2.2.2.1, fun a j k q w => ?_, nt0.2.2.2.2.2⟩
        rw [et _ _ _ q.2.2]
        exact nt0.2.2.2.2.1 a j k q w
      have enN : cN t0 = cN s1 := fi.1 _ _ (by decide) (fun z => absurd z (by decide))
      have enF : cFc t0 = cFc s1 := fi.1 _ _ (by decide) (fun z => absurd z (by decide))
      have tl : ∀ j, cTl (sA t0 117 0 (bkt hs) x) j = cTl s1 j := fun j => (et _ _ _ (by decide)).trans (fi.2.2.1 _ _ _ (by decide) (fun z => absurd z (by decide)))
      have nw : cNw x s0 (sA t0 117 0 (bkt hs) x) := by
        refine ⟨?_, ⟨md.nw.2.1.1, ?_⟩, ?_⟩
        · show ((0 ≤ x ∧ x < cN s0) ∧ cTy s0 x = 0 ∧ cN t0 = cN s0) ∨ (x = cN s0 ∧ cN t0 = cN s0 + 1)
          rw [enN]
          exact md.nw.1
        · show gI t0 18687 x = 1
          rw [fi.2.2.2.2.2.2.2]
          exact md.nw.2.1.2
        · show 0 ≤ cN t0 ∧ cN t0 ≤ 4000
          rw [enN]
          exact md.nw.2.2
      have nut : cNu t0 x = cTl s0 4 := fi.2.2.2.2.2.1.trans md.nu
      have r04 := r0.1.1.1
      have t4 := md.t4
      refine ⟨?_, .inr ⟨x0, ⟨?_, fun l => nt.rt (h0.2 ?_)⟩, nt, trivial⟩⟩
      · refine cRo.row (x := x) (k := z.toInt.toNat) (r1.le (Nat.le_refl _) ?_) px.2 (fun f j q => ?_) (fun f j q w => ?_) (fun q => ?_) (fun _ => ?_) tl
        · dsimp only
          omega
        · rcases q with rfl | rfl | rfl | rfl | rfl
          · exact fi.1 _ _ (by decide) (fun v => absurd v (by decide))
          · exact fi.1 _ _ (by decide) (fun v => absurd v (by decide))
          · by_cases v : j = x
            · rw [v]
              exact fi.2.2.2.2.2.2.2
            · exact fi.1 _ _ (by decide) (fun _ => v)
          · exact fi.1 _ _ (by decide) (fun v => absurd v (by decide))
          · exact fi.1 _ _ (by decide) (fun v => absurd v (by decide))
        · refine fi.1 f j ?_ (fun _ => w)
          rcases q with rfl | rfl | rfl | rfl <;> decide
        · change gI t0 18943 x = 1 at q
          rw [g5 _ _ (.inl rfl)] at q
          show 0 ≤ (gI t0 18942 x).toInt
          rw [g5 _ _ (.inr rfl)]
          obtain ⟨-, wa, wb, wc, hw, -⟩ := r1
          exact (hw.2.2.2.2 x px.1.1 px.1.2).2.1 q
        · show 0 ≤ (cBl t0 x).toInt ∧ (cBl t0 x).toInt ≤ 400000
          rw [g2]
          rw [i32_le] at c
          omega
      · refine h0.1.str ad nw (fi.2.2.2.2.1.trans md.ty) (by rw [tl, t4]; omega) nut ⟨g1, fi.2.2.2.2.2.2.1.trans md.sy, ?_, ?_⟩ ((tl 6).trans md.t6) ((tl 11).trans md.t11) ?_ (fun i => ?_) (fun i a b => ?_) (fun y q => nt.2.2.1 _ _ (by decide) (fun _ => q)) (fun c _ => nt.2.2.1 _ _ (by decide) (fun z => absurd z (by decide))) ?_ (fun i => ?_)
        · show 0 ≤ (cNu t0 x).toInt
          rw [nut]
          exact r04
        · show (cNu t0 x).toInt < _
          rw [nut, tl, t4]
          omega
        · rw [tl]
          show 0 ≤ cFc t0 ∧ _ + (cFc t0).toInt = (cN t0).toInt
          rw [enF, enN]
          exact md.fc
        · exact (et _ _ _ (by decide)).trans ((fi.2.2.1 _ _ _ (by decide) (fun z => absurd z (by decide))).trans (md.A _ _ _ (by decide)))
        · change i < cFc t0 at b
          rw [enF] at b
          exact md.fi i a b
        · show cNx t0 x = cBk s0 (bkt (cPl t0 x))
          rw [g3]
          exact g4
        · show gA (sA t0 117 0 (bkt hs) x) 117 0 i = if i = bkt (cPl t0 x) then x else cBk s0 i
          rw [gA_sA, g3]
          by_cases q : i = bkt hs
          · rw [if_pos ⟨rfl, rfl, q⟩, if_pos q]
          · rw [if_neg (fun w => q w.2.2), if_neg q]
            exact (fi.2.2.1 _ _ _ (by decide) (fun z => absurd z (by decide))).trans (md.A _ _ _ (by decide))
      · rw [← nt.2.2.1 14221 0 (by decide) (fun z => absurd z (by decide))]
        exact l
