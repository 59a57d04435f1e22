/-! The class: variables closed, a string dropped. -/
/-- what closing leaves -/
def cCl (T : Int32 → Prop) (c r : Int32) (s s' : S1) : Prop :=
  (∀ f i, f ≠ 18564 ∧ f ≠ 18567 ∧ f ≠ 18954 → gI s' f i = gI s f i) ∧ (∀ f i, f ≠ 18568 → gL s' f i = gL s f i) ∧ (∀ a i j, gA s' a i j = gA s a i j) ∧ (∀ a i j, gB s' a i j = gB s a i j) ∧
  (∀ i, i ≠ c → oNo s' i = oNo s i) ∧
  (∀ y, (cLk s' y = cLk s y ∧ cCk s' y = cCk s y ∧ cCv s' y = cCv s y ∧ ¬ (T y ∧ cLk s y = c ∧ r.toInt ≤ (cPl s y).toInt)) ∨ (T y ∧ cLk s y = c ∧ r.toInt ≤ (cPl s y).toInt ∧ cLk s' y = -1 ∧ cCk s' y = oRk s c (cPl s y) ∧ cCv s' y = oRv s c (cPl s y))) ∧
  Ls (fun y => T y ∧ cLk s' y = c) (fun y => (cPl s y).toInt) (cNx s) (oNo s' c)
theorem closeFrom_ok (T : Int32 → Prop) {s : S1} {c r : Int32} (hc : 0 ≤ c) (hT : ∀ y, T y → pT s y) (hl : Ls (fun y => T y ∧ cLk s y = c) (fun y => (cPl s y).toInt) (cNx s) (oNo s c))
    (hb : ∀ y, T y → cLk s y = c → 0 ≤ (cPl s y).toInt ∧ (cPl s y).toInt < 4000) : ok (M_He_closeFrom c r) s (fun _ s' => cCl T c r s s') := by
  have e0 : (0 : Int32).toInt = 0 := rfl
  have e4 : (4000 : Int32).toInt = 4000 := rfl
  have e1 : (1 : Int32).toInt = 1 := rfl
  have cm : c ≠ -1 := fun q => by
    rw [q] at hc
    exact absurd hc (by decide)
  simp only [M_He_closeFrom, M_He_closeFrom_j89, ok_B, ok_C, ok_R, ok_L, ok_K, ok_GI, ok_GL, ok_PI, ok_PL, ok_AI, ok_AL, ok_SI, ok_SL, ok_Pr, ok_CI, cmp_lt, cmp_le, cmp_gt, cmp_ge, cmp_eq, nar0, nar1, Sum.elim_inl, Sum.elim_inr]
  refine ok_W (fun y s1 => (y.1 = c ∧ y.2.1 = r) ∧ (0 ≤ y.2.2.2.toInt ∧ y.2.2.2.toInt ≤ 4000 ∧ (0 ≤ y.2.2.1 → y.2.2.2.toInt + (cPl s y.2.2.1).toInt ≤ 3999)) ∧ (∀ f i, f ≠ 18564 ∧ f ≠ 18567 → gI s1 f i = gI s f i) ∧ (∀ f i, f ≠ 18568 → gL s1 f i = gL s f i) ∧ (∀ a i j, gA s1 a i j = gA s a i j) ∧ (∀ a i j, gB s1 a i j = gB s a i j) ∧
    (∀ y, (cLk s1 y = cLk s y ∧ cCk s1 y = cCk s y ∧ cCv s1 y = cCv s y) ∨ (T y ∧ cLk s y = c ∧ r.toInt ≤ (cPl s y).toInt ∧ cLk s1 y = -1 ∧ cCk s1 y = oRk s c (cPl s y) ∧ cCv s1 y = oRv s c (cPl s y))) ∧
    Ls (fun y => T y ∧ cLk s1 y = c) (fun y => (cPl s y).toInt) (cNx s) y.2.2.1) (fun y _ => (4000 - y.2.2.2.toInt).toNat) ?_ _ _ ⟨⟨rfl, rfl⟩, ⟨by dsimp only; omega, by dsimp only; omega, fun a => ?_⟩, fun _ _ _ => rfl, fun _ _ _ => rfl, fun _ _ _ => rfl, fun _ _ _ => rfl, fun y => .inl ⟨rfl, rfl, rfl⟩, hl⟩
  · rintro ⟨c', r', x, n⟩ s1 ⟨⟨rfl, rfl⟩, ⟨n0, n4, hn⟩, i1, l1, a1, b1, hy, ls⟩
    dsimp only at n0 n4 hn hy ls hc hl hb cm
    simp only [M_He_closeFrom_L8, ok_B, ok_C, ok_R, ok_L, ok_K, ok_GI, ok_GL, ok_PI, ok_PL, ok_AI, ok_AL, ok_SI, ok_SL, ok_Pr, ok_CI, cmp_lt, cmp_le, cmp_gt, cmp_ge, cmp_eq, nar0, nar1, Sum.elim_inl, Sum.elim_inr, ok_PzT]
    have fin : (∀ y, T y → cLk s1 y = c' → ¬ r'.toInt ≤ (cPl s y).toInt) → cCl T c' r' s (sI s1 18954 c' x) := fun hf => by
      refine ⟨fun f i q => ?_, l1, a1, b1, fun i q => ?_, fun y => ?_, ?_⟩
      · rw [gI_sI, if_neg (fun w => q.2.2 w.1)]
        exact i1 f i ⟨q.1, q.2.1⟩
      · unfold oNo
        rw [gI_sI, if_neg (fun w => q w.2)]
        exact i1 _ _ (by decide)
      · have u1 : cLk (sI s1 18954 c' x) y = cLk s1 y := by
          unfold cLk
          rw [gI_sI, if_neg (fun w => absurd w.1 (by decide))]
        have u2 : cCk (sI s1 18954 c' x) y = cCk s1 y := by
          unfold cCk
          rw [gI_sI, if_neg (fun w => absurd w.1 (by decide))]
        rw [u1, u2]
        rcases hy y with ⟨q1, q2, q3⟩ | q
        · exact .inl ⟨q1, q2, q3, fun w => hf y w.1 (q1.trans w.2.1) w.2.2⟩
        · exact .inr q
      · refine ls.congr (fun y => ?_) (fun _ _ => rfl) (fun _ _ => rfl) ?_
        · unfold cLk
          rw [gI_sI, if_neg (fun w => absurd w.1 (by decide))]
        · unfold oNo
          rw [gI_sI, if_pos ⟨rfl, rfl⟩]
    refine ⟨fun d => fin fun y t e => ?_, fun d => ?_⟩
    · have q := (ls.2.1 y ⟨t, e⟩).1
      rw [i32_lt] at d
      rw [i32_le] at q
      omega
    have x0 : 0 ≤ x := by
      rw [i32_lt] at d
      rw [i32_le]
      omega
    obtain ⟨tx, lx⟩ := ls.1 x0
    have lx0 : cLk s x = c' := by
      rcases hy x with ⟨q1, -, -⟩ | ⟨-, -, -, q, -⟩
      · rw [← q1]
        exact lx
      · exact absurd (q.symm.trans lx) (fun w => cm w.symm)
    have bx := hb x tx lx0
    have px : pT s1 x := by
      have := hT x tx
      unfold pT at this ⊢
      rw [i1 _ _ (by decide)]
      exact this
    have epl : gI s1 18566 x = cPl s x := i1 _ _ (by decide)
    have enx : gI s1 18565 x = cNx s x := i1 _ _ (by decide)
    refine ⟨px, fun e => fin fun y t q => ?_, fun e => ⟨fun g => ?_, fun g => ?_⟩⟩
    · have w := (ls.2.1 y ⟨t, q⟩).2
      rw [epl, i32_lt] at e
      dsimp only at w
      omega
    · have := hn x0
      rw [i32_le] at g
      omega
    · have en : (n + 1).toInt = n.toInt + 1 := by
        rw [ktI_add] <;> omega
      have g' : n.toInt < 4000 := by
        rw [i32_le] at g
        omega
      have rg : 0 ≤ cPl s x ∧ cPl s x < 4000 := by
        rw [i32_le, i32_lt]
        omega
      rw [epl, i32_lt] at e
      simp only [gI_sI, gI_sL, gI_sA, gI_sB, gI_sAf, gI_sBf, gL_sI, gL_sL, gL_sA, gL_sB, gL_sAf, gL_sBf, gA_sI, gA_sL, gA_sA, gA_sB, gA_sAf, gA_sBf, gB_sI, gB_sL, gB_sA, gB_sB, gB_sAf, gB_sBf, Nat.reduceEqDiff, Nat.reduceMul, Nat.reduceAdd, false_and, true_and, and_true, and_false, if_true, if_false, epl, enx]
      refine ⟨px, rg, rg, ⟨⟨by rw [en]; omega, by rw [en]; omega, fun q => ?_⟩, fun f i q => ?_, fun f i q => ?_, a1, b1, fun y => ?_, ?_⟩, by rw [en]; omega⟩
      · have w := ls.2.2.1 x ⟨tx, lx⟩ q
        have w2 := w.2
        dsimp only at w2
        have hh := hn x0
        rw [en]
        omega
      · rw [if_neg (fun w => q.1 w.1), if_neg (fun w => q.2 w.1)]
        exact i1 f i q
      · rw [if_neg (fun w => q w.1)]
        exact l1 f i q
      · by_cases w : y = x
        · subst w
          refine .inr ⟨tx, lx0, by omega, ?_, ?_, ?_⟩
          · rw [if_pos rfl]
          · rw [if_pos rfl]
            exact a1 _ _ _
          · rw [if_pos rfl]
            exact b1 _ _ _
        · rw [if_neg w, if_neg w, if_neg w]
          exact hy y
      · refine (ls.drop x0).congr (fun y => ?_) (fun _ _ => rfl) (fun _ _ => rfl) rfl
        by_cases w : y = x
        · subst w
          rw [if_pos rfl]
          constructor
          · exact fun z => absurd z.2.symm cm
          · exact fun z => absurd rfl z.2
        · rw [if_neg w]
          exact ⟨fun z => ⟨z, w⟩, fun z => z.1⟩
  · have := hl.1 a
    have := hb _ this.1 this.2
    show (0 : Int32).toInt + (cPl s (oNo s c)).toInt ≤ 3999
    omega
/-- a string's bucket -/
def bkt (h : Int32) : Int32 := (h ^^^ (iushr h (15 : Int32))) &&& 4095
theorem bkt_in (h : Int32) : 0 ≤ bkt h ∧ bkt h < 4096 := by
  have := kand_le (h ^^^ (iushr h (15 : Int32))) 4095 (by decide)
  refine ⟨this.1, ?_⟩
  have b := this.2
  rw [i32_le] at b
  rw [i32_lt]
  have e1 : (Int32.ofNat 4095).toInt = 4095 := rfl
  have e2 : (4096 : Int32).toInt = 4096 := rfl
  unfold bkt
  change _ ≤ (Int32.ofNat 4095).toInt at b
  have e3 : (4095 : Int32) = Int32.ofNat 4095 := rfl
  rw [e3]
  omega
/-- the strings' chains -/
def cBm (s : S1) (b y : Int32) : Prop := cLv false s y 4 ∧ bkt (cPl s y) = b
def cBs (s : S1) : Prop := ∀ b, 0 ≤ b → b < 4096 → Ls (cBm s b) (fun y => (cNu s y).toInt) (cNx s) (cBk s b)
def cDp (x : Int32) (s s' : S1) : Prop := (∀ f i, f ≠ 18565 → gI s' f i = gI s f i) ∧ (∀ f i, gL s' f i = gL s f i) ∧ (∀ a i j, a ≠ 117 → gA s' a i j = gA s a i j) ∧ (∀ a i j, gB s' a i j = gB s a i j) ∧
  (∀ y, cTy s y ≠ 4 → cNx s' y = cNx s y) ∧ ∀ b, 0 ≤ b → b < 4096 → Ls (fun y => cBm s b y ∧ y ≠ x) (fun y => (cNu s y).toInt) (cNx s') (cBk s' b)
theorem dropFrom_ok {s : S1} {x : Int32} (hN : cNr s) (hx : cLv false s x 4) (hb : cBs s) : ok (M_He_dropFromBucket x) s (fun _ s' => cDp x s s') := by
  have e0 : (0 : Int32).toInt = 0 := rfl
  have e4 : (4000 : Int32).toInt = 4000 := rfl
  have e1 : (1 : Int32).toInt = 1 := rfl
  have px := hN.2 x hx.1.1 hx.1.2
  have rb := bkt_in (cPl s x)
  have ls := hb _ rb.1 rb.2
  have mx : cBm s (bkt (cPl s x)) x := ⟨hx, rfl⟩
  have other : ∀ b y, b ≠ bkt (cPl s x) → cBm s b y → y ≠ x := fun b y q m e => q (by rw [← m.2, e])
  simp only [M_He_dropFromBucket, M_He_dropFromBucket_j94, ok_B, ok_C, ok_R, ok_L, ok_K, ok_GI, ok_GL, ok_PI, ok_PL, ok_AI, ok_AL, ok_SI, ok_SL, ok_Pr, ok_CI, cmp_lt, cmp_le, cmp_gt, cmp_ge, cmp_eq, nar0, nar1, Sum.elim_inl, Sum.elim_inr, ok_PzT]
  change pT s x ∧ (0 ≤ bkt (cPl s x) ∧ bkt (cPl s x) < 4096) ∧ _
  refine ⟨px, rb, fun e => ⟨px, rb, ?_⟩, fun e => ?_⟩
  · refine ⟨fun _ _ _ => rfl, fun _ _ => rfl, fun a i j q => ?_, fun _ _ _ => rfl, fun _ _ => rfl, fun b b0 b1 => ?_⟩
    · rw [gA_sA, if_neg (fun w => q w.1)]
    · by_cases q : b = bkt (cPl s x)
      · subst q
        have ls2 := ls.drop (by change 0 ≤ gA s 117 0 (bkt (cPl s x)); rw [show gA s 117 0 (bkt (cPl s x)) = x from e]; exact hx.1.1)
        have e' : cBk s (bkt (cPl s x)) = x := e
        rw [e'] at ls2
        refine ls2.congr (fun y => Iff.rfl) (fun _ _ => rfl) (fun _ _ => rfl) ?_
        show gA (sA s 117 0 (bkt (cPl s x)) (gI s 18565 x)) 117 0 (bkt (cPl s x)) = _
        rw [gA_sA, if_pos ⟨rfl, rfl, rfl⟩]
      · refine (hb b b0 b1).congr (fun y => ⟨fun w => w.1, fun w => ⟨w, other b y q w⟩⟩) (fun _ _ => rfl) (fun _ _ => rfl) ?_
        show gA (sA s 117 0 (bkt (cPl s x)) (gI s 18565 x)) 117 0 b = _
        rw [gA_sA, if_neg (fun w => q w.2.2)]
  · have e' : cBk s (bkt (cPl s x)) ≠ x := e
    have h0 := ls.2.1 x mx
    have mh := ls.1 h0.1
    refine ok_W (fun y s1 => (s1 = s ∧ y.1 = x) ∧ cBm s (bkt (cPl s x)) y.2.1 ∧ (cNu s x).toInt < (cNu s y.2.1).toInt ∧ (0 ≤ y.2.2.toInt ∧ y.2.2.toInt ≤ 4000) ∧ y.2.2.toInt.toNat ≤ lsC 4000 (cBm s (bkt (cPl s x))) (fun y => (cNu s y).toInt) (cNu s y.2.1).toInt) (fun y _ => (4000 - y.2.2.toInt).toNat) ?_ _ _ ⟨⟨rfl, rfl⟩, mh, ?_, ?_, ?_⟩
    · rintro ⟨x', y, n⟩ s1 ⟨⟨rfl, rfl⟩, my, ky, hn, hc⟩
      dsimp only at my ky hn hc
      have py := hN.2 y my.1.1.1 my.1.1.2
      have cy : y.toNatClampNeg < 4000 := clamp_ltN (n := 4000) py.1.2 (by decide)
      have c2 := lsC_le (K := fun y => (cNu s1 y).toInt) (B := 4000) my my.1.1.1 cy (Int.le_refl _)
      simp only [M_He_dropFromBucket_L54, ok_B, ok_C, ok_R, ok_L, ok_K, ok_GI, ok_GL, ok_PI, ok_PL, ok_AI, ok_AL, ok_SI, ok_SL, ok_Pr, ok_CI, cmp_lt, cmp_le, cmp_gt, cmp_ge, cmp_eq, nar0, nar1, Sum.elim_inl, Sum.elim_inr, ok_PzT]
      refine ⟨py, fun d => ⟨py, px, ?_⟩, fun d => ⟨fun g => ?_, fun g => ⟨py, ?_⟩⟩⟩
      · have d' : cNx s1 y = x' := d
        have yx : y ≠ x' := fun w => by
          rw [w] at ky
          omega
        refine ⟨fun f i q => ?_, fun _ _ => rfl, fun _ _ _ _ => rfl, fun _ _ _ => rfl, fun z q => ?_, fun b b0 b1 => ?_⟩
        · rw [gI_sI, if_neg (fun w => q w.1)]
        · show gI (sI s1 18565 y (gI s1 18565 x')) 18565 z = gI s1 18565 z
          rw [gI_sI, if_neg (fun w => q (by rw [w.2]; exact my.1.2.1))]
        · by_cases q : b = bkt (cPl s1 x')
          · subst q
            refine (ls.cut my mx d' hx.1.1).congr (fun _ => Iff.rfl) (fun _ _ => rfl) (fun z _ => ?_) rfl
            show gI (sI s1 18565 y (gI s1 18565 x')) 18565 z = if z = y then cNx s1 x' else cNx s1 z
            rw [gI_sI]
            by_cases w : z = y
            · rw [if_pos ⟨rfl, w⟩, if_pos w]
            · rw [if_neg (fun v => w v.2), if_neg w]
          · refine (hb b b0 b1).congr (fun z => ⟨fun w => w.1, fun w => ⟨w, other b z q w⟩⟩) (fun _ _ => rfl) (fun z w => ?_) rfl
            show gI (sI s1 18565 y (gI s1 18565 x')) 18565 z = gI s1 18565 z
            rw [gI_sI, if_neg (fun v => q (by rw [← w.2, v.2, my.2]))]
      · rw [i32_le] at g
        omega
      · have g' : n.toInt < 4000 := by
          rw [i32_le] at g
          omega
        have en : (n + 1).toInt = n.toInt + 1 := by
          rw [ktI_add] <;> omega
        have d' : cNx s1 y ≠ x' := d
        have n1 := ls.2.2.2.1 x' y mx my ky
        have n2 := ls.2.2.1 y my n1.1
        have n3 : (cNu s1 x').toInt ≠ (cNu s1 (cNx s1 y)).toInt := fun w => d' (ls.2.2.2.2 x' _ mx n2.1 w).symm
        have n4 := n1.2
        have n5 := n2.2
        have c3 := lsC_lt (K := fun y => (cNu s1 y).toInt) (B := 4000) my my.1.1.1 cy n5
        dsimp only at n4 n5 c3
        refine ⟨⟨⟨by trivial, by trivial⟩, n2.1, ?_, by rw [en]; omega, ?_⟩, by rw [en]; omega⟩
        · show (cNu s1 x').toInt < (cNu s1 (cNx s1 y)).toInt
          omega
        · show (n + 1).toInt.toNat ≤ lsC 4000 (cBm s1 (bkt (cPl s1 x'))) (fun y => (cNu s1 y).toInt) (cNu s1 (cNx s1 y)).toInt
          rw [en]
          omega
    · have := h0.2
      have ne : (cNu s x).toInt ≠ (cNu s (cBk s (bkt (cPl s x)))).toInt := fun w => e' (ls.2.2.2.2 x _ mx mh w).symm
      dsimp only at this
      show (cNu s x).toInt < (cNu s (cBk s (bkt (cPl s x)))).toInt
      omega
    · dsimp only
      omega
    · dsimp only
      rw [e0]
      exact Nat.zero_le _
