/-! The class: make. -/
/-- a place is made for a thing of sort T, with u variables and b bytes -/
def cMd (x T u b : Int32) (s t : S1) : Prop :=
  (cNw x s t) ∧
  (∀ f j, f ≠ 14209 ∧ f ≠ 14211 → (f / 128 ≠ 145 ∨ j ≠ x) → gI t f j = gI s f j) ∧
  (∀ f j, (f / 128 ≠ 145 ∨ j ≠ x) → gL t f j = gL s f j) ∧
  (∀ a j k, a ≠ 114 → gA t a j k = gA s a j k) ∧
  (∀ a j k, gB t a j k = gB s a j k) ∧
  (cTy t x = T) ∧
  (cNu t x = cTl s 4) ∧
  (cSy t x = 0) ∧
  (0 ≤ cFc t ∧ (cTl t 3).toInt + (cFc t).toInt = (cN t).toInt) ∧
  (∀ i, 0 ≤ i → i < cFc t → i < cFc s ∧ cFr s i ≠ x) ∧
  ((cTl t 4).toInt = (cTl s 4).toInt + 1) ∧
  (cTl t 6 = cTl s 6) ∧
  (cTl t 11 = cTl s 11) ∧
  ((cTl s 3).toInt < 4000)
theorem cMd.nw {x T u b : Int32} {s t : S1} (h : cMd x T u b s t) : cNw x s t := h.1
theorem cMd.I {x T u b : Int32} {s t : S1} (h : cMd x T u b s t) : ∀ f j, f ≠ 14209 ∧ f ≠ 14211 → (f / 128 ≠ 145 ∨ j ≠ x) → gI t f j = gI s f j := h.2.1
theorem cMd.L {x T u b : Int32} {s t : S1} (h : cMd x T u b s t) : ∀ f j, (f / 128 ≠ 145 ∨ j ≠ x) → gL t f j = gL s f j := h.2.2.1
theorem cMd.A {x T u b : Int32} {s t : S1} (h : cMd x T u b s t) : ∀ a j k, a ≠ 114 → gA t a j k = gA s a j k := h.2.2.2.1
theorem cMd.B {x T u b : Int32} {s t : S1} (h : cMd x T u b s t) : ∀ a j k, gB t a j k = gB s a j k := h.2.2.2.2.1
theorem cMd.ty {x T u b : Int32} {s t : S1} (h : cMd x T u b s t) : cTy t x = T := h.2.2.2.2.2.1
theorem cMd.nu {x T u b : Int32} {s t : S1} (h : cMd x T u b s t) : cNu t x = cTl s 4 := h.2.2.2.2.2.2.1
theorem cMd.sy {x T u b : Int32} {s t : S1} (h : cMd x T u b s t) : cSy t x = 0 := h.2.2.2.2.2.2.2.1
theorem cMd.fc {x T u b : Int32} {s t : S1} (h : cMd x T u b s t) : 0 ≤ cFc t ∧ (cTl t 3).toInt + (cFc t).toInt = (cN t).toInt := h.2.2.2.2.2.2.2.2.1
theorem cMd.fi {x T u b : Int32} {s t : S1} (h : cMd x T u b s t) : ∀ i, 0 ≤ i → i < cFc t → i < cFc s ∧ cFr s i ≠ x := h.2.2.2.2.2.2.2.2.2.1
theorem cMd.t4 {x T u b : Int32} {s t : S1} (h : cMd x T u b s t) : (cTl t 4).toInt = (cTl s 4).toInt + 1 := h.2.2.2.2.2.2.2.2.2.2.1
theorem cMd.t6 {x T u b : Int32} {s t : S1} (h : cMd x T u b s t) : cTl t 6 = cTl s 6 := h.2.2.2.2.2.2.2.2.2.2.2.1
theorem cMd.t11 {x T u b : Int32} {s t : S1} (h : cMd x T u b s t) : cTl t 11 = cTl s 11 := h.2.2.2.2.2.2.2.2.2.2.2.2.1
theorem cMd.lt {x T u b : Int32} {s t : S1} (h : cMd x T u b s t) : (cTl s 3).toInt < 4000 := h.2.2.2.2.2.2.2.2.2.2.2.2.2
theorem tl_sA (s : S1) (j v k : Int32) : cTl (sA s 114 0 j v) k = if k = j then v else cTl s k := by
  unfold cTl
  rw [gA_sA]
  by_cases q : k = j
  · rw [if_pos ⟨rfl, rfl, q⟩, if_pos q]
  · rw [if_neg (fun w => q w.2.2), if_neg q]
theorem tdf : ¬ (3 : Int32) = 4 ∧ ¬ (3 : Int32) = 12 ∧ ¬ (3 : Int32) = 7 ∧ ¬ (3 : Int32) = 13 ∧ ¬ (3 : Int32) = 8 ∧ ¬ (3 : Int32) = 14 ∧ ¬ (3 : Int32) = 6 ∧ ¬ (3 : Int32) = 11 ∧ ¬ (3 : Int32) = 5 ∧ ¬ (4 : Int32) = 3 ∧ ¬ (4 : Int32) = 12 ∧ ¬ (4 : Int32) = 7 ∧ ¬ (4 : Int32) = 13 ∧ ¬ (4 : Int32) = 8 ∧ ¬ (4 : Int32) = 14 ∧ ¬ (4 : Int32) = 6 ∧ ¬ (4 : Int32) = 11 ∧ ¬ (4 : Int32) = 5 ∧ ¬ (12 : Int32) = 3 ∧ ¬ (12 : Int32) = 4 ∧ ¬ (12 : Int32) = 7 ∧ ¬ (12 : Int32) = 13 ∧ ¬ (12 : Int32) = 8 ∧ ¬ (12 : Int32) = 14 ∧ ¬ (12 : Int32) = 6 ∧ ¬ (12 : Int32) = 11 ∧ ¬ (12 : Int32) = 5 ∧ ¬ (7 : Int32) = 3 ∧ ¬ (7 : Int32) = 4 ∧ ¬ (7 : Int32) = 12 ∧ ¬ (7 : Int32) = 13 ∧ ¬ (7 : Int32) = 8 ∧ ¬ (7 : Int32) = 14 ∧ ¬ (7 : Int32) = 6 ∧ ¬ (7 : Int32) = 11 ∧ ¬ (7 : Int32) = 5 ∧ ¬ (13 : Int32) = 3 ∧ ¬ (13 : Int32) = 4 ∧ ¬ (13 : Int32) = 12 ∧ ¬ (13 : Int32) = 7 ∧ ¬ (13 : Int32) = 8 ∧ ¬ (13 : Int32) = 14 ∧ ¬ (13 : Int32) = 6 ∧ ¬ (13 : Int32) = 11 ∧ ¬ (13 : Int32) = 5 ∧ ¬ (8 : Int32) = 3 ∧ ¬ (8 : Int32) = 4 ∧ ¬ (8 : Int32) = 12 ∧ ¬ (8 : Int32) = 7 ∧ ¬ (8 : Int32) = 13 ∧ ¬ (8 : Int32) = 14 ∧ ¬ (8 : Int32) = 6 ∧ ¬ (8 : Int32) = 11 ∧ ¬ (8 : Int32) = 5 ∧ ¬ (14 : Int32) = 3 ∧ ¬ (14 : Int32) = 4 ∧ ¬ (14 : Int32) = 12 ∧ ¬ (14 : Int32) = 7 ∧ ¬ (14 : Int32) = 13 ∧ ¬ (14 : Int32) = 8 ∧ ¬ (14 : Int32) = 6 ∧ ¬ (14 : Int32) = 11 ∧ ¬ (14 : Int32) = 5 ∧ ¬ (6 : Int32) = 3 ∧ ¬ (6 : Int32) = 4 ∧ ¬ (6 : Int32) = 12 ∧ ¬ (6 : Int32) = 7 ∧ ¬ (6 : Int32) = 13 ∧ ¬ (6 : Int32) = 8 ∧ ¬ (6 : Int32) = 14 ∧ ¬ (6 : Int32) = 11 ∧ ¬ (6 : Int32) = 5 ∧ ¬ (11 : Int32) = 3 ∧ ¬ (11 : Int32) = 4 ∧ ¬ (11 : Int32) = 12 ∧ ¬ (11 : Int32) = 7 ∧ ¬ (11 : Int32) = 13 ∧ ¬ (11 : Int32) = 8 ∧ ¬ (11 : Int32) = 14 ∧ ¬ (11 : Int32) = 6 ∧ ¬ (11 : Int32) = 5 ∧ ¬ (5 : Int32) = 3 ∧ ¬ (5 : Int32) = 4 ∧ ¬ (5 : Int32) = 12 ∧ ¬ (5 : Int32) = 7 ∧ ¬ (5 : Int32) = 13 ∧ ¬ (5 : Int32) = 8 ∧ ¬ (5 : Int32) = 14 ∧ ¬ (5 : Int32) = 6 ∧ ¬ (5 : Int32) = 11 := ⟨by decide, by decide, by decide, by decide, by decide, by decide, by decide, by decide, by decide, by decide, by decide, by decide, by decide, by decide, by decide, by decide, by decide, by decide, by decide, by decide, by decide, by decide, by decide, by decide, by decide, by decide, by decide, by decide, by decide, by decide, by decide, by decide, by decide, by decide, by decide, by decide, by decide, by decide, by decide, by decide, by decide, by decide, by decide, by decide, by decide, by decide, by decide, by decide, by decide, by decide, by decide, by decide, by decide, by decide, by decide, by decide, by decide, by decide, by decide, by decide, by decide, by decide, by decide, by decide, by decide, by decide, by decide, by decide, by decide, by decide, by decide, by decide, by decide, by decide, by decide, by decide, by decide, by decide, by decide, by decide, by decide, by decide, by decide, by decide, by decide, by decide, by decide, by decide, by decide, by decide⟩
def mkT (s s1 : S1) (x T u b : Int32) : S1 := sA (sA (sA (sA (sA (sA (sA (sI (sI (sI s1 18560 x T) 18561 x (cTl s 4)) 18563 x 0) 114 0 3 (cTl s 3 + 1)) 114 0 4 (cTl s 4 + 1)) 114 0 12 (cTl s 12 + 1)) 114 0 7 (cTl s 7 + u)) 114 0 13 (cTl s 13 + u)) 114 0 8 (cTl s 8 + b)) 114 0 14 (cTl s 14 + b)
theorem mkT_I (s s1 : S1) (x T u b : Int32) (f : Nat) (j : Int32) : gI (mkT s s1 x T u b) f j = if f = 18563 ∧ j = x then 0 else if f = 18561 ∧ j = x then cTl s 4 else if f = 18560 ∧ j = x then T else gI s1 f j := by
  unfold mkT
  simp only [gI_sA, gI_sI]
theorem mkT_i (s s1 : S1) (x T u b : Int32) (f : Nat) (j : Int32) (h : f / 128 ≠ 145 ∨ j ≠ x) : gI (mkT s s1 x T u b) f j = gI s1 f j := by
  rw [mkT_I, if_neg, if_neg, if_neg]
  · rintro ⟨rfl, rfl⟩
    exact h.elim (fun w => w (by decide)) (fun w => w rfl)
  · rintro ⟨rfl, rfl⟩
    exact h.elim (fun w => w (by decide)) (fun w => w rfl)
  · rintro ⟨rfl, rfl⟩
    exact h.elim (fun w => w (by decide)) (fun w => w rfl)
theorem mkT_A (s s1 : S1) (x T u b : Int32) (a : Nat) (j k : Int32) (h : a ≠ 114) : gA (mkT s s1 x T u b) a j k = gA s1 a j k := by
  unfold mkT
  simp only [gA_sA, gA_sI, h, false_and, if_false]
theorem mkT_tl (s s1 : S1) (x T u b : Int32) (h : ∀ j, gA s1 114 0 j = cTl s j) (k : Int32) : cTl (mkT s s1 x T u b) k = if k = 14 then cTl s 14 + b else if k = 8 then cTl s 8 + b else if k = 13 then cTl s 13 + u else if k = 7 then cTl s 7 + u else if k = 12 then cTl s 12 + 1 else if k = 4 then cTl s 4 + 1 else if k = 3 then cTl s 3 + 1 else cTl s k := by
  unfold mkT
  simp only [tl_sA]
  have : cTl (sI (sI (sI s1 18560 x T) 18561 x (cTl s 4)) 18563 x 0) k = cTl s k := h k
  rw [this]
theorem make62_ok {s : S1} {n e : Nat × Nat} (H : cHI s) (R : cRo s n e) (T u b : Int32) (hu : 0 ≤ u.toInt ∧ (cTl s 13).toInt + u.toInt ≤ 300000) (hb : 0 ≤ b.toInt ∧ (cTl s 14).toInt + b.toInt ≤ 400000) (hm : (cTl s 12).toInt < 60000) :
    ok (M_He_make_j62 T u b n) s (fun r s' => (r = (-10, n) ∧ s' = s) ∨ (0 ≤ r.1 ∧ cMd r.1 T u b s s' ∧ (T = 7 → cTl s 11 < 32) ∧ cRo s' r.2 (e.1 + 1, e.2 + u.toInt.toNat + b.toInt.toNat))) := by
  simp only [M_He_make_j62, ok_B, ok_C, ok_R, ok_L, ok_K, ok_GI, ok_GL, ok_PI, ok_PL, ok_AI, ok_AL, ok_SI, ok_SL, ok_Pr, ok_CI, cmp_lt, cmp_le, cmp_gt, cmp_ge, cmp_eq, nar0, nar1, Sum.elim_inl, Sum.elim_inr]
  refine ok_mono (isFull_ok s T) ?_
  rintro r s ⟨rfl, hf⟩
  refine ⟨fun c => ?_, fun c => .inl ⟨by trivial, by trivial⟩⟩
  obtain ⟨f1, f2⟩ := hf c
  have mo := R.1.2.2.2.2
  refine ok_mono (takeSlot_ok H R f1) ?_
  rintro ⟨x, m⟩ s1 ⟨⟨nw, tI, tL, tA, tB, tf, ti⟩, R1⟩
  dsimp only at nw tI tL tA tB tf ti R1 ⊢
  simp only [ok_B, ok_C, ok_R, ok_L, ok_K, ok_GI, ok_GL, ok_PI, ok_PL, ok_AI, ok_AL, ok_SI, ok_SL, ok_Pr, ok_CI, cmp_lt, cmp_le, cmp_gt, cmp_ge, cmp_eq, nar0, nar1, Sum.elim_inl, Sum.elim_inr, ok_PzT]
  have e0 : (0 : Int32).toInt = 0 := rfl
  have e1 : (1 : Int32).toInt = 1 := rfl
  have lt := nw.lt H.1
  have tl1 : ∀ j, gA s1 114 0 j = cTl s j := fun j => tA _ _ _
  simp only [gI_sI, gI_sL, gI_sA, gI_sB, gI_sAf, gI_sBf, gL_sI, gL_sL, gL_sA, gL_sB, gL_sAf, gL_sBf, gA_sI, gA_sL, gA_sA, gA_sB, gA_sAf, gA_sBf, gB_sI, gB_sL, gB_sA, gB_sB, gB_sAf, gB_sBf, Nat.reduceEqDiff, Nat.reduceMul, Nat.reduceAdd, false_and, true_and, and_true, and_false, if_true, if_false, tl1, tdf, Int32.reduceLE, Int32.reduceLT, and_self]
  change pT s1 x ∧ (_ ∨ (0 ≤ x ∧ cMd x T u b s (mkT s s1 x T u b) ∧ _ ∧ cRo (mkT s s1 x T u b) m _))
  have mI := mkT_i s s1 x T u b
  have mA := mkT_A s s1 x T u b
  have mt := mkT_tl s s1 x T u b tl1
  have t4 := R.1.1
  have f1' := f1
  rw [i32_lt] at f1'
  have c3 : (cTl s 3).toInt ≤ 4000 := by omega
  have c3' : -4000 ≤ (cTl s 3).toInt := by
    have w := H.2.2.2.1.le H.1
    have w1 := H.2.2.2.1.1
    have w2 := H.1.1
    have e4 : (4000 : Int32).toInt = 4000 := rfl
    rw [i32_le] at w
    rw [i32_le] at w1
    rw [i32_le, i32_le] at w2
    omega
  have a3 : cTl (mkT s s1 x T u b) 3 = cTl s 3 + 1 := by rw [mt]; simp only [tdf, if_false, if_true]
  have a4 : cTl (mkT s s1 x T u b) 4 = cTl s 4 + 1 := by rw [mt]; simp only [tdf, if_false, if_true]
  have a12 : cTl (mkT s s1 x T u b) 12 = cTl s 12 + 1 := by rw [mt]; simp only [tdf, if_false, if_true]
  have a13 : cTl (mkT s s1 x T u b) 13 = cTl s 13 + u := by rw [mt]; simp only [tdf, if_false, if_true]
  have a14 : cTl (mkT s s1 x T u b) 14 = cTl s 14 + b := by rw [mt]; simp only [tdf, if_false, if_true]
  have a6 : cTl (mkT s s1 x T u b) 6 = cTl s 6 := by rw [mt]; simp only [tdf, if_false]
  have a11 : cTl (mkT s s1 x T u b) 11 = cTl s 11 := by rw [mt]; simp only [tdf, if_false]
  have b3 : (cTl s 3 + 1).toInt = (cTl s 3).toInt + 1 := by rw [ktI_add] <;> omega
  have b4 : (cTl s 4 + 1).toInt = (cTl s 4).toInt + 1 := by rw [ktI_add] <;> omega
  have b12 : (cTl s 12 + 1).toInt = (cTl s 12).toInt + 1 := by rw [ktI_add] <;> omega
  have t13 := R.1.2.1
  have t14 := R.1.2.2.1
  have b13 : (cTl s 13 + u).toInt = (cTl s 13).toInt + u.toInt := by rw [ktI_add] <;> omega
  have b14 : (cTl s 14 + b).toInt = (cTl s 14).toInt + b.toInt := by rw [ktI_add] <;> omega
  have eN : cN (mkT s s1 x T u b) = cN s1 := mI _ _ (.inl (by decide))
  have eF : cFc (mkT s s1 x T u b) = cFc s1 := mI _ _ (.inl (by decide))
  have e687 : ∀ j, gI (mkT s s1 x T u b) 18687 j = gI s1 18687 j := fun j => by
    rw [mkT_I, if_neg (fun w => absurd w.1 (by decide)), if_neg (fun w => absurd w.1 (by decide)), if_neg (fun w => absurd w.1 (by decide))]
  refine ⟨nw.2.1, .inr ⟨lt.1, ⟨⟨?_, ?_, ?_⟩, fun f j q w => (mI f j w).trans (tI f j q w), fun f j w => tL f j w, fun a j k q => (mA a j k q).trans (tA a j k), tB, ?_, ?_, ?_, ⟨?_, ?_⟩, ?_, ?_, a6, a11, ?_⟩, f2, ?_⟩⟩
  · rw [eN]
    exact nw.1
  · have := nw.2.1
    unfold pT at this ⊢
    rw [e687]
    exact this
  · rw [eN]
    exact nw.2.2
  · unfold cTy
    rw [mkT_I, if_neg (fun w => absurd w.1 (by decide)), if_neg (fun w => absurd w.1 (by decide)), if_pos ⟨rfl, rfl⟩]
  · unfold cNu
    rw [mkT_I, if_neg (fun w => absurd w.1 (by decide)), if_pos ⟨rfl, rfl⟩]
  · unfold cSy
    rw [mkT_I, if_pos ⟨rfl, rfl⟩]
  · rw [eF]
    exact tf.1
  · rw [eF, eN, a3, b3]
    omega
  · rw [eF]
    exact ti
  · rw [a4, b4]
  · omega
  · obtain ⟨-, a, b', c', r1, r2⟩ := R1
    refine ⟨?_, a, b', c', ?_, ?_⟩
    · unfold cAl
      rw [a4, a12, a13, a14, b4, b12, b13, b14, mI _ _ (.inl (by decide)), mI _ _ (.inl (by decide)), tI _ _ (by decide) (.inl (by decide)), tI _ _ (by decide) (.inl (by decide))]
      have := R.1
      unfold cAl at this
      omega
    · unfold cHw at r1 ⊢
      simp only [e687, mI 18559 _ (.inl (by decide)), mI 19071 _ (.inl (by decide)), mI 18815 _ (.inl (by decide)), mI 18943 _ (.inl (by decide)), mI 18942 _ (.inl (by decide)), mI 18814 _ (.inl (by decide))]
      exact r1
    · unfold cNd at r2 ⊢
      rw [a12, a13, a14, b12, b13, b14, mI _ _ (.inl (by decide))]
      have z : ∀ j, cTl s1 j = cTl s j := tl1
      rw [z, z, z] at r2
      dsimp only at r2 ⊢
      omega
