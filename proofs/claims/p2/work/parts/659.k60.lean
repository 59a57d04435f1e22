/-! The class: a closure is entered. -/
theorem cfillB_ok (s : S1) (r : Nat) (u a b : Int32) (hr : (dyF r = true → gI s (128 * r + 127) u = 1) ∧ 0 ≤ u ∧ u.toNatClampNeg < cnF r) (h : 0 ≤ a.toInt ∧ a.toInt ≤ b.toInt ∧ b.toInt ≤ (lnI r).toInt) (hl : (lnI r).toInt ≤ 500000) :
    ok (M_Arr_fill_ r u a b 0) s (fun _ s' => cFd s s' r u a b 0) := by
  have e0 : (0 : Int32).toInt = 0 := rfl
  have e1 : (1 : Int32).toInt = 1 := rfl
  have z8 : (0 : Int32).toInt8.toInt32 = 0 := by decide
  simp only [M_Arr_fill_, M_Arr_rangeCheck, ok_B, ok_C, ok_R, ok_L, ok_K, ok_GI, ok_GL, ok_PI, ok_PL, ok_AI, ok_AL, ok_SI, ok_SL, ok_Pr, ok_CI, cmp_lt, cmp_le, cmp_gt, cmp_ge, cmp_eq, nar0, nar1, Sum.elim_inl, Sum.elim_inr, kok_F]
  refine ⟨fun _ => ⟨fun _ => ⟨fun _ => ⟨hr, ?_⟩, fun c => c (by rw [i32_le]; omega)⟩, fun c => c (by rw [i32_le]; omega)⟩, fun c => c (by rw [i32_le]; omega)⟩
  refine ok_W (fun y s' => (y.1 = r ∧ y.2.1 = u ∧ y.2.2.1 = b ∧ y.2.2.2.1 = 0) ∧ (a.toInt ≤ y.2.2.2.2.toInt ∧ y.2.2.2.2.toInt ≤ b.toInt) ∧ cFd s s' r u a y.2.2.2.2 0) (fun y _ => (b.toInt - y.2.2.2.2.toInt).toNat) ?_ (r, u, b, 0, a) _ ⟨⟨rfl, rfl, rfl, rfl⟩, ⟨by dsimp only; omega, by dsimp only; omega⟩, fun _ _ => rfl, fun _ _ => rfl, fun _ _ _ => rfl, fun r' u' j => by rw [if_neg]; rintro ⟨-, -, p, q⟩; dsimp only at q; omega⟩
  rintro ⟨r', u', b', v', i⟩ s1 ⟨⟨q1, q2, q3, q4⟩, ⟨h1, h2⟩, hf⟩
  dsimp only at q1 q2 q3 q4 h1 h2 hf
  subst q1 q2 q3 q4
  simp only [M_Arr_fill__L10, ok_B, ok_C, ok_R, ok_L, ok_K, ok_GI, ok_GL, ok_PI, ok_PL, ok_AI, ok_AL, ok_SI, ok_SL, ok_Pr, ok_CI, cmp_lt, cmp_le, cmp_gt, cmp_ge, cmp_eq, nar0, nar1, Sum.elim_inl, Sum.elim_inr, z8]
  obtain ⟨f1, f2, f3, f4⟩ := hf
  refine ⟨fun c => ?_, fun c => ?_⟩
  · rw [i32_le] at c
    have : i = b' := toInt_inj (by omega)
    rw [← this]
    exact ⟨f1, f2, f3, f4⟩
  · rw [i32_le] at c
    have ei : (i + 1).toInt = i.toInt + 1 := by rw [ktI_add] <;> omega
    refine ⟨⟨by rw [i32_le]; omega, by rw [i32_lt]; omega⟩, ⟨⟨by trivial, by trivial, by trivial, by trivial⟩, ⟨by omega, by omega⟩, f1, f2, f3, fun r2 u2 j => ?_⟩, by omega⟩
    rw [gA_sA, f4, ei]
    by_cases q : r2 = r' ∧ u2 = u' ∧ j = i
    · obtain ⟨rfl, rfl, rfl⟩ := q
      rw [if_pos ⟨rfl, rfl, rfl⟩, if_pos ⟨rfl, rfl, by omega, by omega⟩]
    · rw [if_neg q]
      by_cases w : r2 = r' ∧ u2 = u' ∧ a.toInt ≤ j.toInt ∧ j.toInt < i.toInt
      · rw [if_pos w, if_pos ⟨w.1, w.2.1, w.2.2.1, by omega⟩]
      · rw [if_neg w, if_neg (fun z => w ⟨z.1, z.2.1, z.2.2.1, by
          have : j.toInt ≠ i.toInt := fun t => q ⟨z.1, z.2.1, toInt_inj t⟩
          omega⟩)]
def cFe (s s' : S1) (r : Nat) (u a b : Int32) : Prop := (∀ f i, gI s' f i = gI s f i) ∧ (∀ f i, gL s' f i = gL s f i) ∧ (∀ f i j, gA s' f i j = gA s f i j) ∧ ∀ r' u' j, gB s' r' u' j = if r' = r ∧ u' = u ∧ a.toInt ≤ j.toInt ∧ j.toInt < b.toInt then 0 else gB s r' u' j
theorem cfillL_ok (s : S1) (r : Nat) (u a b : Int32) (hr : (dyF r = true → gI s (128 * r + 127) u = 1) ∧ 0 ≤ u ∧ u.toNatClampNeg < cnF r) (h : 0 ≤ a.toInt ∧ a.toInt ≤ b.toInt ∧ b.toInt ≤ (lnI r).toInt) (hl : (lnI r).toInt ≤ 500000) :
    ok (M_Arr_fill__ r u a b 0) s (fun _ s' => cFe s s' r u a b) := by
  have e0 : (0 : Int32).toInt = 0 := rfl
  have e1 : (1 : Int32).toInt = 1 := rfl
  simp only [M_Arr_fill__, M_Arr_rangeCheck, ok_B, ok_C, ok_R, ok_L, ok_K, ok_GI, ok_GL, ok_PI, ok_PL, ok_AI, ok_AL, ok_SI, ok_SL, ok_Pr, ok_CI, cmp_lt, cmp_le, cmp_gt, cmp_ge, cmp_eq, nar0, nar1, Sum.elim_inl, Sum.elim_inr, kok_F]
  refine ⟨fun _ => ⟨fun _ => ⟨fun _ => ⟨hr, ?_⟩, fun c => c (by rw [i32_le]; omega)⟩, fun c => c (by rw [i32_le]; omega)⟩, fun c => c (by rw [i32_le]; omega)⟩
  refine ok_W (fun y s' => (y.1 = r ∧ y.2.1 = u ∧ y.2.2.1 = b ∧ y.2.2.2.1 = 0) ∧ (a.toInt ≤ y.2.2.2.2.toInt ∧ y.2.2.2.2.toInt ≤ b.toInt) ∧ cFe s s' r u a y.2.2.2.2) (fun y _ => (b.toInt - y.2.2.2.2.toInt).toNat) ?_ (r, u, b, 0, a) _ ⟨⟨rfl, rfl, rfl, rfl⟩, ⟨by dsimp only; omega, by dsimp only; omega⟩, fun _ _ => rfl, fun _ _ => rfl, fun _ _ _ => rfl, fun r' u' j => by rw [if_neg]; rintro ⟨-, -, p, q⟩; dsimp only at q; omega⟩
  rintro ⟨r', u', b', v', i⟩ s1 ⟨⟨q1, q2, q3, q4⟩, ⟨h1, h2⟩, hf⟩
  dsimp only at q1 q2 q3 q4 h1 h2 hf
  subst q1 q2 q3 q4
  simp only [M_Arr_fill___L10, ok_B, ok_C, ok_R, ok_L, ok_K, ok_GI, ok_GL, ok_PI, ok_PL, ok_AI, ok_AL, ok_SI, ok_SL, ok_Pr, ok_CI, cmp_lt, cmp_le, cmp_gt, cmp_ge, cmp_eq, nar0, nar1, Sum.elim_inl, Sum.elim_inr]
  obtain ⟨f1, f2, f3, f4⟩ := hf
  refine ⟨fun c => ?_, fun c => ?_⟩
  · rw [i32_le] at c
    have : i = b' := toInt_inj (by omega)
    rw [← this]
    exact ⟨f1, f2, f3, f4⟩
  · rw [i32_le] at c
    have ei : (i + 1).toInt = i.toInt + 1 := by rw [ktI_add] <;> omega
    refine ⟨⟨by rw [i32_le]; omega, by rw [i32_lt]; omega⟩, ⟨⟨by trivial, by trivial, by trivial, by trivial⟩, ⟨by omega, by omega⟩, f1, f2, f3, fun r2 u2 j => ?_⟩, by omega⟩
    rw [gB_sB, f4, ei]
    by_cases q : r2 = r' ∧ u2 = u' ∧ j = i
    · obtain ⟨rfl, rfl, rfl⟩ := q
      rw [if_pos ⟨rfl, rfl, rfl⟩, if_pos ⟨rfl, rfl, by omega, by omega⟩]
    · rw [if_neg q]
      by_cases w : r2 = r' ∧ u2 = u' ∧ a.toInt ≤ j.toInt ∧ j.toInt < i.toInt
      · rw [if_pos w, if_pos ⟨w.1, w.2.1, w.2.2.1, by omega⟩]
      · rw [if_neg w, if_neg (fun z => w ⟨z.1, z.2.1, z.2.2.1, by
          have : j.toInt ≠ i.toInt := fun t => q ⟨z.1, z.2.1, toInt_inj t⟩
          omega⟩)]
/-- a frame's fields behind push -/
def psQ (s : S1) (c k fn r : Int32) (t : S1) : Prop := ((oD s c).toInt < 200 ∧ (oU s c).toInt + r.toInt ≤ 4000) ∧ (∀ f j, gI t f j = if f = 18948 ∧ j = c then oD s c + 1 else if f = 18949 ∧ j = c then oU s c + r else if f = 19462 ∧ j = c * 200 + oD s c then 0 else if f = 19461 ∧ j = c * 200 + oD s c then 0 else if f = 19460 ∧ j = c * 200 + oD s c then 0 else if f = 19459 ∧ j = c * 200 + oD s c then oU s c else if f = 19457 ∧ j = c * 200 + oD s c then fn else if f = 19456 ∧ j = c * 200 + oD s c then k else gI s f j) ∧ (∀ f j, gL t f j = if f = 19463 ∧ j = c * 200 + oD s c then 0 else gL s f j) ∧ t.2.2 = s.2.2
def puQ (s : S1) (c k fn r : Int32) (q : Int32) (t : S1) : Prop := (q = 0 ∧ t = s) ∨ (q = 1 ∧ psQ s c k fn r t)
theorem coPush_ok {s : S1} {c : Int32} (k fn r : Int32) (hD : 0 ≤ (oD s c).toInt) (hU : 0 ≤ (oU s c).toInt ∧ (oU s c).toInt ≤ 4000) (hr : 0 ≤ r.toInt ∧ r.toInt ≤ 10000) : ok (M_Co_push c k fn r) s (puQ s c k fn r) := by
  have e0 : (0 : Int32).toInt = 0 := rfl
  have e200 : (200 : Int32).toInt = 200 := rfl
  have e4 : (4000 : Int32).toInt = 4000 := rfl
  simp only [M_Co_push, ok_B, ok_C, ok_R, ok_L, ok_K, ok_GI, ok_GL, ok_PI, ok_PL, ok_AI, ok_AL, ok_SI, ok_SL, ok_CI, cmp_lt, cmp_le, cmp_gt, cmp_ge, cmp_eq, nar0, nar1, Sum.elim_inl, Sum.elim_inr, ok_PzT, ok_PzC, ok_PzP, ok_PrC, ok_PrP, ok_PrF, ok_PrN, ok_Ln, ok_CL, ok_Nw, ok_S, ok_Ks, ok_Nz]
  simp only [gI_sI, gI_sL, gI_sA, gI_sB, gI_sAf, gI_sBf, gL_sI, gL_sL, gL_sA, gL_sB, gL_sAf, gL_sBf, gA_sI, gA_sL, gA_sA, gA_sB, gA_sAf, gA_sBf, gB_sI, gB_sL, gB_sA, gB_sB, gB_sAf, gB_sBf, Nat.reduceEqDiff, Nat.reduceMul, Nat.reduceAdd, false_and, true_and, and_true, and_false, if_true, if_false]
  refine ⟨fun _ => .inl ⟨rfl, rfl⟩, fun c1 => ⟨fun c2 => ?_, fun _ => .inl ⟨rfl, rfl⟩⟩⟩
  rw [i32_le] at c1
  change ¬ _ ≤ (oD s c).toInt at c1
  rw [i32_le, ktI_add (by show -2147483648 ≤ (oU s c).toInt + r.toInt ∧ (oU s c).toInt + r.toInt < 2147483648; omega)] at c2
  change (oU s c).toInt + r.toInt ≤ _ at c2
  refine ⟨⟨by rw [i32_le]; exact hD, by rw [i32_lt]; show (oD s c).toInt < _; omega⟩, .inr ⟨rfl, ⟨by omega, by omega⟩, fun f j => ?_, fun f j => ?_, rfl⟩⟩
  · simp only [gI_sI, gI_sL]
  · simp only [gL_sI, gL_sL]
