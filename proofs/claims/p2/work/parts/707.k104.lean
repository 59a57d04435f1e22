/-! The class: a load: the heap is emptied. -/
theorem cfillA_ok (s : S1) (r : Nat) (v : Int32) (hl : 0 ≤ (lnI r).toInt ∧ (lnI r).toInt ≤ 500000) : ok (M_Arr_fill r 0 v) s (fun _ s' => cFd s s' r 0 0 (lnI r) v) := by
  have e0 : (0 : Int32).toInt = 0 := rfl
  have e1 : (1 : Int32).toInt = 1 := rfl
  simp only [M_Arr_fill, ok_B, ok_C, ok_R, ok_L, ok_K, ok_GI, ok_GL, ok_PI, ok_PL, ok_AI, ok_AL, ok_SI, ok_SL, ok_Pr, ok_CI, cmp_lt, cmp_le, cmp_gt, cmp_ge, cmp_eq, nar0, nar1, Sum.elim_inl, Sum.elim_inr]
  refine ok_W (fun y s' => (y.1 = r ∧ y.2.1 = 0 ∧ y.2.2.1 = v ∧ y.2.2.2.2 = lnI r) ∧ (0 ≤ y.2.2.2.1.toInt ∧ y.2.2.2.1.toInt ≤ (lnI r).toInt) ∧ cFd s s' r 0 0 y.2.2.2.1 v) (fun y _ => ((lnI r).toInt - y.2.2.2.1.toInt).toNat) ?_ (r, 0, v, 0, lnI r) _ ⟨⟨rfl, rfl, rfl, rfl⟩, ⟨Int.le_refl _, hl.1⟩, fun _ _ => rfl, fun _ _ => rfl, fun _ _ _ => rfl, fun r' u' j => by rw [if_neg]; rintro ⟨-, -, p, q⟩; dsimp only at q; omega⟩
  rintro ⟨r', u', v', i, b'⟩ s1 ⟨⟨h1, h2, h3, h4⟩, ⟨i0, i1⟩, f1, f2, f3, f4⟩
  dsimp only at h1 h2 h3 h4 i0 i1 f4
  rw [h1, h2, h3, h4]
  simp only [M_Arr_fill_L5, ok_B, ok_C, ok_R, ok_L, ok_K, ok_GI, ok_GL, ok_PI, ok_PL, ok_AI, ok_AL, ok_SI, ok_SL, ok_Pr, ok_CI, cmp_lt, cmp_le, cmp_gt, cmp_ge, cmp_eq, nar0, nar1, Sum.elim_inl, Sum.elim_inr]
  refine ⟨fun c => ?_, fun c => ?_⟩
  · rw [i32_le] at c
    have : i = lnI r := toInt_inj (by omega)
    rw [← this]
    exact ⟨f1, f2, f3, f4⟩
  · rw [i32_le] at c
    have ei : (i + 1).toInt = i.toInt + 1 := by rw [ktI_add] <;> omega
    refine ⟨⟨by rw [i32_le]; omega, by rw [i32_lt]; omega⟩, ⟨⟨trivial, trivial, trivial, trivial⟩, ⟨by omega, by omega⟩, f1, f2, f3, fun r2 u2 j => ?_⟩, by omega⟩
    rw [gA_sA, f4, ei]
    by_cases q : r2 = r ∧ u2 = 0 ∧ j = i
    · rw [if_pos q, if_pos ⟨q.1, q.2.1, by rw [q.2.2]; omega, by rw [q.2.2]; omega⟩]
    · rw [if_neg q]
      by_cases w : r2 = r ∧ u2 = 0 ∧ (0 : Int32).toInt ≤ j.toInt ∧ j.toInt < i.toInt
      · rw [if_pos w, if_pos ⟨w.1, w.2.1, w.2.2.1, by omega⟩]
      · rw [if_neg w, if_neg (fun z => w ⟨z.1, z.2.1, z.2.2.1, by
          have : j.toInt ≠ i.toInt := fun t => q ⟨z.1, z.2.1, toInt_inj t⟩
          omega⟩)]
/-- the coroutines are let go -/
def r31 (s : S1) (y : Int32) (t : S1) : Prop := (0 ≤ y.toInt ∧ y.toInt ≤ 32) ∧ (∀ f j, f ≠ 18950 → gI t f j = gI s f j) ∧ t.2 = s.2 ∧ ∀ c : Int32, 0 ≤ c.toInt → c.toInt < y.toInt → gI t 19071 c = 1 → oSl t c = -1
theorem r31_ok (s : S1) : ok (oW M_He_restart_L31 0) s (fun _ t => r31 s 32 t) := by
  have e0 : (0 : Int32).toInt = 0 := rfl
  have e1 : (1 : Int32).toInt = 1 := rfl
  have e32 : (32 : Int32).toInt = 32 := rfl
  refine ok_W (r31 s) (fun y _ => (32 - y.toInt).toNat) ?_ 0 s ⟨⟨by decide, by decide⟩, fun _ _ _ => rfl, rfl, fun c a b => absurd b (by omega)⟩
  rintro y t ⟨⟨y0, y1⟩, I, T2, C⟩
  simp only [M_He_restart_L31, M_He_restart_j56, ok_B, ok_C, ok_R, ok_L, ok_K, ok_GI, ok_GL, ok_PI, ok_PL, ok_AI, ok_AL, ok_SI, ok_SL, ok_CI, cmp_lt, cmp_le, cmp_gt, cmp_ge, cmp_eq, nar0, nar1, Sum.elim_inl, Sum.elim_inr, ok_PzT, ok_PzC, ok_PzP, ok_PrC, ok_PrP, ok_PrF, ok_PrN, ok_Ln, ok_CL, ok_Nw, ok_S, ok_Ks, ok_Nz]
  refine ⟨fun c => ?_, fun c => ?_⟩
  · rw [i32_le] at c
    have : y = 32 := toInt_inj (by omega)
    rw [← this]
    exact ⟨⟨y0, y1⟩, I, T2, C⟩
  · rw [i32_le] at c
    have ei : (y + 1).toInt = y.toInt + 1 := by rw [ktI_add] <;> omega
    have yi : 0 ≤ y ∧ y < 32 := ⟨by rw [i32_le]; omega, by rw [i32_lt]; omega⟩
    have st : ∀ u : S1, (∀ f j, f ≠ 18950 → gI u f j = gI s f j) → u.2 = s.2 → (∀ c : Int32, 0 ≤ c.toInt → c.toInt < y.toInt + 1 → gI u 19071 c = 1 → oSl u c = -1) → r31 s (y + 1) u ∧ (32 - (y + 1).toInt).toNat < (32 - y.toInt).toNat := fun u a b d => ⟨⟨⟨by omega, by omega⟩, a, b, by rw [ei]; exact d⟩, by omega⟩
    have old : ∀ c : Int32, 0 ≤ c.toInt → c.toInt < y.toInt + 1 → c ≠ y → c.toInt < y.toInt := fun c a b n => by
      have : c.toInt ≠ y.toInt := fun z => n (toInt_inj z)
      omega
    refine ⟨yi, fun c2 => st t I T2 (fun c a b d => ?_), fun c2 => ?_⟩
    · by_cases e : c = y
      · rw [e] at d
        rw [if_pos d] at c2
        rw [c2] at yi
        exact absurd yi.1 (by decide)
      · exact C c a (old c a b e) d
    · have py : gI t 19071 y = 1 := by
        by_cases z : gI t 19071 y = 1
        · exact z
        · exact absurd (if_neg z) c2
      refine ⟨⟨yi, py⟩, st _ (fun f j q => ?_) T2 (fun c a b d => ?_)⟩
      · rw [gI_sI, if_neg (fun z => q z.1)]
        exact I f j q
      · rw [gI_sI, if_neg (fun z => absurd z.1 (by decide))] at d
        unfold oSl
        by_cases e : c = y
        · rw [gI_sI, if_pos ⟨rfl, e⟩]
        · rw [gI_sI, if_neg (fun z => e z.2)]
          exact C c a (old c a b e) d
/-- nothing is left of the heap -/
def rsQ (s : S1) (t : S1) : Prop := (∀ f j, f ≠ 14209 ∧ f ≠ 14211 ∧ f ≠ 18950 ∧ f ≠ 15367 → gI t f j = gI s f j) ∧ (gI t 14209 0 = 0 ∧ gI t 14211 0 = 0 ∧ gI t 15367 0 = 0) ∧ (∀ c, pC t c → oSl t c = -1) ∧ (∀ f j, gL t f j = gL s f j) ∧ (∀ a j k, a ≠ 114 ∧ a ≠ 117 → gA t a j k = gA s a j k) ∧ (∀ a j k, gB t a j k = gB s a j k) ∧ (∀ j : Int32, 0 ≤ j.toInt → j.toInt < 12 → cTl t j = 0) ∧ (∀ j : Int32, 12 ≤ j.toInt → cTl t j = cTl s j) ∧ ∀ b, 0 ≤ b → b < 4096 → cBk t b = -1
theorem restart_ok (s : S1) : ok (oB M_He_restart fun _ => M_Ta_restart) s (fun _ t => rsQ s t) := by
  have e0 : (0 : Int32).toInt = 0 := rfl
  have e12 : (12 : Int32).toInt = 12 := rfl
  have l117 : lnI 117 = 4096 := by decide
  simp only [M_He_restart, M_Ta_restart, ok_B, ok_C, ok_R, ok_L, ok_K, ok_GI, ok_GL, ok_PI, ok_PL, ok_AI, ok_AL, ok_SI, ok_SL, ok_CI, cmp_lt, cmp_le, cmp_gt, cmp_ge, cmp_eq, nar0, nar1, Sum.elim_inl, Sum.elim_inr, ok_PzT, ok_PzC, ok_PzP, ok_PrC, ok_PrP, ok_PrF, ok_PrN, ok_Ln, ok_CL, ok_Nw, ok_S, ok_Ks, ok_Nz]
  refine ok_mono (cfill_ok _ 114 0 0 12 0 ⟨fun z => absurd z (by decide), by decide, by decide⟩ ⟨by decide, by decide, by decide⟩ (by decide)) ?_
  rintro - t1 ⟨i1, l1, b1, a1⟩
  refine ok_mono (cfillA_ok t1 117 (-1) (by decide)) ?_
  rintro - t2 ⟨i2, l2, b2, a2⟩
  rw [l117] at a2
  refine ok_mono (r31_ok t2) ?_
  rintro - t3 ⟨-, i3, e3, c3⟩
  have A3 : ∀ a j k, gA t3 a j k = gA t2 a j k := fun a j k => by show t3.2.2.1 _ _ _ = t2.2.2.1 _ _ _; rw [e3]
  have B3 : ∀ a j k, gB t3 a j k = gB t2 a j k := fun a j k => by show t3.2.2.2 _ _ _ = t2.2.2.2 _ _ _; rw [e3]
  have L3 : ∀ f j, gL t3 f j = gL t2 f j := fun f j => by show t3.2.1 _ _ = t2.2.1 _ _; rw [e3]
  have G : ∀ f j, f ≠ 15367 ∧ f ≠ 18950 → gI (sI t3 15367 0 0) f j = gI (sI (sI s 14209 0 0) 14211 0 0) f j := fun f j q => by
    rw [gI_sI, if_neg (fun z => q.1 z.1), i3 f j q.2, i2, i1]
  refine ⟨fun f j q => ?_, ⟨?_, ?_, ?_⟩, fun c h => ?_, fun f j => ?_, fun a j k q => ?_, fun a j k => ?_, fun j j0 j1 => ?_, fun j j0 => ?_, fun b b0 b1 => ?_⟩
  · rw [G f j ⟨q.2.2.2, q.2.2.1⟩, gI_sI, if_neg (fun z => q.2.1 z.1), gI_sI, if_neg (fun z => q.1 z.1)]
  · rw [G _ _ (by decide)]
    simp only [gI_sI, gI_sL, gI_sA, gI_sB, gI_sAf, gI_sBf, gL_sI, gL_sL, gL_sA, gL_sB, gL_sAf, gL_sBf, gA_sI, gA_sL, gA_sA, gA_sB, gA_sAf, gA_sBf, gB_sI, gB_sL, gB_sA, gB_sB, gB_sAf, gB_sBf, Nat.reduceEqDiff, Nat.reduceMul, Nat.reduceAdd, false_and, true_and, and_true, and_false, if_true, if_false]
  · rw [G _ _ (by decide)]
    simp only [gI_sI, gI_sL, gI_sA, gI_sB, gI_sAf, gI_sBf, gL_sI, gL_sL, gL_sA, gL_sB, gL_sAf, gL_sBf, gA_sI, gA_sL, gA_sA, gA_sB, gA_sAf, gA_sBf, gB_sI, gB_sL, gB_sA, gB_sB, gB_sAf, gB_sBf, Nat.reduceEqDiff, Nat.reduceMul, Nat.reduceAdd, false_and, true_and, and_true, and_false, if_true, if_false]
  · simp only [gI_sI, gI_sL, gI_sA, gI_sB, gI_sAf, gI_sBf, gL_sI, gL_sL, gL_sA, gL_sB, gL_sAf, gL_sBf, gA_sI, gA_sL, gA_sA, gA_sB, gA_sAf, gA_sBf, gB_sI, gB_sL, gB_sA, gB_sB, gB_sAf, gB_sBf, Nat.reduceEqDiff, Nat.reduceMul, Nat.reduceAdd, false_and, true_and, and_true, and_false, if_true, if_false]
  · obtain ⟨⟨h1, h2⟩, h3⟩ := h
    rw [gI_sI, if_neg (fun z => absurd z.1 (by decide))] at h3
    unfold oSl
    rw [gI_sI, if_neg (fun z => absurd z.1 (by decide))]
    rw [i32_le] at h1
    rw [i32_lt] at h2
    exact c3 c (by omega) (by omega) h3
  · exact (L3 f j).trans ((l2 f j).trans (l1 f j))
  · exact (A3 a j k).trans ((a2 a j k).trans (by rw [if_neg (fun z => q.2 z.1), a1, if_neg (fun z => q.1 z.1)]; rfl))
  · exact (B3 a j k).trans ((b2 a j k).trans (b1 a j k))
  · refine (A3 114 0 j).trans ((a2 114 0 j).trans ?_)
    rw [if_neg (fun z => absurd z.1 (by decide)), a1, if_pos ⟨rfl, rfl, by omega, by omega⟩]
  · refine (A3 114 0 j).trans ((a2 114 0 j).trans ?_)
    rw [if_neg (fun z => absurd z.1 (by decide)), a1, if_neg (fun z => absurd z.2.2.2 (by omega))]
    rfl
  · refine (A3 117 0 b).trans ((a2 117 0 b).trans ?_)
    rw [i32_le] at b0
    rw [i32_lt] at b1
    rw [if_pos ⟨rfl, rfl, b0, b1⟩]
theorem cCm_0 {s : S1} (h : ∀ c, pC s c → oSl s c = -1) : cCm s = 0 := by
  unfold cCm
  rw [List.countP_eq_zero]
  intro n hn z
  rw [List.mem_range] at hn
  have z' := of_decide_eq_true z
  have := h (Int32.ofNat n) ⟨⟨by rw [i32_le, oI (by omega)]; exact Int.natCast_nonneg n, by rw [i32_lt, oI (by omega)]; show (n : Int) < 32; omega⟩, z'.1⟩
  rw [this] at z'
  exact absurd z'.2 (by decide)
theorem rs_hi {t : S1} (n0 : cN t = 0) (f0 : cFc t = 0) (p0 : cTop t = 0) (C : ∀ c, pC t c → oSl t c = -1) (T : ∀ j : Int32, 0 ≤ j.toInt → j.toInt < 12 → cTl t j = 0) (B : ∀ b, 0 ≤ b → b < 4096 → cBk t b = -1) : cHI t := by
  have e0 : (0 : Int32).toInt = 0 := rfl
  have no : ∀ {x u : Int32}, ¬ cLv false t x u := fun {x u} h => by
    have := h.1
    rw [n0, i32_le, i32_lt] at this
    omega
  have nx : ∀ {x : Int32}, 0 ≤ x → x < cN t → False := fun {x} a b => by
    rw [n0, i32_lt] at b
    rw [i32_le] at a
    omega
  have nf : ∀ {x : Int32}, 0 ≤ x → x < cFc t → False := fun {x} a b => by
    rw [f0, i32_lt] at b
    rw [i32_le] at a
    omega
  refine ⟨⟨by rw [n0]; decide, fun x a b => (nx a b).elim⟩, fun x a b => (nx a b).elim, fun b b0 b1 => ?_, ⟨⟨by rw [f0]; decide, ?_⟩, fun i a b => (nf a b).elim, fun i j a b d => ?_⟩, ⟨fun c p q => ?_, fun y h => (no h).elim, ?_⟩, ?_⟩
  · rw [B b b0 b1]
    exact ⟨fun z => absurd z (by decide), fun x h => (no h.1).elim, fun x h => (no h.1).elim, fun x y h => (no h.1).elim, fun x y h => (no h.1).elim⟩
  · rw [T 3 (by decide) (by decide), f0, n0]
    rfl
  · refine (nf (x := j) ?_ d).elim
    rw [i32_le] at a ⊢
    rw [i32_lt] at b
    omega
  · rw [C c p] at q
    exact absurd q (by decide)
  · rw [T 11 (by decide) (by decide), cCm_0 C]
    rfl
  · refine ⟨fun _ => False, fun _ => 0, ⟨by rw [p0]; decide, ⟨rfl, fun z => absurd z (by rw [p0]; decide)⟩, fun p h => h.elim, fun p q h => h.elim, fun x h => (no h).elim, ?_, fun p q h1 h2 h3 => ⟨Int.le_refl _, ?_⟩⟩⟩
    · rw [T 6 (by decide) (by decide)]
      rfl
    · show (0 : Int) - 0 ≤ _
      omega
