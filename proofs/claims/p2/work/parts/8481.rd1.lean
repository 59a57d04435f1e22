/-! Reading: bytes and numbers. -/
theorem i64_nat {x : Int64} (h : x.toBitVec.toNat < 9223372036854775808) : x.toInt = x.toBitVec.toNat := by
  show x.toBitVec.toInt = _
  rw [BitVec.toInt_eq_toNat_cond, if_pos (by omega)]
theorem nat_i64 {x : Int64} (h : 0 ≤ x.toInt) : (x.toBitVec.toNat : Int) = x.toInt := by
  have e : x.toInt = x.toBitVec.toInt := rfl
  rw [e, BitVec.toInt_eq_toNat_cond] at h ⊢
  have l := x.toBitVec.isLt
  by_cases c : 2 * x.toBitVec.toNat < 2 ^ 64
  · rw [if_pos c]
  · rw [if_neg c] at h
    omega
theorem oct (x : Int64) (v : Int32) (hx : 0 ≤ x.toInt ∧ x.toInt ≤ 255) : 0 ≤ ((x <<< ((8 : Int32).toInt64 &&& 63)) ||| ((v &&& 255).toInt64)).toInt ∧ ((x <<< ((8 : Int32).toInt64 &&& 63)) ||| ((v &&& 255).toInt64)).toInt ≤ 65535 ∧ (x.toInt = 0 → ((x <<< ((8 : Int32).toInt64 &&& 63)) ||| ((v &&& 255).toInt64)).toInt ≤ 255) := by
  have c0 : (0 : Int32).toInt = 0 := rfl
  have c2 : (255 : Int32).toInt = 255 := rfl
  have a : 0 ≤ v &&& 255 ∧ v &&& 255 ≤ 255 := and_le v 255 (by decide)
  have a1 := a.1
  have a2 := a.2
  rw [i32_le] at a1 a2
  rw [c0] at a1
  rw [c2] at a2
  have ey : ((v &&& 255).toInt64).toInt = (v &&& 255).toInt := Int32.toInt_toInt64 _
  have ny := nat_i64 (x := (v &&& 255).toInt64) (by rw [ey]; exact a1)
  have nx := nat_i64 hx.1
  have e1 : (x <<< ((8 : Int32).toInt64 &&& 63)).toBitVec = x.toBitVec <<< 8 := rfl
  have n1 : (x <<< ((8 : Int32).toInt64 &&& 63)).toBitVec.toNat = x.toBitVec.toNat * 256 := by
    rw [e1, BitVec.toNat_shiftLeft, Nat.shiftLeft_eq]
    omega
  have n2 : ((x <<< ((8 : Int32).toInt64 &&& 63)) ||| ((v &&& 255).toInt64)).toBitVec.toNat = (x.toBitVec.toNat * 256) ||| (v &&& 255).toInt64.toBitVec.toNat := by
    rw [Int64.toBitVec_or, BitVec.toNat_or, n1]
  have l1 : (x.toBitVec.toNat * 256) ||| (v &&& 255).toInt64.toBitVec.toNat < 2 ^ 16 := Nat.or_lt_two_pow (by omega) (by omega)
  have q := i64_nat (x := (x <<< ((8 : Int32).toInt64 &&& 63)) ||| ((v &&& 255).toInt64)) (by rw [n2]; omega)
  rw [q, n2]
  refine ⟨by omega, by omega, fun z => ?_⟩
  have z0 : x.toBitVec.toNat = 0 := by omega
  rw [z0, Nat.zero_mul, Nat.zero_or]
  omega
theorem sm32 {x : Int64} (h : 0 ≤ x.toInt ∧ x.toInt ≤ 65535) : x.toInt32.toInt = x.toInt := by
  rw [Int64.toInt_toInt32]
  exact Int.bmod_eq_of_le (by omega) (by omega)
/-- what reading a number, and telling that it is bad, leaves -/
def Nb (s s' : S1) : Prop := (∀ f i, f ≠ 3 → f ≠ 4 → f ≠ 28 → f ≠ 29 → gI s' f i = gI s f i) ∧ (∀ f i, gL s' f i = gL s f i) ∧ (∀ a i j, gA s' a i j = gA s a i j) ∧ (∀ a i j, gB s' a i j = gB s a i j) ∧ (f_fault s' = 0 → f_fault s = 0)
theorem Nb.refl (s : S1) : Nb s s := ⟨fun _ _ _ _ _ _ => rfl, fun _ _ => rfl, fun _ _ _ => rfl, fun _ _ _ => rfl, id⟩
theorem Nb.trans {a b c : S1} (h : Nb a b) (k : Nb b c) : Nb a c := ⟨fun f i q r t u => (k.1 f i q r t u).trans (h.1 f i q r t u), fun f i => (k.2.1 f i).trans (h.2.1 f i), fun x i j => (k.2.2.1 x i j).trans (h.2.2.1 x i j), fun x i j => (k.2.2.2.1 x i j).trans (h.2.2.2.1 x i j), fun z => h.2.2.2.2 (k.2.2.2.2 z)⟩
/-- where reading stands -/
def Aw (s : S1) : Prop := (0 ≤ (f_size s).toInt ∧ (f_size s).toInt ≤ 65536) ∧ (f_fault s = 0 → 0 ≤ (f_at s).toInt ∧ (f_at s).toInt ≤ (f_size s).toInt)
theorem bad_ok (s : S1) (c l : Int32) (hc : c ≠ 0) (h : Aw s) : ok (M_Mo_bad c l) s (fun _ s' => Nb s s' ∧ Aw s' ∧ f_fault s' ≠ 0 ∧ gI s' 28 0 = gI s 28 0) := by
  simp only [M_Mo_bad, ok_B, ok_C, ok_R, ok_L, ok_K, ok_GI, ok_GL, ok_PI, ok_PL, ok_AI, ok_AL, ok_SI, ok_SL, ok_Pr, ok_CI, cmp_lt, cmp_le, cmp_gt, cmp_ge, cmp_eq, nar0, nar1, Sum.elim_inl, Sum.elim_inr]
  refine ⟨fun z => ⟨⟨fun f i q r t u => ?_, fun _ _ => rfl, fun _ _ _ => rfl, fun _ _ _ => rfl, fun w => ?_⟩, ⟨?_, fun w => ?_⟩, ?_, ?_⟩, fun z => ⟨Nb.refl s, h, z, by trivial⟩⟩
  · simp only [gI_sI, gI_sL, gI_sA, gI_sB, gI_sAf, gI_sBf, gL_sI, gL_sL, gL_sA, gL_sB, gL_sAf, gL_sBf, gA_sI, gA_sL, gA_sA, gA_sB, gA_sAf, gA_sBf, gB_sI, gB_sL, gB_sA, gB_sB, gB_sAf, gB_sBf, Nat.reduceEqDiff, Nat.reduceMul, Nat.reduceAdd, false_and, true_and, and_true, and_false, if_true, if_false, q, r]
  · exact z
  · simp only [f_size, gI_sI, gI_sL, gI_sA, gI_sB, gI_sAf, gI_sBf, gL_sI, gL_sL, gL_sA, gL_sB, gL_sAf, gL_sBf, gA_sI, gA_sL, gA_sA, gA_sB, gA_sAf, gA_sBf, gB_sI, gB_sL, gB_sA, gB_sB, gB_sAf, gB_sBf, Nat.reduceEqDiff, Nat.reduceMul, Nat.reduceAdd, false_and, true_and, and_true, and_false, if_true, if_false]
    exact h.1
  · simp only [f_fault, gI_sI, gI_sL, gI_sA, gI_sB, gI_sAf, gI_sBf, gL_sI, gL_sL, gL_sA, gL_sB, gL_sAf, gL_sBf, gA_sI, gA_sL, gA_sA, gA_sB, gA_sAf, gA_sBf, gB_sI, gB_sL, gB_sA, gB_sB, gB_sAf, gB_sBf, Nat.reduceEqDiff, Nat.reduceMul, Nat.reduceAdd, false_and, true_and, and_true, and_false, if_true, if_false] at w
    exact absurd w hc
  · simp only [f_fault, gI_sI, gI_sL, gI_sA, gI_sB, gI_sAf, gI_sBf, gL_sI, gL_sL, gL_sA, gL_sB, gL_sAf, gL_sBf, gA_sI, gA_sL, gA_sA, gA_sB, gA_sAf, gA_sBf, gB_sI, gB_sL, gB_sA, gB_sB, gB_sAf, gB_sBf, Nat.reduceEqDiff, Nat.reduceMul, Nat.reduceAdd, false_and, true_and, and_true, and_false, if_true, if_false]
    exact hc
  · simp only [gI_sI, gI_sL, gI_sA, gI_sB, gI_sAf, gI_sBf, gL_sI, gL_sL, gL_sA, gL_sB, gL_sAf, gL_sBf, gA_sI, gA_sL, gA_sA, gA_sB, gA_sAf, gA_sBf, gB_sI, gB_sL, gB_sA, gB_sB, gB_sAf, gB_sBf, Nat.reduceEqDiff, Nat.reduceMul, Nat.reduceAdd, false_and, true_and, and_true, and_false, if_true, if_false]
theorem need_ok (s : S1) (k : Int32) (h : Aw s) : ok (M_Mo_need k) s (fun _ s' => Nb s s' ∧ Aw s' ∧ gI s' 28 0 = gI s 28 0 ∧ (f_fault s' = 0 → k ≠ 0)) := by
  simp only [M_Mo_need, ok_B, ok_C, ok_R, ok_L, ok_K, ok_GI, ok_GL, ok_PI, ok_PL, ok_AI, ok_AL, ok_SI, ok_SL, ok_Pr, ok_CI, cmp_lt, cmp_le, cmp_gt, cmp_ge, cmp_eq, nar0, nar1, Sum.elim_inl, Sum.elim_inr]
  refine ⟨fun c => ok_mono (bad_ok s 2 _ (by decide) h) fun _ s' w => ⟨w.1, w.2.1, w.2.2.2, fun z => absurd z w.2.2.1⟩, fun c => ⟨Nb.refl s, h, by trivial, fun _ => c⟩⟩
theorem num_num {l i a z : Int32} (hi : 0 ≤ i.toInt) (hl : l.toInt ≤ 8) (ha : 0 ≤ a.toInt ∧ a.toInt + (l.toInt - i.toInt) ≤ z.toInt) (hz : z.toInt ≤ 65536) (c : ¬ l ≤ i) : (0 ≤ a ∧ a < 65536) ∧ (i + 1).toInt = i.toInt + 1 ∧ (a + 1).toInt = a.toInt + 1 ∧ (l - (i + 1)).toNatClampNeg < (l - i).toNatClampNeg := by
  have c0 : (0 : Int32).toInt = 0 := rfl
  have c1 : (1 : Int32).toInt = 1 := rfl
  have c6 : (65536 : Int32).toInt = 65536 := rfl
  have c' := Int32.not_le.mp c
  rw [i32_lt] at c'
  have y1 := tI_add (a := i) (b := 1) (by omega)
  have y2 := tI_add (a := a) (b := 1) (by omega)
  have y3 := tI_sub (a := l) (b := i) (by omega)
  have y4 := tI_sub (a := l) (b := i + 1) (by omega)
  rw [i32_le, i32_lt, c0, c6]
  unfold Int32.toNatClampNeg
  omega
theorem num47_ok (s : S1) (l : Int32) (hl : 0 ≤ l.toInt ∧ l.toInt ≤ 8) (h : Aw s) (h0 : f_fault s = 0) (ha : (f_at s).toInt + l.toInt ≤ (f_size s).toInt) : ok (oW M_Mo_number_L47 (l, 0, 0)) s (fun v s' => Nb s s' ∧ Aw s' ∧ f_fault s' = 0 ∧ (f_at s').toInt = (f_at s).toInt + l.toInt ∧ (l.toInt = 1 → 0 ≤ v.toInt ∧ v.toInt ≤ 255) ∧ (l.toInt = 2 → 0 ≤ v.toInt ∧ v.toInt ≤ 65535)) := by
  have a0 := h.2 h0
  have c0 : (0 : Int32).toInt = 0 := rfl
  refine ok_W (fun y z => y.1 = l ∧ (0 ≤ y.2.2.toInt ∧ y.2.2.toInt ≤ l.toInt) ∧ Nb s z ∧ f_fault z = 0 ∧ (f_at z).toInt = (f_at s).toInt + y.2.2.toInt ∧ (y.2.2.toInt = 0 → y.2.1.toInt = 0) ∧ (y.2.2.toInt = 1 → 0 ≤ y.2.1.toInt ∧ y.2.1.toInt ≤ 255) ∧ (y.2.2.toInt = 2 → 0 ≤ y.2.1.toInt ∧ y.2.1.toInt ≤ 65535)) (fun y _ => (l - y.2.2).toNatClampNeg) ?_ (l, 0, 0) s ⟨rfl, ⟨(show (0 : Int) ≤ (0 : Int32).toInt by decide), hl.1⟩, Nb.refl s, h0, by show _ = _ + (0 : Int32).toInt; rw [c0]; omega, fun _ => rfl, fun z => absurd z (show ¬ (0 : Int32).toInt = 1 by decide), fun z => absurd z (show ¬ (0 : Int32).toInt = 2 by decide)⟩
  rintro ⟨l', v, i⟩ z ⟨el, ⟨i0, i1⟩, nb, f0, ea, k0, k1, k2⟩
  dsimp only at el i0 i1 ea k0 k1 k2
  rw [el]
  have es : f_size z = f_size s := nb.1 1 0 (by decide) (by decide) (by decide) (by decide)
  simp only [M_Mo_number_L47, ok_B, ok_C, ok_R, ok_L, ok_K, ok_GI, ok_GL, ok_PI, ok_PL, ok_AI, ok_AL, ok_SI, ok_SL, ok_Pr, ok_CI, cmp_lt, cmp_le, cmp_gt, cmp_ge, cmp_eq, nar0, nar1, Sum.elim_inl, Sum.elim_inr]
  refine ⟨fun c => ?_, fun c => ?_⟩
  · rw [i32_le] at c
    have e : i.toInt = l.toInt := by omega
    rw [e] at ea k1 k2
    refine ⟨nb, ⟨by rw [es]; exact h.1, fun _ => ?_⟩, f0, ea, k1, k2⟩
    rw [es]
    omega
  · obtain ⟨m1, m2, m3, m4⟩ := num_num (z := f_size s) (a := gI z 28 0) i0 hl.2 (by
      have e : (f_at z).toInt = (gI z 28 0).toInt := rfl
      omega) h.1.2 c
    refine ⟨m1, ⟨by trivial, ⟨by omega, ?_⟩, ?_, ?_, ?_, ?_, ?_, ?_⟩, m4⟩
    · rw [i32_le] at c
      omega
    · refine ⟨fun f j q r t u => ?_, nb.2.1, nb.2.2.1, nb.2.2.2.1, fun w => h0⟩
      simp only [gI_sI, gI_sL, gI_sA, gI_sB, gI_sAf, gI_sBf, gL_sI, gL_sL, gL_sA, gL_sB, gL_sAf, gL_sBf, gA_sI, gA_sL, gA_sA, gA_sB, gA_sAf, gA_sBf, gB_sI, gB_sL, gB_sA, gB_sB, gB_sAf, gB_sBf, Nat.reduceEqDiff, Nat.reduceMul, Nat.reduceAdd, false_and, true_and, and_true, and_false, if_true, if_false, t]
      exact nb.1 f j q r t u
    · simp only [f_fault, gI_sI, gI_sL, gI_sA, gI_sB, gI_sAf, gI_sBf, gL_sI, gL_sL, gL_sA, gL_sB, gL_sAf, gL_sBf, gA_sI, gA_sL, gA_sA, gA_sB, gA_sAf, gA_sBf, gB_sI, gB_sL, gB_sA, gB_sB, gB_sAf, gB_sBf, Nat.reduceEqDiff, Nat.reduceMul, Nat.reduceAdd, false_and, true_and, and_true, and_false, if_true, if_false]
      exact f0
    · simp only [f_at, gI_sI, gI_sL, gI_sA, gI_sB, gI_sAf, gI_sBf, gL_sI, gL_sL, gL_sA, gL_sB, gL_sAf, gL_sBf, gA_sI, gA_sL, gA_sA, gA_sB, gA_sAf, gA_sBf, gB_sI, gB_sL, gB_sA, gB_sB, gB_sAf, gB_sBf, Nat.reduceEqDiff, Nat.reduceMul, Nat.reduceAdd, false_and, true_and, and_true, and_false, if_true, if_false]
      rw [m3, m2]
      have e : (f_at z).toInt = (gI z 28 0).toInt := rfl
      have e2 : (f_at s).toInt = (gI s 28 0).toInt := rfl
      omega
    · intro w
      omega
    · intro w
      have z0 := k0 (by omega)
      have o := oct v (gA z 41 0 (gI z 28 0)) (by omega)
      exact ⟨o.1, o.2.2 z0⟩
    · intro w
      have o := oct v (gA z 41 0 (gI z 28 0)) (k1 (by omega))
      exact ⟨o.1, o.2.1⟩
theorem q_number_ok (s : S1) (l : Int32) (hl : 0 ≤ l.toInt ∧ l.toInt ≤ 8) (h : Aw s) : ok (M_Mo_number l) s (fun v s' => Nb s s' ∧ Aw s' ∧ (l = 1 → 0 ≤ v.toInt32.toInt ∧ v.toInt32.toInt ≤ 255) ∧ (l = 2 → 0 ≤ v.toInt32.toInt ∧ v.toInt32.toInt ≤ 65535) ∧ (f_fault s' ≠ 0 → v = 0)) := by
  have z32 : (0 : Int64).toInt32.toInt = 0 := rfl
  simp only [M_Mo_number, ok_B, ok_C, ok_R, ok_L, ok_K, ok_GI, ok_GL, ok_PI, ok_PL, ok_AI, ok_AL, ok_SI, ok_SL, ok_Pr, ok_CI, cmp_lt, cmp_le, cmp_gt, cmp_ge, cmp_eq, nar0, nar1, Sum.elim_inl, Sum.elim_inr]
  simp only [gI_sI, gI_sL, gI_sA, gI_sB, gI_sAf, gI_sBf, gL_sI, gL_sL, gL_sA, gL_sB, gL_sAf, gL_sBf, gA_sI, gA_sL, gA_sA, gA_sB, gA_sAf, gA_sBf, gB_sI, gB_sL, gB_sA, gB_sB, gB_sAf, gB_sBf, Nat.reduceEqDiff, Nat.reduceMul, Nat.reduceAdd, false_and, true_and, and_true, and_false, if_true, if_false]
  refine ⟨fun c => ⟨fun d => ?_, fun d => ?_⟩, fun c => ⟨Nb.refl s, h, fun _ => by rw [z32]; omega, fun _ => by rw [z32]; omega, fun _ => by trivial⟩⟩
  · have a0 := h.2 c
    have y := tI_sub (a := gI s 1 0) (b := gI s 28 0) (by
      have e1 : (f_size s).toInt = (gI s 1 0).toInt := rfl
      have e2 : (f_at s).toInt = (gI s 28 0).toInt := rfl
      have := h.1
      omega)
    rw [i32_le, y] at d
    have nb0 : Nb s (sI s 29 0 (gI s 28 0)) := ⟨fun f i q r t u => by simp only [gI_sI, gI_sL, gI_sA, gI_sB, gI_sAf, gI_sBf, gL_sI, gL_sL, gL_sA, gL_sB, gL_sAf, gL_sBf, gA_sI, gA_sL, gA_sA, gA_sB, gA_sAf, gA_sBf, gB_sI, gB_sL, gB_sA, gB_sB, gB_sAf, gB_sBf, Nat.reduceEqDiff, Nat.reduceMul, Nat.reduceAdd, false_and, true_and, and_true, and_false, if_true, if_false, u], fun _ _ => rfl, fun _ _ _ => rfl, fun _ _ _ => rfl, fun w => by simp only [f_fault, gI_sI, gI_sL, gI_sA, gI_sB, gI_sAf, gI_sBf, gL_sI, gL_sL, gL_sA, gL_sB, gL_sAf, gL_sBf, gA_sI, gA_sL, gA_sA, gA_sB, gA_sAf, gA_sBf, gB_sI, gB_sL, gB_sA, gB_sB, gB_sAf, gB_sBf, Nat.reduceEqDiff, Nat.reduceMul, Nat.reduceAdd, false_and, true_and, and_true, and_false, if_true, if_false] at w; exact w⟩
    have at0 : Aw (sI s 29 0 (gI s 28 0)) := by
      unfold Aw at *
      simp only [f_size, f_fault, f_at, gI_sI, gI_sL, gI_sA, gI_sB, gI_sAf, gI_sBf, gL_sI, gL_sL, gL_sA, gL_sB, gL_sAf, gL_sBf, gA_sI, gA_sL, gA_sA, gA_sB, gA_sAf, gA_sBf, gB_sI, gB_sL, gB_sA, gB_sB, gB_sAf, gB_sBf, Nat.reduceEqDiff, Nat.reduceMul, Nat.reduceAdd, false_and, true_and, and_true, and_false, if_true, if_false] at *
      exact h
    have f0 : f_fault (sI s 29 0 (gI s 28 0)) = 0 := by
      simp only [f_fault, gI_sI, gI_sL, gI_sA, gI_sB, gI_sAf, gI_sBf, gL_sI, gL_sL, gL_sA, gL_sB, gL_sAf, gL_sBf, gA_sI, gA_sL, gA_sA, gA_sB, gA_sAf, gA_sBf, gB_sI, gB_sL, gB_sA, gB_sB, gB_sAf, gB_sBf, Nat.reduceEqDiff, Nat.reduceMul, Nat.reduceAdd, false_and, true_and, and_true, and_false, if_true, if_false]
      exact c
    have ha : (f_at (sI s 29 0 (gI s 28 0))).toInt + l.toInt ≤ (f_size (sI s 29 0 (gI s 28 0))).toInt := by
      simp only [f_at, f_size, gI_sI, gI_sL, gI_sA, gI_sB, gI_sAf, gI_sBf, gL_sI, gL_sL, gL_sA, gL_sB, gL_sAf, gL_sBf, gA_sI, gA_sL, gA_sA, gA_sB, gA_sAf, gA_sBf, gB_sI, gB_sL, gB_sA, gB_sB, gB_sAf, gB_sBf, Nat.reduceEqDiff, Nat.reduceMul, Nat.reduceAdd, false_and, true_and, and_true, and_false, if_true, if_false]
      omega
    generalize sI s 29 0 (gI s 28 0) = z at *
    refine ok_mono (num47_ok z l hl at0 f0 ha) fun v s' ⟨nb, at', f', ea, v1, v2⟩ => ⟨nb0.trans nb, at', fun e => ?_, fun e => ?_, fun w => absurd f' w⟩
    · have q := v1 (by rw [e]; rfl)
      rw [sm32 (by omega)]
      exact q
    · have q := v2 (by rw [e]; rfl)
      rw [sm32 (by omega)]
      exact q
  · have nb0 : Nb s (sI s 29 0 (gI s 28 0)) := ⟨fun f i q r t u => by simp only [gI_sI, gI_sL, gI_sA, gI_sB, gI_sAf, gI_sBf, gL_sI, gL_sL, gL_sA, gL_sB, gL_sAf, gL_sBf, gA_sI, gA_sL, gA_sA, gA_sB, gA_sAf, gA_sBf, gB_sI, gB_sL, gB_sA, gB_sB, gB_sAf, gB_sBf, Nat.reduceEqDiff, Nat.reduceMul, Nat.reduceAdd, false_and, true_and, and_true, and_false, if_true, if_false, u], fun _ _ => rfl, fun _ _ _ => rfl, fun _ _ _ => rfl, fun w => by simp only [f_fault, gI_sI, gI_sL, gI_sA, gI_sB, gI_sAf, gI_sBf, gL_sI, gL_sL, gL_sA, gL_sB, gL_sAf, gL_sBf, gA_sI, gA_sL, gA_sA, gA_sB, gA_sAf, gA_sBf, gB_sI, gB_sL, gB_sA, gB_sB, gB_sAf, gB_sBf, Nat.reduceEqDiff, Nat.reduceMul, Nat.reduceAdd, false_and, true_and, and_true, and_false, if_true, if_false] at w; exact w⟩
    have at0 : Aw (sI s 29 0 (gI s 28 0)) := by
      unfold Aw at *
      simp only [f_size, f_fault, f_at, gI_sI, gI_sL, gI_sA, gI_sB, gI_sAf, gI_sBf, gL_sI, gL_sL, gL_sA, gL_sB, gL_sAf, gL_sBf, gA_sI, gA_sL, gA_sA, gA_sB, gA_sAf, gA_sBf, gB_sI, gB_sL, gB_sA, gB_sB, gB_sAf, gB_sBf, Nat.reduceEqDiff, Nat.reduceMul, Nat.reduceAdd, false_and, true_and, and_true, and_false, if_true, if_false] at *
      exact h
    generalize sI s 29 0 (gI s 28 0) = z at *
    refine ok_mono (bad_ok z 1 _ (by decide) at0) fun _ s' w => ⟨nb0.trans w.1, w.2.1, fun _ => by rw [z32]; omega, fun _ => by rw [z32]; omega, fun _ => by trivial⟩
