/-! Reading: what grows; upvalues. -/
abbrev nuP (s : S1) : Int := (f_protos s).toInt
abbrev nuU (s : S1) : Int := (f_upCount s).toInt
abbrev nuK (s : S1) : Int := (f_constCount s).toInt
abbrev nuC (s : S1) : Int := (f_codeCount s).toInt
abbrev nuH (s : S1) : Int := (f_childCount s).toInt
/-- constants as they were read -/
def RdK (s : S1) : Prop := ∀ i : Int32, 0 ≤ i.toInt → i.toInt < nuK s → (0 ≤ v_constants_k s i ∧ v_constants_k s i < 4) ∨ (v_constants_k s i = 4 ∧ 0 ≤ (v_constants_v s i).toInt ∧ 0 ≤ (a_constText s i).toInt ∧ (a_constText s i).toInt + (v_constants_v s i).toInt ≤ 65536)
def Rd (s : S1) : Prop := Aw s ∧ (0 ≤ nuP s ∧ nuP s ≤ 250) ∧ (0 ≤ nuU s ∧ nuU s ≤ 30000) ∧ (0 ≤ nuK s ∧ 0 ≤ nuC s ∧ nuK s + nuC s ≤ 20000) ∧ (0 ≤ nuH s ∧ nuH s ≤ 64000) ∧ RdK s
/-- what was read stays -/
def RdG (s s' : S1) : Prop := (∀ f i, ¬ (f = 3 ∨ f = 4 ∨ (23 ≤ f ∧ f ≤ 29)) → gI s' f i = gI s f i) ∧ (∀ f i, gL s' f i = gL s f i) ∧ (∀ a i j, ¬ (a = 2 ∨ (42 ≤ a ∧ a ≤ 57)) → gA s' a i j = gA s a i j) ∧ (∀ a i j, a ≠ 3 → gB s' a i j = gB s a i j) ∧ (f_fault s' = 0 → f_fault s = 0) ∧ (nuP s ≤ nuP s' ∧ nuU s ≤ nuU s' ∧ nuK s ≤ nuK s' ∧ nuC s ≤ nuC s' ∧ nuH s ≤ nuH s') ∧
  (∀ (a : Nat) (j : Int32), 42 ≤ a → a ≤ 52 → 0 ≤ j.toInt → j.toInt < nuP s → gA s' a 0 j = gA s a 0 j) ∧ (∀ j : Int32, 0 ≤ j.toInt → j.toInt < nuU s → gA s' 53 0 j = gA s 53 0 j) ∧ (∀ j : Int32, 0 ≤ j.toInt → j.toInt < nuH s → gA s' 54 0 j = gA s 54 0 j) ∧ (∀ j : Int32, 0 ≤ j.toInt → j.toInt < nuC s → gA s' 55 0 j = gA s 55 0 j) ∧ (∀ j : Int32, 0 ≤ j.toInt → j.toInt < nuK s → gA s' 2 0 j = gA s 2 0 j ∧ gB s' 3 0 j = gB s 3 0 j ∧ gA s' 57 0 j = gA s 57 0 j)
theorem RdG.refl (s : S1) : RdG s s := ⟨fun _ _ _ => rfl, fun _ _ => rfl, fun _ _ _ _ => rfl, fun _ _ _ _ => rfl, id, ⟨Int.le_refl _, Int.le_refl _, Int.le_refl _, Int.le_refl _, Int.le_refl _⟩, fun _ _ _ _ _ _ => rfl, fun _ _ _ => rfl, fun _ _ _ => rfl, fun _ _ _ => rfl, fun _ _ _ => ⟨rfl, rfl, rfl⟩⟩
theorem RdG.trans {x y z : S1} (h : RdG x y) (k : RdG y z) : RdG x z := by
  obtain ⟨h1, h2, h3, h4, h5, h6, h7, h8, h9, h10, h11⟩ := h
  obtain ⟨k1, k2, k3, k4, k5, k6, k7, k8, k9, k10, k11⟩ := k
  refine ⟨fun f i q => (k1 f i q).trans (h1 f i q), fun f i => (k2 f i).trans (h2 f i), fun a i j q => (k3 a i j q).trans (h3 a i j q), fun a i j q => (k4 a i j q).trans (h4 a i j q), fun q => h5 (k5 q), ?_, fun a j p q r t => (k7 a j p q r (by omega)).trans (h7 a j p q r t), fun j r t => (k8 j r (by omega)).trans (h8 j r t), fun j r t => (k9 j r (by omega)).trans (h9 j r t), fun j r t => (k10 j r (by omega)).trans (h10 j r t), fun j r t => ?_⟩
  · omega
  · have a := k11 j r (by omega)
    have b := h11 j r t
    exact ⟨a.1.trans b.1, a.2.1.trans b.2.1, a.2.2.trans b.2.2⟩
/-- a step of reading within one prototype -/
def RdS (s s' : S1) : Prop := RdG s s' ∧ gI s' 23 0 = gI s 23 0 ∧ gI s' 27 0 = gI s 27 0 ∧ (∀ a i j, (42 ≤ a ∧ a ≤ 52) ∨ a = 54 → gA s' a i j = gA s a i j)
theorem RdS.refl (s : S1) : RdS s s := ⟨RdG.refl s, rfl, rfl, fun _ _ _ _ => rfl⟩
theorem RdS.trans {x y z : S1} (h : RdS x y) (k : RdS y z) : RdS x z := ⟨h.1.trans k.1, k.2.1.trans h.2.1, k.2.2.1.trans h.2.2.1, fun a i j q => (k.2.2.2 a i j q).trans (h.2.2.2 a i j q)⟩
theorem Nb.cn {s s' : S1} (h : Nb s s') : gI s' 23 0 = gI s 23 0 ∧ gI s' 24 0 = gI s 24 0 ∧ gI s' 25 0 = gI s 25 0 ∧ gI s' 26 0 = gI s 26 0 ∧ gI s' 27 0 = gI s 27 0 := ⟨h.1 23 0 (by decide) (by decide) (by decide) (by decide), h.1 24 0 (by decide) (by decide) (by decide) (by decide), h.1 25 0 (by decide) (by decide) (by decide) (by decide), h.1 26 0 (by decide) (by decide) (by decide) (by decide), h.1 27 0 (by decide) (by decide) (by decide) (by decide)⟩
theorem Nb.sx {s s' : S1} (h : Nb s s') : RdS s s' := by
  obtain ⟨e1, e2, e3, e4, e5⟩ := h.cn
  obtain ⟨h1, h2, h3, h4, h5⟩ := h
  refine ⟨⟨fun f i q => h1 f i (by omega) (by omega) (by omega) (by omega), h2, fun a i j _ => h3 a i j, fun a i j _ => h4 a i j, h5, ?_, fun a j _ _ _ _ => h3 a 0 j, fun j _ _ => h3 53 0 j, fun j _ _ => h3 54 0 j, fun j _ _ => h3 55 0 j, fun j _ _ => ⟨h3 2 0 j, h4 3 0 j, h3 57 0 j⟩⟩, e1, e5, fun a i j _ => h3 a i j⟩
  simp only [nuP, nuU, nuK, nuC, nuH, f_protos, f_upCount, f_constCount, f_codeCount, f_childCount, e1, e2, e3, e4, e5]
  omega
theorem Rd.nb {s s' : S1} (h : Rd s) (k : Nb s s') (a : Aw s') : Rd s' := by
  obtain ⟨e1, e2, e3, e4, e5⟩ := k.cn
  obtain ⟨-, h2, h3, h4, h5, h6⟩ := h
  refine ⟨a, ?_, ?_, ?_, ?_, fun i p q => ?_⟩
  · simp only [nuP, f_protos, e1] at *
    exact h2
  · simp only [nuU, f_upCount, e2] at *
    exact h3
  · simp only [nuK, nuC, f_constCount, f_codeCount, e3, e4] at *
    exact h4
  · simp only [nuH, f_childCount, e5] at *
    exact h5
  · simp only [nuK, f_constCount, e3] at q
    have w := h6 i p q
    simp only [v_constants_k, v_constants_v, a_constText, k.2.2.1, k.2.2.2.1] at *
    exact w
/-- what an upvalue's description may be, where the function p makes one that has it -/
def RdU (s : S1) (p x : Int32) : Prop := 0 ≤ x ∧ (x < 256 → x < a_upvalues s p) ∧ (¬ x < 256 → (x &&& 255) < a_registers s p)
theorem and255 {x : Int32} (h : 0 ≤ x.toInt) : (x &&& 255).toInt = x.toInt % 256 := by
  have a := and_le x 255 (by decide)
  have a1 : 0 ≤ x &&& 255 := a.1
  have c0 : (0 : Int32).toInt = 0 := rfl
  rw [i32_le, c0] at a1
  have n1 : ∀ y : Int32, 0 ≤ y.toInt → (y.toBitVec.toNat : Int) = y.toInt := fun y hy => by
    have e : y.toInt = y.toBitVec.toInt := rfl
    rw [e, BitVec.toInt_eq_toNat_cond] at hy ⊢
    have l := y.toBitVec.isLt
    by_cases c : 2 * y.toBitVec.toNat < 2 ^ 32
    · rw [if_pos c]
    · rw [if_neg c] at hy
      omega
  rw [← n1 _ a1, ← n1 _ h, Int32.toBitVec_and, BitVec.toNat_and]
  have e : (255 : Int32).toBitVec.toNat = 2 ^ 8 - 1 := rfl
  rw [e, Nat.and_two_pow_sub_one_eq_mod]
  omega
theorem ux0 {s : S1} {p l : Int32} (hl : 0 ≤ l.toInt ∧ l.toInt ≤ 255) (h : l < a_upvalues s p) : RdU s p (256 * 0 + l) := by
  have e : (256 : Int32) * 0 + l = l := by grind
  have c0 : (0 : Int32).toInt = 0 := rfl
  have c2 : (256 : Int32).toInt = 256 := rfl
  rw [e]
  refine ⟨by rw [i32_le, c0]; exact hl.1, fun _ => h, fun w => absurd ?_ w⟩
  rw [i32_lt, c2]
  omega
theorem ux1 {s : S1} {p l : Int32} (hl : 0 ≤ l.toInt ∧ l.toInt ≤ 255) (h : l < a_registers s p) : RdU s p (256 * 1 + l) := by
  have c0 : (0 : Int32).toInt = 0 := rfl
  have c2 : (256 : Int32).toInt = 256 := rfl
  have e : (256 : Int32) * 1 = 256 := by decide
  rw [e]
  have y := tI_add (a := 256) (b := l) (by omega)
  rw [c2] at y
  refine ⟨by rw [i32_le, c0]; omega, fun w => ?_, fun _ => ?_⟩
  · rw [i32_lt, c2] at w
    omega
  · have q : (256 + l) &&& 255 = l := Int32.toInt_inj.mp (by rw [and255 (by omega), y]; omega)
    rw [q]
    exact h
/-- an upvalue was read -/
def RdQ (s s' : S1) : Prop := RdS s s' ∧ Rd s' ∧ (nuU s ≤ nuU s' ∧ nuU s' ≤ nuU s + 1) ∧ (nuK s' = nuK s ∧ nuC s' = nuC s)
theorem i32_in {x L : Int32} (n : Int) (hL : L.toInt = n) (h : 0 ≤ x.toInt ∧ x.toInt < n) : 0 ≤ x ∧ x < L := by
  have c0 : (0 : Int32).toInt = 0 := rfl
  rw [i32_le, i32_lt, c0, hL]
  exact h
theorem up76_ok (z : S1) (l2 l3 : Int32) (h : Rd z) (hu : nuU z < 30000) : ok (M_Mo_upvalue_j76 l2 l3) z (fun _ s' => RdQ z s' ∧ (f_fault s' = 0 → nuU s' = nuU z + 1 ∧ gA s' 53 0 (f_upCount z) = 256 * l2 + l3)) := by
  have c1 : (1 : Int32).toInt = 1 := rfl
  have e24 : (gI z 24 0).toInt = nuU z := rfl
  have hu0 := h.2.2.1.1
  have y := tI_add (a := gI z 24 0) (b := 1) (by rw [e24]; omega)
  simp only [M_Mo_upvalue_j76, ok_B, ok_C, ok_R, ok_L, ok_K, ok_GI, ok_GL, ok_PI, ok_PL, ok_AI, ok_AL, ok_SI, ok_SL, ok_Pr, ok_CI, cmp_lt, cmp_le, cmp_gt, cmp_ge, cmp_eq, nar0, nar1, Sum.elim_inl, Sum.elim_inr]
  refine ⟨fun c => ⟨i32_in 30200 rfl (by rw [e24]; omega), ⟨⟨?_, ?_, ?_, ?_⟩, ?_, ?_, ?_⟩, fun _ => ⟨?_, ?_⟩⟩, fun c => ⟨⟨RdS.refl z, h, by omega, rfl, rfl⟩, fun w => absurd w c⟩⟩
  · refine ⟨fun f i q => ?_, fun _ _ => rfl, fun a i j q => ?_, fun _ _ _ _ => rfl, fun w => c, ?_, fun a j p q r t => ?_, fun j p q => ?_, fun j _ _ => ?_, fun j _ _ => ?_, fun j _ _ => ?_⟩
    · have q1 : f ≠ 24 := by omega
      simp only [gI_sI, gI_sL, gI_sA, gI_sB, gI_sAf, gI_sBf, gL_sI, gL_sL, gL_sA, gL_sB, gL_sAf, gL_sBf, gA_sI, gA_sL, gA_sA, gA_sB, gA_sAf, gA_sBf, gB_sI, gB_sL, gB_sA, gB_sB, gB_sAf, gB_sBf, Nat.reduceEqDiff, Nat.reduceMul, Nat.reduceAdd, false_and, true_and, and_true, and_false, if_true, if_false, q1]
    · have q1 : a ≠ 53 := by omega
      simp only [gI_sI, gI_sL, gI_sA, gI_sB, gI_sAf, gI_sBf, gL_sI, gL_sL, gL_sA, gL_sB, gL_sAf, gL_sBf, gA_sI, gA_sL, gA_sA, gA_sB, gA_sAf, gA_sBf, gB_sI, gB_sL, gB_sA, gB_sB, gB_sAf, gB_sBf, Nat.reduceEqDiff, Nat.reduceMul, Nat.reduceAdd, false_and, true_and, and_true, and_false, if_true, if_false, q1]
    · simp only [nuP, nuU, nuK, nuC, nuH, f_protos, f_upCount, f_constCount, f_codeCount, f_childCount, gI_sI, gI_sL, gI_sA, gI_sB, gI_sAf, gI_sBf, gL_sI, gL_sL, gL_sA, gL_sB, gL_sAf, gL_sBf, gA_sI, gA_sL, gA_sA, gA_sB, gA_sAf, gA_sBf, gB_sI, gB_sL, gB_sA, gB_sB, gB_sAf, gB_sBf, Nat.reduceEqDiff, Nat.reduceMul, Nat.reduceAdd, false_and, true_and, and_true, and_false, if_true, if_false]
      rw [y, c1]
      omega
    · have q1 : a ≠ 53 := by omega
      simp only [gI_sI, gI_sL, gI_sA, gI_sB, gI_sAf, gI_sBf, gL_sI, gL_sL, gL_sA, gL_sB, gL_sAf, gL_sBf, gA_sI, gA_sL, gA_sA, gA_sB, gA_sAf, gA_sBf, gB_sI, gB_sL, gB_sA, gB_sB, gB_sAf, gB_sBf, Nat.reduceEqDiff, Nat.reduceMul, Nat.reduceAdd, false_and, true_and, and_true, and_false, if_true, if_false, q1]
    · have q1 : j ≠ gI z 24 0 := fun w => by
        rw [w, e24] at q
        omega
      simp only [gI_sI, gI_sL, gI_sA, gI_sB, gI_sAf, gI_sBf, gL_sI, gL_sL, gL_sA, gL_sB, gL_sAf, gL_sBf, gA_sI, gA_sL, gA_sA, gA_sB, gA_sAf, gA_sBf, gB_sI, gB_sL, gB_sA, gB_sB, gB_sAf, gB_sBf, Nat.reduceEqDiff, Nat.reduceMul, Nat.reduceAdd, false_and, true_and, and_true, and_false, if_true, if_false, q1]
    · simp only [gI_sI, gI_sL, gI_sA, gI_sB, gI_sAf, gI_sBf, gL_sI, gL_sL, gL_sA, gL_sB, gL_sAf, gL_sBf, gA_sI, gA_sL, gA_sA, gA_sB, gA_sAf, gA_sBf, gB_sI, gB_sL, gB_sA, gB_sB, gB_sAf, gB_sBf, Nat.reduceEqDiff, Nat.reduceMul, Nat.reduceAdd, false_and, true_and, and_true, and_false, if_true, if_false]
    · simp only [gI_sI, gI_sL, gI_sA, gI_sB, gI_sAf, gI_sBf, gL_sI, gL_sL, gL_sA, gL_sB, gL_sAf, gL_sBf, gA_sI, gA_sL, gA_sA, gA_sB, gA_sAf, gA_sBf, gB_sI, gB_sL, gB_sA, gB_sB, gB_sAf, gB_sBf, Nat.reduceEqDiff, Nat.reduceMul, Nat.reduceAdd, false_and, true_and, and_true, and_false, if_true, if_false]
    · simp only [gI_sI, gI_sL, gI_sA, gI_sB, gI_sAf, gI_sBf, gL_sI, gL_sL, gL_sA, gL_sB, gL_sAf, gL_sBf, gA_sI, gA_sL, gA_sA, gA_sB, gA_sAf, gA_sBf, gB_sI, gB_sL, gB_sA, gB_sB, gB_sAf, gB_sBf, Nat.reduceEqDiff, Nat.reduceMul, Nat.reduceAdd, false_and, true_and, and_true, and_false, if_true, if_false]
  · simp only [gI_sI, gI_sL, gI_sA, gI_sB, gI_sAf, gI_sBf, gL_sI, gL_sL, gL_sA, gL_sB, gL_sAf, gL_sBf, gA_sI, gA_sL, gA_sA, gA_sB, gA_sAf, gA_sBf, gB_sI, gB_sL, gB_sA, gB_sB, gB_sAf, gB_sBf, Nat.reduceEqDiff, Nat.reduceMul, Nat.reduceAdd, false_and, true_and, and_true, and_false, if_true, if_false]
  · simp only [gI_sI, gI_sL, gI_sA, gI_sB, gI_sAf, gI_sBf, gL_sI, gL_sL, gL_sA, gL_sB, gL_sAf, gL_sBf, gA_sI, gA_sL, gA_sA, gA_sB, gA_sAf, gA_sBf, gB_sI, gB_sL, gB_sA, gB_sB, gB_sAf, gB_sBf, Nat.reduceEqDiff, Nat.reduceMul, Nat.reduceAdd, false_and, true_and, and_true, and_false, if_true, if_false]
  · intro a i j q
    have q1 : a ≠ 53 := by omega
    simp only [gI_sI, gI_sL, gI_sA, gI_sB, gI_sAf, gI_sBf, gL_sI, gL_sL, gL_sA, gL_sB, gL_sAf, gL_sBf, gA_sI, gA_sL, gA_sA, gA_sB, gA_sAf, gA_sBf, gB_sI, gB_sL, gB_sA, gB_sB, gB_sAf, gB_sBf, Nat.reduceEqDiff, Nat.reduceMul, Nat.reduceAdd, false_and, true_and, and_true, and_false, if_true, if_false, q1]
  · obtain ⟨h1, h2, h3, h4, h5, h6⟩ := h
    unfold Rd Aw RdK at *
    simp only [nuP, nuU, nuK, nuC, nuH, f_size, f_fault, f_at, f_protos, f_upCount, f_constCount, f_codeCount, f_childCount, v_constants_k, v_constants_v, a_constText, gI_sI, gI_sL, gI_sA, gI_sB, gI_sAf, gI_sBf, gL_sI, gL_sL, gL_sA, gL_sB, gL_sAf, gL_sBf, gA_sI, gA_sL, gA_sA, gA_sB, gA_sAf, gA_sBf, gB_sI, gB_sL, gB_sA, gB_sB, gB_sAf, gB_sBf, Nat.reduceEqDiff, Nat.reduceMul, Nat.reduceAdd, false_and, true_and, and_true, and_false, if_true, if_false] at *
    rw [y, c1]
    exact ⟨h1, h2, by omega, h4, h5, h6⟩
  · simp only [nuU, f_upCount, gI_sI, gI_sL, gI_sA, gI_sB, gI_sAf, gI_sBf, gL_sI, gL_sL, gL_sA, gL_sB, gL_sAf, gL_sBf, gA_sI, gA_sL, gA_sA, gA_sB, gA_sAf, gA_sBf, gB_sI, gB_sL, gB_sA, gB_sB, gB_sAf, gB_sBf, Nat.reduceEqDiff, Nat.reduceMul, Nat.reduceAdd, false_and, true_and, and_true, and_false, if_true, if_false]
    rw [y, c1]
    omega
  · simp only [nuK, nuC, f_constCount, f_codeCount, gI_sI, gI_sL, gI_sA, gI_sB, gI_sAf, gI_sBf, gL_sI, gL_sL, gL_sA, gL_sB, gL_sAf, gL_sBf, gA_sI, gA_sL, gA_sA, gA_sB, gA_sAf, gA_sBf, gB_sI, gB_sL, gB_sA, gB_sB, gB_sAf, gB_sBf, Nat.reduceEqDiff, Nat.reduceMul, Nat.reduceAdd, false_and, true_and, and_true, and_false, if_true, if_false]
  · simp only [nuU, f_upCount, gI_sI, gI_sL, gI_sA, gI_sB, gI_sAf, gI_sBf, gL_sI, gL_sL, gL_sA, gL_sB, gL_sAf, gL_sBf, gA_sI, gA_sL, gA_sA, gA_sB, gA_sAf, gA_sBf, gB_sI, gB_sL, gB_sA, gB_sB, gB_sAf, gB_sBf, Nat.reduceEqDiff, Nat.reduceMul, Nat.reduceAdd, false_and, true_and, and_true, and_false, if_true, if_false]
    rw [y, c1]
  · simp only [f_upCount, gI_sI, gI_sL, gI_sA, gI_sB, gI_sAf, gI_sBf, gL_sI, gL_sL, gL_sA, gL_sB, gL_sAf, gL_sBf, gA_sI, gA_sL, gA_sA, gA_sB, gA_sAf, gA_sBf, gB_sI, gB_sL, gB_sA, gB_sB, gB_sAf, gB_sBf, Nat.reduceEqDiff, Nat.reduceMul, Nat.reduceAdd, false_and, true_and, and_true, and_false, if_true, if_false]
theorem RdQ.pre {s z s' : S1} (nb : Nb s z) (h : RdQ z s') : RdQ s s' := by
  obtain ⟨e1, e2, e3, e4, e5⟩ := nb.cn
  obtain ⟨h1, h2, h3, h4⟩ := h
  simp only [nuU, nuK, nuC, f_upCount, f_constCount, f_codeCount, e2, e3, e4] at *
  exact ⟨nb.sx.trans h1, h2, h3, h4⟩
/-- with what was read of it -/
def RdR (s s' : S1) (p : Int32) : Prop := RdQ s s' ∧ (f_fault s' = 0 → nuU s' = nuU s + 1 ∧ (0 ≤ p → RdU s' p (gA s' 53 0 (f_upCount s))))
theorem RdR.pre {s z s' : S1} {p : Int32} (nb : Nb s z) (h : RdR z s' p) : RdR s s' p := by
  have e2 : f_upCount z = f_upCount s := nb.cn.2.1
  refine ⟨h.1.pre nb, fun w => ?_⟩
  have q := h.2 w
  simp only [nuU, e2] at q
  exact q
theorem up76_ur (z : S1) (p l2 l3 : Int32) (h : Rd z) (hu : nuU z < 30000) (hx : f_fault z = 0 → 0 ≤ p → RdU z p (256 * l2 + l3)) : ok (M_Mo_upvalue_j76 l2 l3) z (fun _ s' => RdR z s' p) := by
  refine ok_mono (up76_ok z l2 l3 h hu) fun _ s' ⟨uq, w⟩ => ⟨uq, fun f => ⟨(w f).1, fun hp => ?_⟩⟩
  rw [(w f).2]
  have q := hx (uq.1.1.2.2.2.2.1 f) hp
  unfold RdU at *
  simp only [a_upvalues, a_registers, uq.1.2.2.2 45 _ _ (by decide), uq.1.2.2.2 44 _ _ (by decide)] at *
  exact q
theorem up73_ok (z : S1) (p l2 l3 k : Int32) (h : Rd z) (hu : nuU z < 30000) (hx : f_fault z = 0 → k ≠ 0 → RdU z p (256 * l2 + l3)) : ok (M_Mo_upvalue_j73 l2 l3 k) z (fun _ s' => RdR z s' p) := by
  unfold M_Mo_upvalue_j73
  rw [ok_B]
  refine ok_mono (need_ok z k h.1) fun _ s1 ⟨nb, aw, e28, w⟩ => ?_
  have e2 : nuU s1 = nuU z := by
    simp only [nuU, f_upCount, nb.cn.2.1]
  refine ok_mono (up76_ur s1 p l2 l3 (h.nb nb aw) (by omega) fun f hp => ?_) fun _ s2 u => u.pre nb
  have q := hx (nb.2.2.2.2 f) (w f)
  unfold RdU at *
  simp only [a_upvalues, a_registers, nb.2.2.1] at *
  exact q
theorem up25_ok (z : S1) (p l2 : Int32) (h : Rd z) (hu : nuU z < 30000) (hp : 0 ≤ p → p < 251) (hl : f_fault z = 0 → 0 ≤ p → l2 = 0 ∨ l2 = 1) : ok (M_Mo_upvalue_j25 p l2) z (fun _ s' => RdR z s' p) := by
  unfold M_Mo_upvalue_j25
  rw [ok_B]
  refine ok_mono (q_number_ok z 1 (by decide) h.1) fun v s1 ⟨nb, aw, v1, _, v0⟩ => ?_
  have r1 := h.nb nb aw
  have e2 : nuU s1 = nuU z := by
    simp only [nuU, f_upCount, nb.cn.2.1]
  have vb := v1 rfl
  have P : ∀ {f : M Unit}, ok f s1 (fun _ s' => RdR s1 s' p) → ok f s1 (fun _ s' => RdR z s' p) := fun k => ok_mono k fun _ _ u => u.pre nb
  rw [ok_C]
  refine ⟨fun c => P (up76_ur s1 p _ _ r1 (by omega) fun _ w => absurd (Int32.lt_of_le_of_lt w c) Int32.lt_irrefl), fun c => ?_⟩
  have p0 := Int32.not_lt.mp c
  have pb : 0 ≤ p ∧ p < 251 := ⟨p0, hp p0⟩
  rw [ok_B, ok_GI, ok_C]
  refine ⟨fun f => ?_, fun f => P (up76_ur s1 p _ _ r1 (by omega) fun w => absurd w f)⟩
  have l2' := hl (nb.2.2.2.2 f) p0
  have k65 : ∀ k : Int32, (k ≤ v.toInt32 ∨ RdU s1 p (256 * l2 + v.toInt32)) → ok (M_Mo_upvalue_j65 l2 v.toInt32 k v.toInt32) s1 (fun _ s' => RdR s1 s' p) := fun k hk => by
    unfold M_Mo_upvalue_j65
    rw [ok_C]
    refine ⟨fun _ => up73_ok s1 p l2 _ 0 r1 (by omega) fun _ w => absurd rfl w, fun d => up73_ok s1 p l2 _ 1 r1 (by omega) fun _ _ => ?_⟩
    rcases hk with q | q
    · exact absurd q d
    · exact q
  rw [ok_C]
  refine ⟨fun d => ?_, fun d => ?_⟩
  · rw [ok_B, ok_AI]
    refine ⟨pb, P (k65 _ ?_)⟩
    by_cases q : a_registers s1 p ≤ v.toInt32
    · exact Or.inl q
    · right
      rw [d]
      exact ux1 vb (Int32.not_le.mp q)
  · rw [ok_B, ok_AI]
    refine ⟨pb, P (k65 _ ?_)⟩
    by_cases q : a_upvalues s1 p ≤ v.toInt32
    · exact Or.inl q
    · right
      rcases l2' with e | e
      · rw [e]
        exact ux0 vb (Int32.not_le.mp q)
      · exact absurd e d
theorem upvalue_ok (z : S1) (p : Int32) (h : Rd z) (hu : nuU z < 30000) (hp : 0 ≤ p → p < 251) : ok (M_Mo_upvalue p) z (fun _ s' => RdR z s' p) := by
  unfold M_Mo_upvalue
  rw [ok_B]
  refine ok_mono (q_number_ok z 1 (by decide) h.1) fun v s1 ⟨nb, aw, v1, _, v0⟩ => ?_
  have r1 := h.nb nb aw
  have e2 : nuU s1 = nuU z := by
    simp only [nuU, f_upCount, nb.cn.2.1]
  have vb := v1 rfl
  have P : ∀ {f : M Unit}, ok f s1 (fun _ s' => RdR s1 s' p) → ok f s1 (fun _ s' => RdR z s' p) := fun k => ok_mono k fun _ _ u => u.pre nb
  have k22 : ∀ k : Int32, (k = 0 ∨ v.toInt32 = 0 ∨ v.toInt32 = 1) → ok (M_Mo_upvalue_j22 p v.toInt32 k) s1 (fun _ s' => RdR s1 s' p) := fun k hk => by
    unfold M_Mo_upvalue_j22
    rw [ok_B]
    refine ok_mono (need_ok s1 k r1.1) fun _ s2 ⟨nb2, aw2, e28, w⟩ => ?_
    have e3 : nuU s2 = nuU s1 := by
      simp only [nuU, f_upCount, nb2.cn.2.1]
    refine ok_mono (up25_ok s2 p _ (r1.nb nb2 aw2) (by omega) hp fun f _ => ?_) fun _ _ u => u.pre nb2
    rcases hk with q | q
    · exact absurd q (w f)
    · exact q
  rw [ok_C]
  refine ⟨fun c => P (up25_ok s1 p _ r1 (by omega) hp fun _ w => absurd (Int32.lt_of_le_of_lt w c) Int32.lt_irrefl), fun c => ?_⟩
  rw [ok_C]
  refine ⟨fun _ => P (k22 0 (Or.inl rfl)), fun d => P (k22 1 (Or.inr ?_))⟩
  have c0 : (0 : Int32).toInt = 0 := rfl
  have c1 : (1 : Int32).toInt = 1 := rfl
  have c2 : (2 : Int32).toInt = 2 := rfl
  rw [i32_le, c2] at d
  by_cases q : v.toInt32.toInt = 0
  · exact Or.inl (Int32.toInt_inj.mp (by rw [q, c0]))
  · exact Or.inr (Int32.toInt_inj.mp (by rw [c1]; omega))
