/-! The class: reading a chunk: numbers, heads. -/
theorem oct32 (x v : Int32) (hx : 0 ≤ x.toInt ∧ x.toInt ≤ 255) : 0 ≤ ((x <<< (8 &&& 31)) ||| (v &&& 255)).toInt ∧ ((x <<< (8 &&& 31)) ||| (v &&& 255)).toInt ≤ 65535 ∧ (x.toInt = 0 → ((x <<< (8 &&& 31)) ||| (v &&& 255)).toInt ≤ 255) := by
  have i32_nat : ∀ {y : Int32}, y.toBitVec.toNat < 2147483648 → y.toInt = y.toBitVec.toNat := fun {y} h => by
    show y.toBitVec.toInt = _
    rw [BitVec.toInt_eq_toNat_cond, if_pos (by omega)]
  have nat_i32 : ∀ {y : Int32}, 0 ≤ y.toInt → (y.toBitVec.toNat : Int) = y.toInt := fun {y} h => by
    have e : y.toInt = y.toBitVec.toInt := rfl
    rw [e, BitVec.toInt_eq_toNat_cond] at h ⊢
    have l := y.toBitVec.isLt
    by_cases c : 2 * y.toBitVec.toNat < 2 ^ 32
    · rw [if_pos c]
    · rw [if_neg c] at h
      omega
  have a := kandI v 255 (by decide)
  have ny := nat_i32 (y := v &&& 255) a.1
  have nx := nat_i32 hx.1
  have e1 : (x <<< ((8 : Int32) &&& 31)).toBitVec = x.toBitVec <<< 8 := rfl
  have n1 : (x <<< ((8 : Int32) &&& 31)).toBitVec.toNat = x.toBitVec.toNat * 256 := by
    rw [e1, BitVec.toNat_shiftLeft, Nat.shiftLeft_eq]
    omega
  have n2 : ((x <<< ((8 : Int32) &&& 31)) ||| (v &&& 255)).toBitVec.toNat = (x.toBitVec.toNat * 256) ||| (v &&& 255).toBitVec.toNat := by
    rw [Int32.toBitVec_or, BitVec.toNat_or, n1]
  have a2 : (v &&& 255).toInt ≤ 255 := a.2
  have l1 : (x.toBitVec.toNat * 256) ||| (v &&& 255).toBitVec.toNat < 2 ^ 16 := Nat.or_lt_two_pow (by omega) (by omega)
  have q := i32_nat (y := (x <<< ((8 : Int32) &&& 31)) ||| (v &&& 255)) (by rw [n2]; omega)
  rw [q, n2]
  refine ⟨by omega, by omega, fun z => ?_⟩
  have z0 : x.toBitVec.toNat = 0 := by omega
  rw [z0, Nat.zero_mul, Nat.zero_or]
  omega
abbrev rAt (s : S1) : Int := (gI s 12942 0).toInt
abbrev rLn (s : S1) : Int := (gI s 12941 0).toInt
abbrev rC (s : S1) : Int := (gI s 12938 0).toInt
abbrev rK (s : S1) : Int := (gI s 12939 0).toInt
abbrev rU (s : S1) : Int := (gI s 12940 0).toInt
def Ar (s : S1) : Prop := 0 ≤ rAt s ∧ rAt s ≤ rLn s ∧ rLn s ≤ 65536
def chX (f : Nat) : Prop := f = 12942 ∨ f = 12943 ∨ f = 12944
/-- only the place and the fault have changed -/
def Nn (s t : S1) : Prop := (∀ f j, ¬ chX f → gI t f j = gI s f j) ∧ t.2 = s.2
theorem Nn.refl (s : S1) : Nn s s := ⟨fun _ _ _ => rfl, rfl⟩
theorem Nn.trans {s t u : S1} (a : Nn s t) (b : Nn t u) : Nn s u := ⟨fun f j q => (b.1 f j q).trans (a.1 f j q), b.2.trans a.2⟩
def rnQ (s : S1) (k v : Int32) (t : S1) : Prop := Nn s t ∧ Ar t ∧ (v = -1 ∨ (k = 1 → 0 ≤ v.toInt ∧ v.toInt ≤ 255) ∧ (k = 2 → 0 ≤ v.toInt ∧ v.toInt ≤ 65535)) ∧ rAt s ≤ rAt t
theorem refuse_ok (s : S1) (a b : Int32) : ok (M_Ch_refuse a b) s (fun v t => v = 0 ∧ Nn s t ∧ gI t 12942 0 = gI s 12942 0) := by
  simp only [M_Ch_refuse, ok_B, ok_C, ok_R, ok_L, ok_K, ok_GI, ok_GL, ok_PI, ok_PL, ok_AI, ok_AL, ok_SI, ok_SL, ok_CI, cmp_lt, cmp_le, cmp_gt, cmp_ge, cmp_eq, nar0, nar1, Sum.elim_inl, Sum.elim_inr, ok_PzT, ok_PzC, ok_PzP, ok_PrC, ok_PrP, ok_PrF, ok_PrN, ok_Ln, ok_CL, ok_Nw, ok_S, ok_Ks, ok_Nz]
  have g : ∀ f j, f ≠ 12943 ∧ f ≠ 12944 → gI (sI (sI s 12943 0 a) 12944 0 b) f j = gI s f j := fun f j q => by rw [gI_sI, if_neg (fun z => q.2 z.1), gI_sI, if_neg (fun z => q.1 z.1)]
  exact ⟨trivial, ⟨fun f j q => g f j (by unfold chX at q; omega), rfl⟩, g _ _ (by decide)⟩
def rnI (s : S1) (k : Int32) (y : Int32 × Int32 × Int32) (t : S1) : Prop := t = s ∧ y.1 = k ∧ (0 ≤ y.2.2.toInt ∧ y.2.2.toInt ≤ k.toInt) ∧ (y.2.2.toInt = 0 → y.2.1.toInt = 0) ∧ (y.2.2.toInt = 1 → 0 ≤ y.2.1.toInt ∧ y.2.1.toInt ≤ 255) ∧ (y.2.2.toInt = 2 → 0 ≤ y.2.1.toInt ∧ y.2.1.toInt ≤ 65535)
def rnP (s : S1) (k : Int32) (e : Int32 × Int32) (t : S1) : Prop := t = s ∧ e.1 = k ∧ (k.toInt = 1 → 0 ≤ e.2.toInt ∧ e.2.toInt ≤ 255) ∧ (k.toInt = 2 → 0 ≤ e.2.toInt ∧ e.2.toInt ≤ 65535)
theorem numL_ok {s : S1} {k : Int32} (hk : 0 ≤ k.toInt ∧ k.toInt ≤ 4) (h : Ar s) (l : rAt s + k.toInt ≤ rLn s) : ok (oW M_Ch_readNumber_L29 (k, 0, 0)) s (rnP s k) := by
  have e0 : (0 : Int32).toInt = 0 := rfl
  have e1 : (1 : Int32).toInt = 1 := rfl
  have e6 : (65536 : Int32).toInt = 65536 := rfl
  obtain ⟨h1, h2, h3⟩ := h
  refine ok_W (rnI s k) (fun y _ => (k.toInt - y.2.2.toInt).toNat) ?_ (k, 0, 0) s ⟨rfl, rfl, ⟨Int.le_refl _, hk.1⟩, fun _ => rfl, fun z => absurd z (by show ¬ (0 : Int32).toInt = 1; decide), fun z => absurd z (by show ¬ (0 : Int32).toInt = 2; decide)⟩
  rintro ⟨k', v, i⟩ t ⟨et, ek, ⟨i0, i1⟩, v0, v1, v2⟩
  dsimp only at ek i0 i1 v0 v1 v2
  rw [et, ek]
  simp only [M_Ch_readNumber_L29, ok_B, ok_C, ok_R, ok_L, ok_K, ok_GI, ok_GL, ok_PI, ok_PL, ok_AI, ok_AL, ok_SI, ok_SL, ok_CI, cmp_lt, cmp_le, cmp_gt, cmp_ge, cmp_eq, nar0, nar1, Sum.elim_inl, Sum.elim_inr, ok_PzT, ok_PzC, ok_PzP, ok_PrC, ok_PrP, ok_PrF, ok_PrN, ok_Ln, ok_CL, ok_Nw, ok_S, ok_Ks, ok_Nz]
  refine ⟨fun c => ?_, fun c => ?_⟩
  · rw [i32_le] at c
    have ei : i.toInt = k.toInt := by omega
    rw [ei] at v1 v2
    exact ⟨rfl, rfl, v1, v2⟩
  · rw [i32_le] at c
    have ea : (gI s 12942 0 + i).toInt = rAt s + i.toInt := ktI_add (by show -2147483648 ≤ rAt s + i.toInt ∧ rAt s + i.toInt < 2147483648; omega)
    have ei : (i + 1).toInt = i.toInt + 1 := by rw [ktI_add] <;> omega
    refine ⟨⟨by rw [i32_le]; omega, by rw [i32_lt]; omega⟩, ⟨rfl, rfl, ⟨by dsimp only; omega, by dsimp only; omega⟩, fun z => by dsimp only at z; omega, fun z => ?_, fun z => ?_⟩, by omega⟩
    · dsimp only at z ⊢
      have i00 : i.toInt = 0 := by omega
      have q := oct32 v (gA s 108 0 (gI s 12942 0 + i)) (by have := v0 i00; omega)
      exact ⟨q.1, q.2.2 (v0 i00)⟩
    · dsimp only at z ⊢
      have i11 : i.toInt = 1 := by omega
      have q := oct32 v (gA s 108 0 (gI s 12942 0 + i)) (v1 i11)
      exact ⟨q.1, q.2.1⟩
theorem number_ok {s : S1} {k : Int32} (hk : k = 1 ∨ k = 2 ∨ k = 4) (h : Ar s) : ok (M_Ch_readNumber k) s (fun v t => rnQ s k v t ∧ (k = 4 → rAt s + 4 ≤ rLn s → rAt t = rAt s + 4)) := by
  have e1 : (1 : Int32).toInt = 1 := rfl
  have e2 : (2 : Int32).toInt = 2 := rfl
  have e4 : (4 : Int32).toInt = 4 := rfl
  have kk : (0 ≤ k.toInt ∧ k.toInt ≤ 4) ∧ (k = 1 → k.toInt = 1) ∧ (k = 2 → k.toInt = 2) ∧ (k = 4 → k.toInt = 4) := by
    rcases hk with z | z | z <;> rw [z] <;> decide
  have ea : (gI s 12942 0 + k).toInt = rAt s + k.toInt := ktI_add (by obtain ⟨h1, h2, h3⟩ := h; show -2147483648 ≤ rAt s + k.toInt ∧ rAt s + k.toInt < 2147483648; omega)
  simp only [M_Ch_readNumber, ok_B, ok_C, ok_R, ok_L, ok_K, ok_GI, ok_GL, ok_PI, ok_PL, ok_AI, ok_AL, ok_SI, ok_SL, ok_CI, cmp_lt, cmp_le, cmp_gt, cmp_ge, cmp_eq, nar0, nar1, Sum.elim_inl, Sum.elim_inr, ok_PzT, ok_PzC, ok_PzP, ok_PrC, ok_PrP, ok_PrF, ok_PrN, ok_Ln, ok_CL, ok_Nw, ok_S, ok_Ks, ok_Nz]
  refine ⟨fun c => ?_, fun c => ?_⟩
  · rw [i32_le, ea] at c
    refine ok_mono (numL_ok kk.1 h c) ?_
    rintro ⟨k', v⟩ t ⟨et, ek, q1, q2⟩
    dsimp only at ek q1 q2 ⊢
    rw [et, ek]
    have g : ∀ f j, f ≠ 12942 → gI (sI s 12942 0 (gI s 12942 0 + k)) f j = gI s f j := fun f j q => by rw [gI_sI, if_neg (fun z => q z.1)]
    have ga : rAt (sI s 12942 0 (gI s 12942 0 + k)) = rAt s + k.toInt := by
      show (gI (sI s 12942 0 (gI s 12942 0 + k)) 12942 0).toInt = _
      rw [gI_sI, if_pos ⟨rfl, rfl⟩, ea]
    have gl : rLn (sI s 12942 0 (gI s 12942 0 + k)) = rLn s := by
      show (gI _ 12941 0).toInt = _
      rw [g _ _ (by decide)]
    obtain ⟨h1, h2, h3⟩ := h
    refine ⟨⟨⟨fun f j q => g f j (fun z => q (by rw [z]; unfold chX; decide)), rfl⟩, ⟨by rw [ga]; omega, by rw [ga, gl]; exact c, by rw [gl]; exact h3⟩, .inr ⟨fun z => q1 (kk.2.1 z), fun z => q2 (kk.2.2.1 z)⟩, by rw [ga]; omega⟩, fun z _ => ?_⟩
    rw [ga, kk.2.2.2 z]
  · rw [i32_le, ea] at c
    change ¬ rAt s + k.toInt ≤ rLn s at c
    refine ok_mono (refuse_ok s 1 _) ?_
    rintro v t ⟨-, nn, at_⟩
    have ga : rAt t = rAt s := by
      show (gI t 12942 0).toInt = _
      rw [at_]
    have gl : rLn t = rLn s := by
      show (gI t 12941 0).toInt = _
      rw [nn.1 _ _ (by unfold chX; decide)]
    obtain ⟨h1, h2, h3⟩ := h
    exact ⟨⟨nn, ⟨by rw [ga]; exact h1, by rw [ga, gl]; exact h2, by rw [gl]; exact h3⟩, .inl rfl, by rw [ga]; exact Int.le_refl _⟩, fun z y => by have := kk.2.2.2 z; omega⟩
/-- what reading a part of a prototype leaves -/
def rdX (f : Nat) : Prop := f = 12938 ∨ f = 12939 ∨ f = 12940 ∨ f = 12942 ∨ f = 12943 ∨ f = 12944
def Rl (F : Nat → Prop) (p : Int32) (s t : S1) : Prop := (∀ f j, ¬ rdX f → ¬ (F f ∧ j = p) → gI t f j = gI s f j) ∧ (∀ f j, gL t f j = gL s f j) ∧ (∀ a j k, a ≠ 104 ∧ a ≠ 105 ∧ a ≠ 107 → gA t a j k = gA s a j k) ∧ (∀ a j k, a ≠ 106 → gB t a j k = gB s a j k) ∧ (∀ k : Int32, 0 ≤ k.toInt → k.toInt < rK s → gA t 104 0 k = gA s 104 0 k) ∧ (∀ k : Int32, 0 ≤ k.toInt → k.toInt < rC s → gA t 105 0 k = gA s 105 0 k ∧ gB t 106 0 k = gB s 106 0 k) ∧ (∀ k : Int32, 0 ≤ k.toInt → k.toInt < rU s → gA t 107 0 k = gA s 107 0 k) ∧ rC s ≤ rC t ∧ rK s ≤ rK t ∧ rU s ≤ rU t
theorem Rl.refl (F : Nat → Prop) (p : Int32) (s : S1) : Rl F p s s := ⟨fun _ _ _ _ => rfl, fun _ _ => rfl, fun _ _ _ _ => rfl, fun _ _ _ _ => rfl, fun _ _ _ => rfl, fun _ _ _ => ⟨rfl, rfl⟩, fun _ _ _ => rfl, Int.le_refl _, Int.le_refl _, Int.le_refl _⟩
theorem Rl.trans {F : Nat → Prop} {p : Int32} {s t u : S1} (a : Rl F p s t) (b : Rl F p t u) : Rl F p s u := by
  obtain ⟨a1, a2, a3, a4, a5, a6, a7, a8, a9, a0⟩ := a
  obtain ⟨b1, b2, b3, b4, b5, b6, b7, b8, b9, b0⟩ := b
  exact ⟨fun f j q r => (b1 f j q r).trans (a1 f j q r), fun f j => (b2 f j).trans (a2 f j), fun x j k q => (b3 x j k q).trans (a3 x j k q), fun x j k q => (b4 x j k q).trans (a4 x j k q), fun k q r => (b5 k q (by omega)).trans (a5 k q r), fun k q r => ⟨(b6 k q (by omega)).1.trans (a6 k q r).1, (b6 k q (by omega)).2.trans (a6 k q r).2⟩, fun k q r => (b7 k q (by omega)).trans (a7 k q r), by omega, by omega, by omega⟩
theorem Rl.mono {F G : Nat → Prop} {p : Int32} {s t : S1} (a : Rl F p s t) (h : ∀ f, F f → G f) : Rl G p s t := ⟨fun f j q r => a.1 f j q (fun z => r ⟨h f z.1, z.2⟩), a.2⟩
theorem Nn.rl {s t : S1} (h : Nn s t) (F : Nat → Prop) (p : Int32) : Rl F p s t := by
  have L : ∀ f j, gL t f j = gL s f j := fun f j => by show t.2.1 f j = s.2.1 f j; rw [h.2]
  have A : ∀ a j k, gA t a j k = gA s a j k := fun a j k => by show t.2.2.1 a j k = s.2.2.1 a j k; rw [h.2]
  have B : ∀ a j k, gB t a j k = gB s a j k := fun a j k => by show t.2.2.2 a j k = s.2.2.2 a j k; rw [h.2]
  have e : ∀ f, f = 12938 ∨ f = 12939 ∨ f = 12940 → (gI s f 0).toInt ≤ (gI t f 0).toInt := fun f q => by
    rw [h.1 f 0 (by unfold chX; omega)]
    exact Int.le_refl _
  exact ⟨fun f j q _ => h.1 f j (fun z => q (by unfold rdX; unfold chX at z; omega)), L, fun a j k _ => A a j k, fun a j k _ => B a j k, fun k _ _ => A _ _ _, fun k _ _ => ⟨A _ _ _, B _ _ _⟩, fun k _ _ => A _ _ _, e _ (by decide), e _ (by decide), e _ (by decide)⟩
/-- one field of the prototype is set -/
theorem Rl.set {F : Nat → Prop} {f : Nat} (p x : Int32) (s : S1) (hf : F f) (h4 : f / 128 = 144) : Rl F p s (sI s f p x) := by
  have g : ∀ k j, ¬ (k = f ∧ j = p) → gI (sI s f p x) k j = gI s k j := fun k j q => by rw [gI_sI, if_neg q]
  have e : ∀ k, k / 128 = 101 → gI (sI s f p x) k 0 = gI s k 0 := fun k q => g k 0 (fun z => by omega)
  exact ⟨fun k j _ r => g k j (fun z => r ⟨by rw [z.1]; exact hf, z.2⟩), fun _ _ => rfl, fun _ _ _ _ => rfl, fun _ _ _ _ => rfl, fun _ _ _ => rfl, fun _ _ _ => ⟨rfl, rfl⟩, fun _ _ _ => rfl, by unfold rC; rw [e 12938 (by decide)]; exact Int.le_refl _, by unfold rK; rw [e 12939 (by decide)]; exact Int.le_refl _, by unfold rU; rw [e 12940 (by decide)]; exact Int.le_refl _⟩
theorem Ar.of {s t : S1} (h : Ar s) (a : gI t 12942 0 = gI s 12942 0) (l : gI t 12941 0 = gI s 12941 0) : Ar t := by
  unfold Ar rAt rLn
  rw [a, l]
  exact h
