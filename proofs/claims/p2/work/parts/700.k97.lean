/-! The class: reading a whole chunk. -/
def cnt (s : S1) (N q : Nat) : Nat := sg (fun m => if gI s 18444 (Int32.ofNat m) = Int32.ofNat q then 1 else 0) N
def lf (s : S1) (d q : Nat) : Nat := sg (fun e => if gA s 109 0 (Int32.ofNat e) = Int32.ofNat q then (gA s 110 0 (Int32.ofNat e)).toNatClampNeg else 0) d
/-- how many prototypes each holds, and which are still to come -/
def Tr (s : S1) (N d : Nat) : Prop := (∀ e, e < d → (0 ≤ (gA s 109 0 (Int32.ofNat e)).toInt ∧ (gA s 109 0 (Int32.ofNat e)).toInt < N) ∧ 0 ≤ (gA s 110 0 (Int32.ofNat e)).toInt) ∧ ∀ q, q < N → cnt s N q + lf s d q = (gI s 18442 (Int32.ofNat q)).toNatClampNeg
theorem oI {k : Nat} (h : k < 2147483648) : (Int32.ofNat k).toInt = k := ofNat_toInt h
theorem oinj {a b : Nat} (ha : a < 2147483648) (hb : b < 2147483648) (h : Int32.ofNat a = Int32.ofNat b) : a = b := by
  have e := congrArg Int32.toInt h
  rw [oI ha, oI hb] at e
  omega
theorem of_toInt {x : Int32} {k : Nat} (h : x.toInt = k) : x = Int32.ofNat k := toInt_inj (by rw [h, oI]; have := Int32.toInt_lt x; omega)
def wfI (s : S1) (d : Nat) (y : Int32) (t : S1) : Prop := t = s ∧ ∃ k : Nat, y.toInt = k ∧ k ≤ d ∧ ∀ q, lf s k q = lf s d q
def wfP (s : S1) (d : Nat) (y : Int32) (t : S1) : Prop := t = s ∧ ∃ k : Nat, y.toInt = k ∧ k ≤ d ∧ (∀ q, lf s k q = lf s d q) ∧ (0 < k → gA s 110 0 (Int32.ofNat (k - 1)) ≠ 0)
theorem lf_s (s : S1) (k q : Nat) : lf s (k + 1) q = lf s k q + (if gA s 109 0 (Int32.ofNat k) = Int32.ofNat q then (gA s 110 0 (Int32.ofNat k)).toNatClampNeg else 0) := rfl
theorem ym {y : Int32} {k : Nat} (h : y.toInt = k) (p : 0 < k) (hk : k ≤ 1000) : (y + -1).toInt = ((k - 1 : Nat) : Int) ∧ (y + -1).toInt.toNat < y.toInt.toNat ∧ (y - 1).toInt = ((k - 1 : Nat) : Int) := by
  have a : (y + -1).toInt = y.toInt - 1 := l_m1 (by omega)
  have e1 : (1 : Int32).toInt = 1 := rfl
  have b : (y - 1).toInt = y.toInt - 1 := by rw [ktI_sub] <;> omega
  generalize y + -1 = z at a
  generalize y - 1 = w at b
  omega
theorem full_ok {s : S1} {d : Nat} {x : Int32} (hx : x.toInt = d) (hd : d ≤ 20) : ok (M_Ch_withoutFullOnes x) s (wfP s d) := by
  have e0 : (0 : Int32).toInt = 0 := rfl
  have e20 : (20 : Int32).toInt = 20 := rfl
  simp only [M_Ch_withoutFullOnes, ok_B, ok_C, ok_R, ok_L, ok_K, ok_GI, ok_GL, ok_PI, ok_PL, ok_AI, ok_AL, ok_SI, ok_SL, ok_CI, cmp_lt, cmp_le, cmp_gt, cmp_ge, cmp_eq, nar0, nar1, Sum.elim_inl, Sum.elim_inr, ok_PzT, ok_PzC, ok_PzP, ok_PrC, ok_PrP, ok_PrF, ok_PrN, ok_Ln, ok_CL, ok_Nw, ok_S, ok_Ks, ok_Nz]
  refine ok_W (wfI s d) (fun y _ => y.toInt.toNat) ?_ x s ⟨rfl, d, hx, Nat.le_refl _, fun _ => rfl⟩
  rintro y t ⟨et, k, ky, kd, kl⟩
  rw [et]
  simp only [M_Ch_withoutFullOnes_L2, ok_B, ok_C, ok_R, ok_L, ok_K, ok_GI, ok_GL, ok_PI, ok_PL, ok_AI, ok_AL, ok_SI, ok_SL, ok_CI, cmp_lt, cmp_le, cmp_gt, cmp_ge, cmp_eq, nar0, nar1, Sum.elim_inl, Sum.elim_inr, ok_PzT, ok_PzC, ok_PzP, ok_PrC, ok_PrP, ok_PrF, ok_PrN, ok_Ln, ok_CL, ok_Nw, ok_S, ok_Ks, ok_Nz]
  refine ⟨fun c => ⟨rfl, k, ky, kd, kl, fun z => ?_⟩, fun c => ?_⟩
  · rw [i32_le] at c
    omega
  · rw [i32_le] at c
    have kp : 0 < k := by omega
    obtain ⟨m1, m2, m3⟩ := ym ky kp (by omega)
    have ey : y - 1 = Int32.ofNat (k - 1) := of_toInt m3
    rw [ey]
    have er := oI (k := k - 1) (by omega)
    refine ⟨⟨by rw [i32_le, er]; omega, by rw [i32_lt, er]; omega⟩, fun z => ⟨⟨rfl, k - 1, m1, by omega, fun q => ?_⟩, m2⟩, fun z => ⟨rfl, k, ky, kd, kl, fun _ => z⟩⟩
    rw [← kl q]
    have w := lf_s s (k - 1) q
    rw [z, show k - 1 + 1 = k by omega] at w
    rw [w]
    have : (if gA s 109 0 (Int32.ofNat (k - 1)) = Int32.ofNat q then (0 : Int32).toNatClampNeg else 0) = 0 := by
      split <;> rfl
    rw [this, Nat.add_zero]
theorem Bz.eq {s t : S1} {n : Nat × Nat} (h : Bz s n) (g : ∀ f j, gI t f j = gI s f j) (a : ∀ j, cTl t j = cTl s j) : Bz t n := ⟨cRo.fi (x := 0) h.1 (fun f j _ => g f j) (fun j _ => a j), h.2.congr (fun f j _ => g f j)⟩
theorem Rg.eq {s t : S1} {N : Int} (h : Rg s N) (g : ∀ f j, gI t f j = gI s f j) (a : ∀ b j k, b ≠ 109 ∧ b ≠ 110 → gA t b j k = gA s b j k) (bb : ∀ b j k, gB t b j k = gB s b j k) : Rg t N := by
  obtain ⟨a0, c0, u0, pd, vc⟩ := h
  have cc : rC t = rC s ∧ rK t = rK s ∧ rU t = rU s := ⟨by unfold rC; rw [g], by unfold rK; rw [g], by unfold rU; rw [g]⟩
  refine ⟨a0.of (g _ _) (g _ _), by rw [cc.1, cc.2.1]; exact c0, by rw [cc.2.2]; exact u0, fun q x y => (pd q x y).eq (fun f j _ _ => g f j) (fun k _ _ => a _ _ _ (by decide)) ⟨by rw [cc.1]; exact Int.le_refl _, by rw [cc.2.1]; exact Int.le_refl _, by rw [cc.2.2]; exact Int.le_refl _⟩, fun k x y => ?_⟩
  rw [cc.1] at y
  exact (vc k x y).eq (a _ _ _ (by decide)) (bb _ _ _)
/-- the reading's loop -/
def raI (y : Int32 × Int32 × (Nat × Nat)) (t : S1) : Prop := ∃ d N : Nat, y.1.toInt = d ∧ y.2.1.toInt = N ∧ d ≤ 20 ∧ N ≤ 250 ∧ (N = 0 → d = 0) ∧ Bz t y.2.2 ∧ Rg t N ∧ Tr t N d ∧ (gI t 12937 0).toInt = N
def raD (t : S1) : Prop := ∃ N : Nat, 1 ≤ N ∧ N ≤ 250 ∧ Rg t N ∧ Tr t N 0 ∧ (gI t 12937 0).toInt = N
def raP (e : (Nat × Nat) ⊕ (Nat × Nat) ⊕ (Nat × Nat) ⊕ (Nat × Nat)) (t : S1) : Prop := Sum.elim (fun m => Bz t m ∧ raD t) (Sum.elim (fun m => Bz t m) (Sum.elim (fun m => Bz t m) (fun m => Bz t m))) e
/-- one more is noted -/
theorem tr_step {s u T : S1} {N d : Nat} {ar : Int32} (tr : Tr s N d) (hN : N < 250) (hd : d < 20) (gar : ∀ m, m < N → gI u 18444 (Int32.ofNat m) = gI s 18444 (Int32.ofNat m)) (gnh : ∀ m, m < N → gI u 18442 (Int32.ofNat m) = gI s 18442 (Int32.ofNat m)) (ug : ∀ q : Nat, q ≤ N → (gI u 18444 (Int32.ofNat q)).toInt < q) (far : gI u 18444 (Int32.ofNat N) = ar) (u9 : ∀ e, gA u 109 0 e = gA s 109 0 e) (u10 : ∀ e, gA u 110 0 e = gA s 110 0 e) (hnn : 0 ≤ (gI u 18442 (Int32.ofNat N)).toInt)
    (hc : (d = 0 ∧ N = 0) ∨ (0 < d ∧ ar = gA s 109 0 (Int32.ofNat (d - 1)) ∧ gA s 110 0 (Int32.ofNat (d - 1)) ≠ 0))
    (TI : ∀ f j, gI T f j = gI u f j) (T9 : ∀ e, gA T 109 0 e = if e = Int32.ofNat d then Int32.ofNat N else gA u 109 0 e) (T10 : ∀ e, gA T 110 0 e = if e = Int32.ofNat d then gI u 18442 (Int32.ofNat N) else if 0 < d ∧ e = Int32.ofNat (d - 1) then gA u 110 0 e - 1 else gA u 110 0 e) : Tr T (N + 1) (d + 1) := by
  have e1 : (1 : Int32).toInt = 1 := rfl
  have e0 : (0 : Int32).toInt = 0 := rfl
  have ne : ∀ e, e < d → Int32.ofNat e ≠ Int32.ofNat d := fun e h z => by
    have := oinj (by omega) (by omega) z
    omega
  obtain ⟨t1, t2⟩ := tr
  have lpos : 0 < d → 1 ≤ (gA s 110 0 (Int32.ofNat (d - 1))).toInt := fun z => by
    rcases hc with q | q
    · omega
    · have := (t1 (d - 1) (by omega)).2
      have : (gA s 110 0 (Int32.ofNat (d - 1))).toInt ≠ 0 := fun y => q.2.2 (toInt_inj y)
      omega
  have sub1 : 0 < d → (gA s 110 0 (Int32.ofNat (d - 1)) - 1).toInt = (gA s 110 0 (Int32.ofNat (d - 1))).toInt - 1 := fun z => by
    have := lpos z
    have := Int32.toInt_lt (gA s 110 0 (Int32.ofNat (d - 1)))
    rw [ktI_sub] <;> omega
  refine ⟨fun e he => ?_, fun q hq => ?_⟩
  · rw [T9, T10]
    by_cases z : e = d
    · rw [z, if_pos rfl, if_pos rfl, oI (by omega)]
      exact ⟨⟨by omega, by omega⟩, hnn⟩
    · have el : e < d := by omega
      rw [if_neg (ne e el), if_neg (ne e el), u9, u10]
      have w := t1 e el
      refine ⟨⟨w.1.1, by omega⟩, ?_⟩
      by_cases y : 0 < d ∧ Int32.ofNat e = Int32.ofNat (d - 1)
      · rw [if_pos y, y.2, sub1 y.1]
        have := lpos y.1
        omega
      · rw [if_neg y]
        exact w.2
  · -- the counts
    have cT : cnt T (N + 1) q = cnt s N q + (if ar = Int32.ofNat q then 1 else 0) := by
      show sg _ N + (if gI T 18444 (Int32.ofNat N) = Int32.ofNat q then 1 else 0) = _
      rw [TI, far]
      refine congrArg (· + _) (sg_eq N fun m hm => ?_)
      rw [TI, gar m hm]
    have lT : lf T (d + 1) q = lf T d q + (if N = q then (gI u 18442 (Int32.ofNat N)).toNatClampNeg else 0) := by
      show sg _ d + (if gA T 109 0 (Int32.ofNat d) = Int32.ofNat q then (gA T 110 0 (Int32.ofNat d)).toNatClampNeg else 0) = _
      rw [T9, T10, if_pos rfl, if_pos rfl]
      refine congrArg (fun x : Nat => lf T d q + x) ?_
      by_cases z : N = q
      · rw [if_pos z, if_pos (by rw [z])]
      · rw [if_neg z, if_neg (fun y => z (oinj (by omega) (by omega) y))]
    have ld : lf T d q + (if ar = Int32.ofNat q ∧ 0 < d then 1 else 0) = lf s d q := by
      rcases hc with ⟨hd0, -⟩ | ⟨hd0, har, -⟩
      · rw [hd0, if_neg (fun z => absurd z.2 (by omega))]
        rfl
      · have ek : d = (d - 1) + 1 := by omega
        have nd : Int32.ofNat (d - 1) ≠ Int32.ofNat d := ne _ (by omega)
        have head : lf T (d - 1) q = lf s (d - 1) q := sg_eq _ fun e he => by
          have n1 := ne e (by omega)
          have n2 : ¬ (0 < d ∧ Int32.ofNat e = Int32.ofNat (d - 1)) := fun z => by
            have := oinj (by omega) (by omega) z.2
            omega
          rw [T9, T10, if_neg n1, if_neg n1, if_neg n2, u9, u10]
        have l1 : lf T d q = lf T (d - 1) q + (if gA T 109 0 (Int32.ofNat (d - 1)) = Int32.ofNat q then (gA T 110 0 (Int32.ofNat (d - 1))).toNatClampNeg else 0) := by
          rw [ek]
          rfl
        have l2 : lf s d q = lf s (d - 1) q + (if gA s 109 0 (Int32.ofNat (d - 1)) = Int32.ofNat q then (gA s 110 0 (Int32.ofNat (d - 1))).toNatClampNeg else 0) := by
          rw [ek]
          rfl
        rw [l1, l2, head, T9, T10, if_neg nd, if_neg nd, if_pos (show 0 < d ∧ Int32.ofNat (d - 1) = Int32.ofNat (d - 1) from ⟨hd0, rfl⟩), u9, u10, ← har]
        have c1 := clampI (x := gA s 110 0 (Int32.ofNat (d - 1))) (by have := lpos hd0; omega)
        have c2 := clampI (x := gA s 110 0 (Int32.ofNat (d - 1)) - 1) (by rw [sub1 hd0]; have := lpos hd0; omega)
        rw [sub1 hd0] at c2
        have := lpos hd0
        by_cases z : ar = Int32.ofNat q
        · rw [if_pos z, if_pos z, if_pos ⟨z, hd0⟩]
          omega
        · rw [if_neg z, if_neg z, if_neg (fun y => z y.1)]
    rw [TI]
    by_cases z : q = N
    · rw [z] at cT lT ld ⊢
      rw [if_pos rfl] at lT
      have c0 : cnt s N N = 0 := by
        have : cnt s N N ≤ N * 0 := sg_bd N fun m hm => by
          rw [if_neg (fun y => ?_)]
          exact Nat.le_refl _
          have w := ug m (by omega)
          rw [gar m hm, y, oI (by omega)] at w
          omega
        omega
      have l0 : lf s d N = 0 := by
        have : lf s d N ≤ d * 0 := sg_bd d fun e he => by
          rw [if_neg (fun y => ?_)]
          exact Nat.le_refl _
          have w := (t1 e he).1.2
          rw [y, oI (by omega)] at w
          omega
        omega
      have a0 : ar ≠ Int32.ofNat N := fun y => by
        have w := ug N (Nat.le_refl _)
        rw [far, y, oI (by omega)] at w
        omega
      rw [if_neg a0] at cT
      rw [if_neg (fun y => a0 y.1)] at ld
      omega
    · have w := t2 q (by omega)
      rw [if_neg (fun y => z y.symm)] at lT
      rw [gnh q (by omega), ← w, cT, lT]
      have am : ar = Int32.ofNat q → 0 < d := fun y => by
        rcases hc with ⟨hd0, hn0⟩ | ⟨hd0, -⟩
        · omega
        · exact hd0
      by_cases y : ar = Int32.ofNat q
      · rw [if_pos ⟨y, am y⟩] at ld
        rw [if_pos y]
        omega
      · rw [if_neg (fun k => y k.1)] at ld
        rw [if_neg y]
        omega
