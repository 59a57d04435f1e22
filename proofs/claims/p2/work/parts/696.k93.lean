/-! The class: reading constants. -/
theorem enc {a z : Int32} (ha : 0 ≤ a.toInt ∧ a.toInt ≤ 65536) (hz : 0 ≤ z.toInt ∧ z.toInt ≤ 65535) : (lushr ((a.toInt64 <<< ((16 : Int32).toInt64 &&& 63)) ||| z.toInt64) 16).toInt32.toInt = a.toInt ∧ (((a.toInt64 <<< ((16 : Int32).toInt64 &&& 63)) ||| z.toInt64) &&& 65535).toInt32.toInt = z.toInt := by
  have i64_nat : ∀ {x : Int64}, x.toBitVec.toNat < 9223372036854775808 → x.toInt = x.toBitVec.toNat := fun {x} h => by
    show x.toBitVec.toInt = _
    rw [BitVec.toInt_eq_toNat_cond, if_pos (by omega)]
  have nat_i64 : ∀ {x : Int64}, 0 ≤ x.toInt → (x.toBitVec.toNat : Int) = x.toInt := fun {x} h => by
    have e : x.toInt = x.toBitVec.toInt := rfl
    rw [e, BitVec.toInt_eq_toNat_cond] at h ⊢
    have l := x.toBitVec.isLt
    by_cases c : 2 * x.toBitVec.toNat < 2 ^ 64
    · rw [if_pos c]
    · rw [if_neg c] at h
      omega
  have ea : a.toInt64.toInt = a.toInt := Int32.toInt_toInt64 _
  have ez : z.toInt64.toInt = z.toInt := Int32.toInt_toInt64 _
  have na := nat_i64 (x := a.toInt64) (by rw [ea]; exact ha.1)
  have nz := nat_i64 (x := z.toInt64) (by rw [ez]; exact hz.1)
  rw [ea] at na
  rw [ez] at nz
  generalize a.toInt64 = A at na
  generalize z.toInt64 = Z at nz
  have n1 : (A <<< ((16 : Int32).toInt64 &&& 63)).toBitVec.toNat = A.toBitVec.toNat <<< 16 := by
    show (A.toBitVec <<< 16).toNat = _
    rw [BitVec.toNat_shiftLeft, Nat.shiftLeft_eq, Nat.mod_eq_of_lt (by omega)]
  have n2 : ((A <<< ((16 : Int32).toInt64 &&& 63)) ||| Z).toBitVec.toNat = A.toBitVec.toNat * 65536 + Z.toBitVec.toNat := by
    rw [Int64.toBitVec_or, BitVec.toNat_or, n1, ← Nat.shiftLeft_add_eq_or_of_lt (by omega), Nat.shiftLeft_eq]
  generalize (A <<< ((16 : Int32).toInt64 &&& 63)) ||| Z = w at n2
  have m1 : (lushr w 16).toBitVec.toNat = A.toBitVec.toNat := by
    have e : (lushr w 16).toBitVec = w.toBitVec >>> 16 := rfl
    rw [e, BitVec.toNat_ushiftRight, Nat.shiftRight_eq_div_pow, n2]
    omega
  have m2 : (w &&& 65535).toBitVec.toNat = Z.toBitVec.toNat := by
    rw [Int64.toBitVec_and, BitVec.toNat_and]
    show w.toBitVec.toNat &&& 65535 = _
    rw [Nat.and_two_pow_sub_one_eq_mod w.toBitVec.toNat 16, n2]
    omega
  have q1 := i64_nat (x := lushr w 16) (by omega)
  have q2 := i64_nat (x := w &&& 65535) (by omega)
  rw [m1] at q1
  rw [m2] at q2
  generalize lushr w 16 = u at q1
  generalize w &&& 65535 = v at q2
  refine ⟨?_, ?_⟩
  · rw [i64n] <;> omega
  · rw [i64n] <;> omega
/-- a constant as it was read -/
def Vc (t : S1) (i : Int32) : Prop := (0 ≤ gA t 105 0 i ∧ gA t 105 0 i ≤ 4) ∧ (gA t 105 0 i = 4 → 0 ≤ (lushr (gB t 106 0 i) 16).toInt32.toInt ∧ 0 ≤ (gB t 106 0 i &&& 65535).toInt32.toInt ∧ (lushr (gB t 106 0 i) 16).toInt32.toInt + (gB t 106 0 i &&& 65535).toInt32.toInt ≤ 65536)
def noF (_ : Nat) : Prop := False
def Kf (s t : S1) : Prop := gI t 12939 0 = gI s 12939 0 ∧ gI t 12940 0 = gI s 12940 0
/-- a constant is written down -/
def coW (k : Int32) (v : Int64) (t T : S1) : Prop := Rl noF 0 t T ∧ Ar T ∧ rC T = rC t + 1 ∧ Kf t T ∧ (gA T 105 0 (gI t 12938 0) = k ∧ gB T 106 0 (gI t 12938 0) = v) ∧ ∀ f j, f / 128 = 144 → gI T f j = gI t f j
theorem co124 {t : S1} {k : Int32} {v : Int64} (a : Ar t) (c0 : 0 ≤ rC t) (c1 : rC t < 20000) (hk : 0 ≤ k ∧ k ≤ 7) : ok (M_Ch_readConstant_j124 k v) t (fun r T => r = 1 ∧ coW k v t T) := by
  have e1 : (1 : Int32).toInt = 1 := rfl
  have e2 : (20000 : Int32).toInt = 20000 := rfl
  have inr_ : 0 ≤ gI t 12938 0 ∧ gI t 12938 0 < 20000 := ⟨by rw [i32_le]; exact c0, by rw [i32_lt]; exact c1⟩
  simp only [M_Ch_readConstant_j124, ok_B, ok_C, ok_R, ok_L, ok_K, ok_GI, ok_GL, ok_PI, ok_PL, ok_AI, ok_AL, ok_SI, ok_SL, ok_CI, cmp_lt, cmp_le, cmp_gt, cmp_ge, cmp_eq, nar0, nar1, Sum.elim_inl, Sum.elim_inr, ok_PzT, ok_PzC, ok_PzP, ok_PrC, ok_PrP, ok_PrF, ok_PrN, ok_Ln, ok_CL, ok_Nw, ok_S, ok_Ks, ok_Nz, n8 hk]
  have key : ∀ T : S1, (∀ f j, gI T f j = if f = 12938 ∧ j = 0 then gI t 12938 0 + 1 else gI t f j) → (∀ f j, gL T f j = gL t f j) → (∀ b j q, gA T b j q = if b = 105 ∧ j = 0 ∧ q = gI t 12938 0 then k else gA t b j q) → (∀ b j q, gB T b j q = if b = 106 ∧ j = 0 ∧ q = gI t 12938 0 then v else gB t b j q) → coW k v t T := fun T TI TL TA TB => by
    have g : ∀ f j, f ≠ 12938 → gI T f j = gI t f j := fun f j q => by rw [TI, if_neg (fun z => q z.1)]
    have gu : rC T = rC t + 1 := by
      show (gI T 12938 0).toInt = _
      rw [TI, if_pos ⟨rfl, rfl⟩, ktI_add]
      · rfl
      · show -2147483648 ≤ rC t + 1 ∧ rC t + 1 < 2147483648
        omega
    refine ⟨⟨fun f j q _ => g f j (fun z => q (by rw [z]; unfold rdX; decide)), TL, fun b j q z => ?_, fun b j q z => ?_, fun q _ _ => ?_, fun q q0 q1 => ⟨?_, ?_⟩, fun q _ _ => ?_, by rw [gu]; omega, ?_, ?_⟩, a.of (g _ _ (by decide)) (g _ _ (by decide)), gu, ⟨g _ _ (by decide), g _ _ (by decide)⟩, ⟨by rw [TA, if_pos ⟨rfl, rfl, rfl⟩], by rw [TB, if_pos ⟨rfl, rfl, rfl⟩]⟩, fun f j q => g f j (by omega)⟩
    · rw [TA, if_neg (fun y => z.2.1 y.1)]
    · rw [TB, if_neg (fun y => z y.1)]
    · rw [TA, if_neg (fun y => absurd y.1 (by decide))]
    · rw [TA, if_neg (fun y => ?_)]
      rw [y.2.2] at q1
      exact absurd q1 (Int.lt_irrefl _)
    · rw [TB, if_neg (fun y => ?_)]
      rw [y.2.2] at q1
      exact absurd q1 (Int.lt_irrefl _)
    · rw [TA, if_neg (fun y => absurd y.1 (by decide))]
    · unfold rK
      rw [g _ _ (by decide)]
      exact Int.le_refl _
    · unfold rU
      rw [g _ _ (by decide)]
      exact Int.le_refl _
  refine ⟨inr_, inr_, trivial, key _ (fun f j => ?_) (fun f j => rfl) (fun b j q => ?_) (fun b j q => ?_)⟩
  · simp only [gI_sI, gI_sA, gI_sB]
  · simp only [gA_sI, gA_sA, gA_sB]
  · simp only [gB_sI, gB_sA, gB_sB, gI_sA]
/-- a constant has been read, or not -/
def coQ1 (s : S1) (v : Int32) (t : S1) : Prop := (Rl noF 0 s t ∧ Ar t ∧ Kf s t ∧ ∀ f j, f / 128 = 144 → gI t f j = gI s f j) ∧ (v = 0 ∨ v = 1) ∧ (v = 0 → rC t = rC s) ∧ (v ≠ 0 → rC t = rC s + 1 ∧ Vc t (gI s 12938 0))
theorem Nn.kf {s t : S1} (h : Nn s t) : Kf s t := ⟨h.at_ 0 (by decide), h.at_ 0 (by decide)⟩
theorem const_ok {s : S1} {k : Int32} (a : Ar s) (c0 : 0 ≤ rC s) (c1 : rC s < 20000) (hk : 0 ≤ k ∧ k ≤ 4) : ok (M_Ch_readConstant k) s (coQ1 s) := by
  have e4 : (4 : Int32).toInt = 4 := rfl
  have e8 : (8 : Int32).toInt = 8 := rfl
  have k7 : 0 ≤ k ∧ k ≤ 7 := ⟨hk.1, by have := hk.2; rw [i32_le] at this ⊢; have e7 : (7 : Int32).toInt = 7 := rfl; omega⟩
  have no : ∀ {w : S1}, Nn s w → Ar w → coQ1 s 0 w := fun {w} n aw => ⟨⟨n.rl _ _, aw, n.kf, fun f j q => n.at_ j (.inl q)⟩, .inl rfl, fun _ => by unfold rC; rw [n.at_ 0 (by decide)], fun z => absurd rfl z⟩
  have rf : ∀ {u : S1} (x y : Int32), Nn s u → Ar u → ok (M_Ch_refuse x y) u (fun v w => (v = 0 ∨ v = 1) ∧ coQ1 s v w) := fun {u} x y n au => by
    refine ok_mono (refuse_ok u x y) ?_
    rintro v w ⟨v0, n2, ea⟩
    rw [v0]
    exact ⟨.inl rfl, no (n.trans n2) (au.of ea (n2.at_ 0 (by decide)))⟩
  have j124 : ∀ {u : S1} (v : Int64), Nn s u → Ar u → (k = 4 → 0 ≤ (lushr v 16).toInt32.toInt ∧ 0 ≤ (v &&& 65535).toInt32.toInt ∧ (lushr v 16).toInt32.toInt + (v &&& 65535).toInt32.toInt ≤ 65536) → ok (M_Ch_readConstant_j124 k v) u (coQ1 s) := fun {u} v n au hv => by
    have ec : gI u 12938 0 = gI s 12938 0 := n.at_ 0 (by decide)
    have er : rC u = rC s := by
      unfold rC
      rw [ec]
    refine ok_mono (co124 (v := v) au (by rw [er]; exact c0) (by rw [er]; exact c1) k7) ?_
    rintro r T ⟨r1, w1, w2, w3, w4, w5, w6⟩
    rw [r1]
    rw [ec] at w5
    refine ⟨⟨(n.rl _ _).trans w1, w2, ⟨w4.1.trans n.kf.1, w4.2.trans n.kf.2⟩, fun f j q => (w6 f j q).trans (n.at_ j (.inl q))⟩, .inr rfl, fun z => absurd z (by decide), fun _ => ⟨by rw [w3, er], ?_⟩⟩
    unfold Vc
    rw [w5.1, w5.2]
    exact ⟨hk, hv⟩
  obtain ⟨a1, a2, a3⟩ := a
  have a : Ar s := ⟨a1, a2, a3⟩
  simp only [M_Ch_readConstant, ok_B, ok_C, ok_R, ok_L, ok_K, ok_GI, ok_GL, ok_PI, ok_PL, ok_AI, ok_AL, ok_SI, ok_SL, ok_CI, cmp_lt, cmp_le, cmp_gt, cmp_ge, cmp_eq, nar0, nar1, Sum.elim_inl, Sum.elim_inr, ok_PzT, ok_PzC, ok_PzP, ok_PrC, ok_PrP, ok_PrF, ok_PrN, ok_Ln, ok_CL, ok_Nw, ok_S, ok_Ks, ok_Nz]
  refine ⟨fun k3 => ⟨fun c => ?_, fun _ => rf _ _ (Nn.refl s) a⟩, fun n3 => ⟨fun k4 => ?_, fun n4 => j124 0 (Nn.refl s) a (fun z => absurd z n4)⟩⟩
  · refine ok_mono (number_ok (.inr (.inr rfl)) a) ?_
    rintro v t ⟨⟨n1, at1, -, -⟩, -⟩
    refine ok_mono (number_ok (.inr (.inr rfl)) at1) ?_
    rintro v2 t2 ⟨⟨n2, at2, -, -⟩, -⟩
    exact j124 _ (n1.trans n2) at2 (fun z => by rw [k3] at z; exact absurd z (by decide))
  · refine ok_mono (number_ok (.inr (.inl rfl)) a) ?_
    rintro v t ⟨⟨n1, at1, vr, -⟩, -⟩
    refine ⟨fun v0 => ?_, fun _ => no n1 at1⟩
    have vb := neg_w vr v0
    obtain ⟨b1, b2, b3⟩ := at1
    have at1 : Ar t := ⟨b1, b2, b3⟩
    have ea : (gI t 12942 0 + v).toInt = rAt t + v.toInt := ktI_add (by show -2147483648 ≤ rAt t + v.toInt ∧ rAt t + v.toInt < 2147483648; omega)
    refine ⟨fun c => ?_, fun _ => rf _ _ n1 at1⟩
    rw [i32_le, ea] at c
    change rAt t + v.toInt ≤ rLn t at c
    have g : ∀ f j, f ≠ 12942 → gI (sI t 12942 0 (gI t 12942 0 + v)) f j = gI t f j := fun f j q => by rw [gI_sI, if_neg (fun z => q z.1)]
    have ga : rAt (sI t 12942 0 (gI t 12942 0 + v)) = rAt t + v.toInt := by
      show (gI (sI t 12942 0 (gI t 12942 0 + v)) 12942 0).toInt = _
      rw [gI_sI, if_pos ⟨rfl, rfl⟩, ea]
    have gl : rLn (sI t 12942 0 (gI t 12942 0 + v)) = rLn t := by
      show (gI _ 12941 0).toInt = _
      rw [g _ _ (by decide)]
    have n2 : Nn t (sI t 12942 0 (gI t 12942 0 + v)) := ⟨fun f j q => g f j (fun z => q (by rw [z]; unfold chX; decide)), rfl⟩
    refine j124 _ (n1.trans n2) ⟨by rw [ga]; omega, by rw [ga, gl]; exact c, by rw [gl]; exact b3⟩ (fun _ => ?_)
    obtain ⟨q1, q2⟩ := enc (a := gI t 12942 0) (z := v) ⟨b1, by show rAt t ≤ 65536; omega⟩ vb
    rw [q1, q2]
    exact ⟨b1, vb.1, by show rAt t + v.toInt ≤ 65536; omega⟩
