/-! The class: bytes put into the working row. -/
def wkI (s : S1) : Prop := 0 ≤ (gI s 14217 0).toInt ∧ ((gI s 14217 0).toInt ≤ 400000 → (gI s 14217 0).toInt ≤ (gI s 15230 0).toInt)
def pbQ (s : S1) (e : Nat × Nat) (k : Int) (r : Unit × (Nat × Nat)) (t : S1) : Prop := wuQ s t ∧ wkI t ∧ cRo t r.2 e ∧ (gI t 14217 0).toInt ≤ (gI s 14217 0).toInt + k
theorem cRo.wu {s t : S1} {n e : Nat × Nat} (R : cRo s n e) (h : wuQ s t) (l : gI t 15230 0 = gI s 15230 0) (l' : gI t 15230 = gI s 15230 ∨ True) : cRo t n e := by
  obtain ⟨al, a, b, c, hw, r⟩ := R
  have T : ∀ j, cTl t j = cTl s j := fun j => h.2.2.1 _ _ _ (by decide)
  refine ⟨?_, a, b, c, ?_, ?_⟩
  · unfold cAl at al ⊢
    rw [T, T, T, T, l, h.1 14220 _ (by unfold wuX; decide)]
    exact al
  · unfold cHw at hw ⊢
    simp only [h.1 18687 _ (by unfold wuX; decide), h.1 18559 _ (by unfold wuX; decide), h.1 19071 _ (by unfold wuX; decide), h.1 18815 _ (by unfold wuX; decide), h.1 18943 _ (by unfold wuX; decide), h.1 18942 _ (by unfold wuX; decide), h.1 18814 _ (by unfold wuX; decide)]
    exact hw
  · unfold cNd at r ⊢
    rw [T, T, T, l]
    exact r
theorem cRo.wl {s : S1} {n e : Nat × Nat} (R : cRo s n e) : 1024 ≤ (gI s 15230 0).toInt ∧ (gI s 15230 0).toInt ≤ 400000 := R.1.2.2.2.1
theorem cRo.ln {s : S1} {n e : Nat × Nat} (R : cRo s n e) : Int32.ofNat (lnS s 118 0) = gI s 15230 0 := (wk_ln s (by have := R.wl; omega)).1
theorem putByte_ok {s : S1} {n e : Nat × Nat} (R : cRo s n e) (h : wkI s) (hu : (gI s 14217 0).toInt ≤ 100000000) (b : Int32) : ok (M_He_putByte n b) s (pbQ s e 1) := by
  have e0 : (0 : Int32).toInt = 0 := rfl
  have e1 : (1 : Int32).toInt = 1 := rfl
  have e2 : (2 : Int32).toInt = 2 := rfl
  have e4 : (400000 : Int32).toInt = 400000 := rfl
  have j67 : ∀ t m, wuQ s t → cRo t m e → gI t 14217 0 = gI s 14217 0 → ((gI s 14217 0).toInt < 400000 → (gI s 14217 0).toInt < (gI t 15230 0).toInt) → ok (M_He_putByte_j67 m) t (pbQ s e 1) := fun t m w r et hl => by
    have ek : (gI s 14217 0 + 1).toInt = (gI s 14217 0).toInt + 1 := by
      have := h.1
      rw [ktI_add] <;> omega
    simp only [M_He_putByte_j67, ok_B, ok_C, ok_R, ok_L, ok_K, ok_GI, ok_GL, ok_PI, ok_PL, ok_AI, ok_AL, ok_SI, ok_SL, ok_CI, cmp_lt, cmp_le, cmp_gt, cmp_ge, cmp_eq, nar0, nar1, Sum.elim_inl, Sum.elim_inr, ok_PzT, ok_PzC, ok_PzP, ok_PrC, ok_PrP, ok_PrF, ok_PrN, ok_Ln, ok_CL, ok_Nw, ok_S, ok_Ks, ok_Nz]
    rw [et]
    have g : ∀ f j, f ≠ 14217 → gI (sI t 14217 0 (gI s 14217 0 + 1)) f j = gI t f j := fun f j q => by rw [gI_sI, if_neg (fun z => q z.1)]
    have gu : gI (sI t 14217 0 (gI s 14217 0 + 1)) 14217 0 = gI s 14217 0 + 1 := by rw [gI_sI, if_pos ⟨rfl, rfl⟩]
    have w2 : wuQ t (sI t 14217 0 (gI s 14217 0 + 1)) := ⟨fun f j q => g f j (fun z => q (by unfold wuX; omega)), fun _ _ => rfl, fun _ _ _ _ => rfl, fun _ _ _ _ => rfl⟩
    refine ⟨w.trans w2, ⟨by rw [gu, ek]; have := h.1; omega, fun z => ?_⟩, r.wu w2 (g _ _ (by decide)) (.inr trivial), by rw [gu, ek]; exact Int.le_refl _⟩
    rw [gu, ek] at z ⊢
    rw [g _ _ (by decide)]
    have := hl (by omega)
    omega
  have j44 : ∀ t m, wuQ s t → cRo t m e → gI t 14217 0 = gI s 14217 0 → ((gI s 14217 0).toInt < 400000 → (gI s 14217 0).toInt < (gI t 15230 0).toInt) → ok (M_He_putByte_j44 b m) t (pbQ s e 1) := fun t m w r et hl => by
    simp only [M_He_putByte_j44, ok_B, ok_C, ok_R, ok_L, ok_K, ok_GI, ok_GL, ok_PI, ok_PL, ok_AI, ok_AL, ok_SI, ok_SL, ok_CI, cmp_lt, cmp_le, cmp_gt, cmp_ge, cmp_eq, nar0, nar1, Sum.elim_inl, Sum.elim_inr, ok_PzT, ok_PzC, ok_PzP, ok_PrC, ok_PrP, ok_PrF, ok_PrN, ok_Ln, ok_CL, ok_Nw, ok_S, ok_Ks, ok_Nz]
    rw [r.ln, et]
    refine ⟨fun _ => j67 t m w r et hl, fun c => ⟨⟨by rw [i32_le]; exact h.1, by rw [i32_lt]; rw [i32_le] at c; omega⟩, ?_⟩⟩
    have w2 : wuQ t (sA t 118 0 (gI s 14217 0) b.toInt8.toInt32.toInt8.toInt32) := ⟨fun _ _ _ => rfl, fun _ _ => rfl, fun a j k q => by rw [gA_sA, if_neg (fun z => q.1 z.1)], fun _ _ _ _ => rfl⟩
    exact j67 _ m (w.trans w2) (r.wu w2 rfl (.inr trivial)) et hl
  have wl := R.wl
  simp only [M_He_putByte, ok_B, ok_C, ok_R, ok_L, ok_K, ok_GI, ok_GL, ok_PI, ok_PL, ok_AI, ok_AL, ok_SI, ok_SL, ok_CI, cmp_lt, cmp_le, cmp_gt, cmp_ge, cmp_eq, nar0, nar1, Sum.elim_inl, Sum.elim_inr, ok_PzT, ok_PzC, ok_PzP, ok_PrC, ok_PrP, ok_PrF, ok_PrN, ok_Ln, ok_CL, ok_Nw, ok_S, ok_Ks, ok_Nz]
  rw [R.ln]
  refine ⟨fun c => ⟨fun d => ?_, fun d => ?_⟩, fun c => ?_⟩
  · rw [i32_le] at d
    exact j44 s n (wuQ.refl s) R rfl (fun z => by omega)
  · rw [i32_le] at d
    have cl : (gI s 14217 0).toInt = (gI s 15230 0).toInt := by rw [c]
    have em : ((2 : Int32) * gI s 15230 0).toInt = 2 * (gI s 15230 0).toInt := by
      rw [Int32.toInt_mul, e2]
      exact Int.bmod_eq_of_le (by omega) (by omega)
    refine ok_mono (kmin_ok _ _ _) ?_
    rintro v u ⟨eu, v0, v1, v2⟩
    subst eu
    rw [em] at v2
    have vv : v.toInt = 400000 ∨ v.toInt = 2 * (gI u 15230 0).toInt := by
      rcases v0 with z | z
      · left
        rw [z]
        rfl
      · right
        rw [z, em]
    have al := R.1
    obtain ⟨-, a, b', c', hw, r1, r2⟩ := R
    have g := cWk_grow (w := (gI u 15230 0).toInt.toNat) (v := v.toInt.toNat) (by omega) (by omega) (by omega) (by omega)
    unfold cNd at r1 r2
    dsimp only at r1 r2
    refine ok_mono (copyW_ok n (by omega) (by omega) (by omega) (by omega) (by omega)) ?_
    rintro q t ⟨eq, nb⟩
    obtain ⟨-, g2, ⟨g3, g4, g5⟩, g6⟩ := grow_w (e := e) ⟨al, a, b', c', hw, by unfold cNd; exact r1, by unfold cNd; exact r2⟩ (by omega) (by omega) (by omega) (by omega) nb
    rw [eq]
    refine ⟨rfl, g2, ?_⟩
    refine j44 _ _ g3 g6 g4 (fun z => ?_)
    rw [g5]
    omega
  · have cc : (gI s 14217 0).toInt ≠ (gI s 15230 0).toInt := fun z => c (toInt_inj z)
    refine j44 s n (wuQ.refl s) R rfl (fun z => ?_)
    have := h.2 (by omega)
    omega
theorem putBytes_ok {s : S1} {n e : Nat × Nat} {x : Int32} (R : cRo s n e) (h : wkI s) (hu : (gI s 14217 0).toInt ≤ 100000000) (hx : lnS s 146 x ≤ 400000) : ok (M_He_putBytes n x) s (pbQ s e 400000) := by
  have e0 : (0 : Int32).toInt = 0 := rfl
  have e2 : (2 : Int32).toInt = 2 := rfl
  have e4 : (400000 : Int32).toInt = 400000 := rfl
  have el := len_toInt hx
  have hu0 := h.1
  have es : (gI s 14217 0 + Int32.ofNat (lnS s 146 x)).toInt = (gI s 14217 0).toInt + lnS s 146 x := by rw [ktI_add, el] <;> omega
  have wl := R.wl
  have j65 : ∀ t m, wuQ s t → cRo t m e → ((gI s 14217 0).toInt + lnS s 146 x ≤ 400000 → (gI s 14217 0).toInt + lnS s 146 x ≤ (gI t 15230 0).toInt) → ok (M_He_putBytes_j65 (gI s 14217 0 + Int32.ofNat (lnS s 146 x)) m) t (pbQ s e 400000) := fun t m w r hl => by
    simp only [M_He_putBytes_j65, ok_B, ok_C, ok_R, ok_L, ok_K, ok_GI, ok_GL, ok_PI, ok_PL, ok_AI, ok_AL, ok_SI, ok_SL, ok_CI, cmp_lt, cmp_le, cmp_gt, cmp_ge, cmp_eq, nar0, nar1, Sum.elim_inl, Sum.elim_inr, ok_PzT, ok_PzC, ok_PzP, ok_PrC, ok_PrP, ok_PrF, ok_PrN, ok_Ln, ok_CL, ok_Nw, ok_S, ok_Ks, ok_Nz]
    generalize gI s 14217 0 + Int32.ofNat (lnS s 146 x) = v at es ⊢
    have g : ∀ f j, f ≠ 14217 → gI (sI t 14217 0 v) f j = gI t f j := fun f j q => by rw [gI_sI, if_neg (fun z => q z.1)]
    have gu : gI (sI t 14217 0 v) 14217 0 = v := by rw [gI_sI, if_pos ⟨rfl, rfl⟩]
    have w2 : wuQ t (sI t 14217 0 v) := ⟨fun f j q => g f j (fun z => q (by unfold wuX; omega)), fun _ _ => rfl, fun _ _ _ _ => rfl, fun _ _ _ _ => rfl⟩
    refine ⟨w.trans w2, ⟨by rw [gu, es]; omega, fun z => ?_⟩, r.wu w2 (g _ _ (by decide)) (.inr trivial), by rw [gu, es]; omega⟩
    rw [gu, es] at z ⊢
    rw [g _ _ (by decide)]
    exact hl z
  have j50 : ∀ t m, wuQ s t → cRo t m e → gI t 14217 0 = gI s 14217 0 → (gI s 14217 0).toInt + lnS s 146 x ≤ (gI t 15230 0).toInt → ok (M_He_putBytes_j50 x (gI s 14217 0 + Int32.ofNat (lnS s 146 x)) m) t (pbQ s e 400000) := fun t m w r et hl => by
    have rl := r.wl
    have ex : lnS t 146 x = lnS s 146 x := by
      show (gI t 18814 x).toNatClampNeg = (gI s 18814 x).toNatClampNeg
      rw [w.1 _ _ (by unfold wuX; decide)]
    simp only [M_He_putBytes_j50, ok_B, ok_C, ok_R, ok_L, ok_K, ok_GI, ok_GL, ok_PI, ok_PL, ok_AI, ok_AL, ok_SI, ok_SL, ok_CI, cmp_lt, cmp_le, cmp_gt, cmp_ge, cmp_eq, nar0, nar1, Sum.elim_inl, Sum.elim_inr, ok_PzT, ok_PzC, ok_PzP, ok_PrC, ok_PrP, ok_PrF, ok_PrN, ok_Ln, ok_CL, ok_Nw, ok_S, ok_Ks, ok_Nz]
    rw [r.ln, et, ex]
    have z1 : (Int32.ofNat (lnS s 146 x) - 0).toInt = lnS s 146 x := by rw [ktI_sub, el] <;> omega
    have z2 : (gI t 15230 0 - gI s 14217 0).toInt = (gI t 15230 0).toInt - (gI s 14217 0).toInt := by rw [ktI_sub] <;> omega
    refine ⟨⟨by decide, by rw [i32_le]; omega, by rw [i32_le]; omega, by rw [i32_le]; omega, by rw [i32_le]; omega, by rw [i32_le]; omega, by rw [i32_le]; omega⟩, ?_⟩
    generalize cpI t 146 x 118 0 0 (gI s 14217 0) (Int32.ofNat (lnS s 146 x)) = q
    have w2 : wuQ t (sAf t 118 0 q) := ⟨fun _ _ _ => rfl, fun _ _ => rfl, fun a j k y => by rw [gA_sAf, if_neg (fun z => y.1 z.1)], fun _ _ _ _ => rfl⟩
    exact j65 _ m (w.trans w2) (r.wu w2 rfl (.inr trivial)) (fun _ => hl)
  simp only [M_He_putBytes, ok_B, ok_C, ok_R, ok_L, ok_K, ok_GI, ok_GL, ok_PI, ok_PL, ok_AI, ok_AL, ok_SI, ok_SL, ok_CI, cmp_lt, cmp_le, cmp_gt, cmp_ge, cmp_eq, nar0, nar1, Sum.elim_inl, Sum.elim_inr, ok_PzT, ok_PzC, ok_PzP, ok_PrC, ok_PrP, ok_PrF, ok_PrN, ok_Ln, ok_CL, ok_Nw, ok_S, ok_Ks, ok_Nz]
  rw [R.ln]
  refine ⟨fun c => ?_, fun c => ⟨fun d => ?_, fun d => ?_⟩⟩
  · rw [i32_lt] at c
    exact j65 s n (wuQ.refl s) R (fun z => by omega)
  · rw [i32_le] at d
    exact j50 s n (wuQ.refl s) R rfl (by omega)
  · rw [i32_lt] at c
    rw [i32_le] at d
    have em : ((2 : Int32) * gI s 15230 0).toInt = 2 * (gI s 15230 0).toInt := by
      rw [Int32.toInt_mul, e2]
      exact Int.bmod_eq_of_le (by omega) (by omega)
    refine ok_mono (kmax_ok _ _ _) ?_
    rintro w u ⟨eu, w0, w1, w2⟩
    subst eu
    rw [em] at w2
    refine ok_mono (kmin_ok _ _ _) ?_
    rintro v t ⟨et, v0, v1, v2⟩
    subst et
    have vv : v.toInt = 400000 ∨ v.toInt = w.toInt := by
      rcases v0 with z | z
      · left
        rw [z]
        rfl
      · right
        rw [z]
    have al := R.1
    obtain ⟨-, a, b', c', hw, r1, r2⟩ := R
    have g := cWk_grow (w := (gI t 15230 0).toInt.toNat) (v := v.toInt.toNat) (by omega) (by omega) (by omega) (by omega)
    unfold cNd at r1 r2
    dsimp only at r1 r2
    refine ok_mono (copyW_ok n (by omega) (by omega) (by omega) (by omega) (by omega)) ?_
    rintro q p ⟨eq, nb⟩
    obtain ⟨-, g2, ⟨g3, g4, g5⟩, g6⟩ := grow_w (e := e) ⟨al, a, b', c', hw, by unfold cNd; exact r1, by unfold cNd; exact r2⟩ (by omega) (by omega) (by omega) (by omega) nb
    rw [eq]
    refine ⟨rfl, g2, ?_⟩
    refine j50 _ _ g3 g6 g4 ?_
    rw [g5]
    omega
theorem d10 {p : Int64} (h : 0 ≤ p.toInt) : (p / 10).toInt = p.toInt / 10 := by
  rw [Int64.toInt_div, show (10 : Int64).toInt = 10 from rfl, Int.tdiv_eq_ediv_of_nonneg h]
  have := Int64.toInt_lt p
  exact Int.bmod_eq_of_le (by omega) (by omega)
theorem m10 {p : Int64} (h : 0 ≤ p.toInt) (h1 : p.toInt ≤ 100000000000000000) : (p * 10).toInt = p.toInt * 10 := by
  rw [Int64.toInt_mul, show (10 : Int64).toInt = 10 from rfl]
  exact Int.bmod_eq_of_le (by omega) (by omega)
def t10 (p : Int) (k : Nat) : Prop := k ≤ 18 ∧ p = 10 ^ k
theorem p10 (k : Nat) : 1 ≤ (10 : Int) ^ k := by
  induction k with
  | zero => exact Int.le_refl _
  | succ k ih =>
    rw [Int.pow_succ]
    omega
theorem p10m (k d : Nat) : (10 : Int) ^ k ≤ 10 ^ (k + d) := by
  induction d with
  | zero => exact Int.le_refl _
  | succ d ih =>
    have := p10 (k + d)
    rw [← Nat.add_assoc, Int.pow_succ]
    omega
theorem t10.lt {p : Int} {k : Nat} (h : t10 p k) : 1 ≤ p ∧ (p < 1000000000000000000 → p ≤ 100000000000000000 ∧ t10 (p * 10) (k + 1)) ∧ (1 ≤ k → t10 (p / 10) (k - 1)) ∧ (k = 0 → p = 1) := by
  obtain ⟨h1, rfl⟩ := h
  refine ⟨p10 k, fun z => ?_, fun z => ⟨by omega, ?_⟩, fun z => by rw [z]; rfl⟩
  · have k17 : k ≤ 17 := Decidable.byContradiction fun y => by
      have : k = 18 := by omega
      rw [this] at z
      exact absurd z (by decide)
    refine ⟨?_, by omega, by rw [Int.pow_succ]⟩
    have := p10m k (17 - k)
    rw [show k + (17 - k) = 17 by omega] at this
    exact this
  · have : k = (k - 1) + 1 := by omega
    rw [this, Int.pow_succ, Int.mul_ediv_cancel _ (by decide)]
    rfl
def pdQ (s : S1) (e : Nat × Nat) (m : Nat × Nat) (l1 : Int64) (y : Int64 × Int64 × (Nat × Nat)) (t : S1) : Prop := t = s ∧ y.1 = l1 ∧ y.2.2 = m ∧ ∃ k, t10 y.2.1.toInt k
theorem putDecimal_ok {s : S1} {n e : Nat × Nat} (R : cRo s n e) (h : wkI s) (hu : (gI s 14217 0).toInt ≤ 90000000) (l1 : Int64) : ok (M_He_putDecimal n l1) s (pbQ s e 20) := by
  have j12 : ∀ t m (k : Int), 0 ≤ k → k ≤ 1 → pbQ s e k ((), m) t → ok (M_He_putDecimal_j12 l1 m) t (pbQ s e 20) := fun t m k k0 k1 ⟨w, hi, r, hk⟩ => by
    simp only [M_He_putDecimal_j12, ok_B, ok_C, ok_R, ok_L, ok_K, ok_GI, ok_GL, ok_PI, ok_PL, ok_AI, ok_AL, ok_SI, ok_SL, ok_CI, cmp_lt, cmp_le, cmp_gt, cmp_ge, cmp_eq, nar0, nar1, Sum.elim_inl, Sum.elim_inr, ok_PzT, ok_PzC, ok_PzP, ok_PrC, ok_PrP, ok_PrF, ok_PrN, ok_Ln, ok_CL, ok_Nw, ok_S, ok_Ks, ok_Nz]
    refine ok_mono (P := pdQ t e m l1) (ok_W (pdQ t e m l1) (fun y _ => (1000000000000000000 - y.2.1.toInt).toNat) ?_ (l1, 1, m) t ⟨rfl, rfl, rfl, 0, by decide, rfl⟩) ?_
    · rintro ⟨a, p, q⟩ u ⟨eu, ea, eq, kk, hkk⟩
      dsimp only at ea eq hkk
      subst eu ea eq
      obtain ⟨l1, l2, l3, l4⟩ := hkk.lt
      simp only [M_He_putDecimal_L14, ok_B, ok_C, ok_R, ok_L, ok_K, ok_GI, ok_GL, ok_PI, ok_PL, ok_AI, ok_AL, ok_SI, ok_SL, ok_CI, cmp_lt, cmp_le, cmp_gt, cmp_ge, cmp_eq, nar0, nar1, Sum.elim_inl, Sum.elim_inr, ok_PzT, ok_PzC, ok_PzP, ok_PrC, ok_PrP, ok_PrF, ok_PrN, ok_Ln, ok_CL, ok_Nw, ok_S, ok_Ks, ok_Nz]
      refine ⟨fun _ => ⟨rfl, rfl, rfl, kk, hkk⟩, fun c => ?_⟩
      rw [i64_le] at c
      have z : p.toInt < 1000000000000000000 := by
        have : (1000000000000000000 : Int64).toInt = 1000000000000000000 := rfl
        omega
      obtain ⟨l5, l6⟩ := l2 z
      have em := m10 (p := p) (by omega) l5
      refine ⟨fun z => ?_, fun _ => ⟨rfl, rfl, rfl, kk, hkk⟩, fun _ => ⟨⟨rfl, rfl, rfl, kk + 1, by rw [em]; exact l6⟩, ?_⟩⟩
      · rw [z] at l1
        exact absurd l1 (by decide)
      · show (1000000000000000000 - (p * 10).toInt).toNat < (1000000000000000000 - p.toInt).toNat
        rw [em]
        omega
    · rintro ⟨a, p, q⟩ u ⟨eu, ea, eq, k', hk'⟩
      dsimp only at ea eq hk'
      subst eu ea eq
      refine ok_mono (P := fun m v => pbQ s e 20 ((), m) v) (ok_W (fun y v => y.1 = a ∧ ((y.2.1.toInt = 0 ∧ pbQ s e 20 ((), y.2.2) v) ∨ ∃ k, t10 y.2.1.toInt k ∧ pbQ s e (19 - k) ((), y.2.2) v)) (fun y _ => y.2.1.toInt.toNat) ?_ (a, p, q) u ⟨rfl, .inr ⟨k', hk', w, hi, r, by have := hk'.1; omega⟩⟩) (fun _ _ z => z)
      rintro ⟨a', p', q'⟩ v ⟨ea, hv⟩
      dsimp only at ea hv
      subst ea
      simp only [M_He_putDecimal_L43, ok_B, ok_C, ok_R, ok_L, ok_K, ok_GI, ok_GL, ok_PI, ok_PL, ok_AI, ok_AL, ok_SI, ok_SL, ok_CI, cmp_lt, cmp_le, cmp_gt, cmp_ge, cmp_eq, nar0, nar1, Sum.elim_inl, Sum.elim_inr, ok_PzT, ok_PzC, ok_PzP, ok_PrC, ok_PrP, ok_PrF, ok_PrN, ok_Ln, ok_CL, ok_Nw, ok_S, ok_Ks, ok_Nz]
      have e0 : (0 : Int64).toInt = 0 := rfl
      refine ⟨fun c => ?_, fun c => ?_⟩
      · rcases hv with hv | ⟨k, hk, -⟩
        · exact hv.2
        · rw [i64_le] at c
          have := hk.lt.1
          omega
      · rw [i64_le] at c
        rcases hv with hv | ⟨k, hk, w', hi', r', hk2⟩
        · omega
        · obtain ⟨l1, l2, l3, l4⟩ := hk.lt
          refine ⟨fun z => by rw [z] at c; exact c (Int.le_refl _), ?_⟩
          have abs : ok (M_Mth_abs (a' / p' - a' / p' / 10 * 10)) v (fun _ s' => s' = v) := by
            simp only [M_Mth_abs, ok_B, ok_C, ok_R, ok_L, ok_K, ok_GI, ok_GL, ok_PI, ok_PL, ok_AI, ok_AL, ok_SI, ok_SL, ok_CI, cmp_lt, cmp_le, cmp_gt, cmp_ge, cmp_eq, nar0, nar1, Sum.elim_inl, Sum.elim_inr, ok_PzT, ok_PzC, ok_PzP, ok_PrC, ok_PrP, ok_PrF, ok_PrN, ok_Ln, ok_CL, ok_Nw, ok_S, ok_Ks, ok_Nz]
            exact ⟨fun _ => trivial, fun _ => trivial⟩
          refine ok_mono abs ?_
          rintro d v' ev
          subst ev
          refine ok_mono (putByte_ok r' hi' (by omega) _) ?_
          rintro rr v2 ⟨w2, hi2, r2, hk3⟩
          have ed := d10 (p := p') (by omega)
          refine ⟨⟨trivial, ?_⟩, by show (p' / 10).toInt.toNat < p'.toInt.toNat; rw [ed]; omega⟩
          by_cases k0 : k = 0
          · left
            rw [ed, l4 k0]
            exact ⟨rfl, w'.trans w2, hi2, r2, by omega⟩
          · right
            refine ⟨k - 1, by rw [ed]; exact l3 (by omega), w'.trans w2, hi2, r2, by omega⟩
  simp only [M_He_putDecimal, ok_B, ok_C, ok_R, ok_L, ok_K, ok_GI, ok_GL, ok_PI, ok_PL, ok_AI, ok_AL, ok_SI, ok_SL, ok_CI, cmp_lt, cmp_le, cmp_gt, cmp_ge, cmp_eq, nar0, nar1, Sum.elim_inl, Sum.elim_inr, ok_PzT, ok_PzC, ok_PzP, ok_PrC, ok_PrP, ok_PrF, ok_PrN, ok_Ln, ok_CL, ok_Nw, ok_S, ok_Ks, ok_Nz]
  refine ⟨fun _ => j12 s n 0 (Int.le_refl _) (by decide) ⟨wuQ.refl s, h, R, by omega⟩, fun _ => ?_⟩
  refine ok_mono (putByte_ok R h (by omega) 45) ?_
  rintro r t q
  exact j12 t r.2 1 (by decide) (Int.le_refl _) q
theorem putText_ok {s : S1} {n m e : Nat × Nat} {k : Int32} {v : Int64} (W : cW s m) (R : cRo s n e) (h : wkI s) (hu : (gI s 14217 0).toInt ≤ 90000000) (hv : cV (cLv false s) k v) : ok (M_St_putText n k v) s (pbQ s e 400000) := by
  simp only [M_St_putText, ok_B, ok_C, ok_R, ok_L, ok_K, ok_GI, ok_GL, ok_PI, ok_PL, ok_AI, ok_AL, ok_SI, ok_SL, ok_CI, cmp_lt, cmp_le, cmp_gt, cmp_ge, cmp_eq, nar0, nar1, Sum.elim_inl, Sum.elim_inr, ok_PzT, ok_PzC, ok_PzP, ok_PrC, ok_PrP, ok_PrF, ok_PrN, ok_Ln, ok_CL, ok_Nw, ok_S, ok_Ks, ok_Nz]
  refine ⟨fun z => ?_, fun _ => ?_⟩
  · rw [z] at hv
    obtain ⟨p, f, l, -⟩ := W.len hv.at4
    refine ⟨p, f, ?_⟩
    refine ok_mono (putBytes_ok R h (by omega) l) ?_
    rintro r t q
    exact q
  · refine ok_mono (putDecimal_ok R h hu v) ?_
    rintro r t ⟨q1, q2, q3, q4⟩
    exact ⟨q1, q2, q3, by omega⟩
