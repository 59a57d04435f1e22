/-! The class: room, and a new place. -/
def cWk (w : Nat) : Nat × Nat := if 400000 ≤ w then (0, 0) else (800000 / w, 1200000 - 2 * w)
/-- the tallies over all loads, and the working row -/
def cAl (s : S1) : Prop := (0 ≤ (cTl s 4).toInt ∧ (cTl s 4).toInt ≤ (cTl s 12).toInt ∧ (cTl s 12).toInt ≤ 60000) ∧ (0 ≤ (cTl s 13).toInt ∧ (cTl s 13).toInt ≤ 300000) ∧ (0 ≤ (cTl s 14).toInt ∧ (cTl s 14).toInt ≤ 400000) ∧ (1024 ≤ (gI s 15230 0).toInt ∧ (gI s 15230 0).toInt ≤ 400000) ∧ (200 ≤ (gI s 14220 0).toInt ∧ (gI s 14220 0).toInt ≤ 4000)
/-- what is there is there in order -/
def cHw (s : S1) (a b c : Nat) : Prop := (a ≤ 4000 ∧ b ≤ 250 ∧ c ≤ 32) ∧ (∀ x, 0 ≤ x → x < 4000 → (gI s 18687 x = 1 ↔ x.toNatClampNeg < a)) ∧ (∀ x, 0 ≤ x → x < 250 → (gI s 18559 x = 1 ↔ x.toNatClampNeg < b)) ∧ (∀ x, 0 ≤ x → x < 32 → (gI s 19071 x = 1 ↔ x.toNatClampNeg < c)) ∧ ∀ x, 0 ≤ x → x < 4000 → (gI s 18687 x ≠ 1 → gI s 18815 x ≠ 1 ∧ gI s 18943 x ≠ 1) ∧ (gI s 18943 x = 1 → 0 ≤ (gI s 18942 x).toInt) ∧ (gI s 18815 x = 1 → 0 ≤ (gI s 18814 x).toInt ∧ (gI s 18814 x).toInt ≤ 400000)
def cNd (s : S1) (a b c : Nat) : Nat × Nat := ((4000 - a) + (250 - b) + 210 * (32 - c) + (60000 - (cTl s 12).toInt.toNat) + (cWk (gI s 15230 0).toInt.toNat).1, 16 * (4000 - a) + 13 * (250 - b) + 20000 * (32 - c) + (400000 - (cTl s 14).toInt.toNat) + (300000 - (cTl s 13).toInt.toNat) + (cWk (gI s 15230 0).toInt.toNat).2)
/-- there is room for all that may still be made, and e more -/
def cRo (s : S1) (n e : Nat × Nat) : Prop := cAl s ∧ ∃ a b c, cHw s a b c ∧ (cNd s a b c).1 + e.1 ≤ n.1 ∧ (cNd s a b c).2 + e.2 ≤ n.2
theorem cRo.gc {s s' : S1} (g : cGc s s') {n e : Nat × Nat} (h : cRo s n e) : cRo s' n e := by
  obtain ⟨h1, a, b, c, h2, h3⟩ := h
  have eI : ∀ f j, f ≠ 18560 ∧ f ≠ 14211 ∧ f ≠ 18565 ∧ f ≠ 18564 ∧ f ≠ 18567 ∧ f ≠ 18950 ∧ f ≠ 18954 ∧ f ≠ 18562 ∧ f ≠ 14219 → gI s' f j = gI s f j := g.1
  have e4 := g.2.2.2.2.1 4 (by decide)
  have e12 := g.2.2.2.2.1 12 (by decide)
  have e13 := g.2.2.2.2.1 13 (by decide)
  have e14 := g.2.2.2.2.1 14 (by decide)
  refine ⟨?_, a, b, c, ?_, ?_⟩
  · unfold cAl at h1 ⊢
    rw [e4, e12, e13, e14, eI 15230 0 (by decide), eI 14220 0 (by decide)]
    exact h1
  · unfold cHw at h2 ⊢
    simp only [eI 18687 _ (by decide), eI 18559 _ (by decide), eI 19071 _ (by decide), eI 18815 _ (by decide), eI 18943 _ (by decide), eI 18942 _ (by decide), eI 18814 _ (by decide)]
    exact h2
  · unfold cNd at h3 ⊢
    rw [e12, e13, e14, eI 15230 0 (by decide)]
    exact h3
theorem isFull_ok (s : S1) (T : Int32) : ok (M_He_isFull T) s (fun r s' => s' = s ∧ (r = 0 → cTl s 3 < gI s 14220 0 ∧ (T = 7 → cTl s 11 < 32))) := by
  simp only [M_He_isFull, M_He_isFull_j31, M_He_isFull_j35, ok_B, ok_C, ok_R, ok_L, ok_K, ok_GI, ok_GL, ok_PI, ok_PL, ok_AI, ok_AL, ok_SI, ok_SL, ok_Pr, ok_CI, cmp_lt, cmp_le, cmp_gt, cmp_ge, cmp_eq, nar0, nar1, Sum.elim_inl, Sum.elim_inr]
  refine ⟨by decide, fun a => ⟨by trivial, fun b => absurd b (by decide)⟩, fun a => ⟨fun b => ⟨by decide, fun c => ⟨by trivial, fun _ => ⟨?_, fun _ => c⟩⟩, fun c => ⟨by trivial, fun b => absurd b (by decide)⟩⟩, fun b => ⟨by trivial, fun _ => ⟨?_, fun q => absurd q b⟩⟩⟩⟩
  · clear b c
    grind
  · clear b
    grind
/-- a new place -/
def cNw (x : Int32) (s s' : S1) : Prop := (((0 ≤ x ∧ x < cN s) ∧ cTy s x = 0 ∧ cN s' = cN s) ∨ (x = cN s ∧ cN s' = cN s + 1)) ∧ pT s' x ∧ (0 ≤ cN s' ∧ cN s' ≤ 4000)
def cTk (x : Int32) (s s' : S1) : Prop := cNw x s s' ∧ (∀ f j, f ≠ 14209 ∧ f ≠ 14211 → (f / 128 ≠ 145 ∨ j ≠ x) → gI s' f j = gI s f j) ∧ (∀ f j, (f / 128 ≠ 145 ∨ j ≠ x) → gL s' f j = gL s f j) ∧ (∀ a j k, gA s' a j k = gA s a j k) ∧ (∀ a j k, gB s' a j k = gB s a j k) ∧ (0 ≤ cFc s' ∧ (cTl s 3).toInt + (cFc s').toInt + 1 = (cN s').toInt) ∧ (∀ i, 0 ≤ i → i < cFc s' → i < cFc s ∧ cFr s i ≠ x)
theorem ofi (x : Int32) : Int32.ofInt x.toInt = x := Int32.ofInt_toInt x
theorem takeSlot_ok {s : S1} {n e : Nat × Nat} (H : cHI s) (R : cRo s n e) (hf : cTl s 3 < gI s 14220 0) : ok (M_He_takeSlot n) s (fun r s' => cTk r.1 s s' ∧ cRo s' r.2 e) := by
  obtain ⟨hN, -, -, hF, -, -⟩ := H
  obtain ⟨R1, a, b, c, R2, R3⟩ := R
  have e0 : (0 : Int32).toInt = 0 := rfl
  have e1 : (1 : Int32).toInt = 1 := rfl
  have e4 : (4000 : Int32).toInt = 4000 := rfl
  have f0 := hF.1.1
  have f1 := hF.1.2
  have n0 := hN.1
  have mo := R1.2.2.2.2
  rw [i32_lt] at hf
  have f0' := f0
  rw [i32_le] at f0'
  have n0' := n0
  rw [i32_le, i32_le] at n0'
  simp only [M_He_takeSlot, ok_B, ok_C, ok_R, ok_L, ok_K, ok_GI, ok_GL, ok_PI, ok_PL, ok_AI, ok_AL, ok_SI, ok_SL, ok_Pr, ok_CI, cmp_lt, cmp_le, cmp_gt, cmp_ge, cmp_eq, nar0, nar1, Sum.elim_inl, Sum.elim_inr, ok_Nz, ok_Ks, ok_Nw, ok_S]
  refine ⟨fun d => ?_, fun d => ?_⟩
  · change cFc s ≤ 0 at d
    rw [i32_le] at d
    have fz : (cFc s).toInt = 0 := by omega
    have sl : (cN s).toInt < 4000 := by omega
    have en : (cN s + 1).toInt = (cN s).toInt + 1 := by
      rw [ktI_add] <;> omega
    have xr : 0 ≤ cN s ∧ cN s < 4000 := by
      rw [i32_le, i32_lt]
      omega
    have eg : gI (sI s 14209 0 (gI s 14209 0 + 1)) 18687 (cN s) = gI s 18687 (cN s) := by
      rw [gI_sI, if_neg (fun w => absurd w.1 (by decide))]
    change (0 ≤ cN s ∧ cN s < 4000) ∧ _
    refine ⟨xr, ?_⟩
    rw [show (128 * 145 + 127 : Nat) = 18687 from rfl]
    rw [show gI (sI s 14209 0 (gI s 14209 0 + 1)) 18687 (gI s 14209 0) = gI s 18687 (cN s) from eg]
    have nw1 : cN (sI s 14209 0 (gI s 14209 0 + 1)) = cN s + 1 := by
      unfold cN
      rw [gI_sI, if_pos ⟨rfl, rfl⟩]
    have al : ∀ t : S1, (∀ f j, f ≠ 14209 ∧ f ≠ 14211 → (f / 128 ≠ 145 ∨ j ≠ cN s) → gI t f j = gI s f j) → (∀ j, cTl t j = cTl s j) → cAl t := fun t h1 h2 => by
      unfold cAl at R1 ⊢
      rw [h2, h2, h2, h2, h1 15230 0 (by decide) (.inl (by decide)), h1 14220 0 (by decide) (.inl (by decide))]
      exact R1
    by_cases q : gI s 18687 (cN s) = 1
    · rw [if_pos q]
      refine ⟨fun w => ?_, fun _ => ?_⟩
      · have := xr.1
        change cN s = -1 at w
        rw [w] at this
        exact absurd this (by decide)
      have eI : ∀ f j, f ≠ 14209 ∧ f ≠ 14211 → (f / 128 ≠ 145 ∨ j ≠ cN s) → gI (sI s 14209 0 (gI s 14209 0 + 1)) f j = gI s f j := fun f j w _ => by
        rw [gI_sI, if_neg (fun z => w.1 z.1)]
      have eI2 : ∀ f j, f ≠ 14209 → gI (sI s 14209 0 (gI s 14209 0 + 1)) f j = gI s f j := fun f j w => by
        rw [gI_sI, if_neg (fun z => w z.1)]
      refine ⟨⟨⟨.inr ⟨rfl, nw1⟩, ⟨xr, eg.trans q⟩, ?_⟩, eI, fun _ _ _ => rfl, fun _ _ _ => rfl, fun _ _ _ => rfl, ⟨?_, ?_⟩, fun i i0 i1 => ?_⟩, al _ eI (fun _ => rfl), a, b, c, ?_, ?_⟩
      · rw [nw1, i32_le, i32_le, en]
        omega
      · rw [show cFc (sI s 14209 0 (gI s 14209 0 + 1)) = cFc s from eI2 _ _ (by decide)]
        exact f0
      · rw [show cFc (sI s 14209 0 (gI s 14209 0 + 1)) = cFc s from eI2 _ _ (by decide), nw1, en]
        omega
      · rw [show cFc (sI s 14209 0 (gI s 14209 0 + 1)) = cFc s from eI2 _ _ (by decide)] at i1
        rw [i32_lt] at i1
        rw [i32_le] at i0
        omega
      · unfold cHw at R2 ⊢
        simp only [eI2 18687 _ (by decide), eI2 18559 _ (by decide), eI2 19071 _ (by decide), eI2 18815 _ (by decide), eI2 18943 _ (by decide), eI2 18942 _ (by decide), eI2 18814 _ (by decide)]
        exact R2
      · unfold cNd at R3 ⊢
        rw [eI2 15230 0 (by decide)]
        exact R3
    · rw [if_neg q]
      refine ⟨fun _ => ?_, fun w => absurd rfl w⟩
      have ax : a = (cN s).toInt.toNat := by
        have w1 : ¬ (cN s).toNatClampNeg < a := fun w => q ((R2.2.1 _ xr.1 xr.2).2 w)
        unfold Int32.toNatClampNeg at w1
        have w2 : ¬ (cN s).toInt.toNat < a → a ≤ (cN s).toInt.toNat := fun w => by omega
        by_cases z : (cN s).toInt.toNat ≤ a
        · omega
        · exfalso
          have la : a < (cN s).toInt.toNat := by omega
          have ea : (Int32.ofNat a).toInt = a := Int32.toInt_ofNat_of_lt (by omega)
          have pa := hN.2 (Int32.ofNat a) (by rw [i32_le, ea]; omega) (by rw [i32_lt, ea]; omega)
          have := (R2.2.1 _ pa.1.1 pa.1.2).1 pa.2
          unfold Int32.toNatClampNeg at this
          omega
      have ab := R2.1
      have nf : nfF 145 = 16 := by decide
      have fl := (R2.2.2.2.2 _ xr.1 xr.2).1 q
      have eI : ∀ f j, f ≠ 14209 ∧ f ≠ 14211 → (f / 128 ≠ 145 ∨ j ≠ cN s) → gI (nwO (sI s 14209 0 (gI s 14209 0 + 1)) 145 (cN s)) f j = gI s f j := fun f j w z => by
        rw [gI_nwO, if_neg (fun v => z.elim (fun u => u v.1) (fun u => u v.2)), gI_sI, if_neg (fun v => w.1 v.1)]
      have eI2 : ∀ f j, f ≠ 14209 → f / 128 ≠ 145 → gI (nwO (sI s 14209 0 (gI s 14209 0 + 1)) 145 (cN s)) f j = gI s f j := fun f j w z => by
        rw [gI_nwO, if_neg (fun v => z v.1), gI_sI, if_neg (fun v => w v.1)]
      have en2 : cN (nwO (sI s 14209 0 (gI s 14209 0 + 1)) 145 (cN s)) = cN s + 1 := by
        unfold cN
        rw [gI_nwO, if_neg (fun v => absurd v.1 (by decide))]
        exact nw1
      have fl3 : ∀ j, gI (nwO (sI s 14209 0 (gI s 14209 0 + 1)) 145 (cN s)) 18687 j = if j = cN s then 1 else gI s 18687 j := fun j => by
        rw [gI_nwO]
        by_cases z : j = cN s
        · rw [if_pos ⟨by decide, z⟩, if_pos (by decide), if_pos z]
        · rw [if_neg (fun v => z v.2), if_neg z, gI_sI, if_neg (fun w => absurd w.1 (by decide))]
      refine ⟨xr, ?_, ?_, ?_⟩
      · unfold gTg
        rw [show gI (sI s 14209 0 (gI s 14209 0 + 1)) 18687 (gI s 14209 0) = gI s 18687 (cN s) from eg, gI_sI, if_neg (fun w => absurd w.1 (by decide)), gI_sI, if_neg (fun w => absurd w.1 (by decide))]
        exact ⟨q, fl⟩
      · unfold cNd at R3
        dsimp only at R3
        rw [nf]
        omega
      · refine ⟨⟨⟨.inr ⟨rfl, en2⟩, ⟨xr, ?_⟩, ?_⟩, eI, fun f j z => ?_, fun _ _ _ => rfl, fun _ _ _ => rfl, ⟨?_, ?_⟩, fun i i0 i1 => ?_⟩, al _ eI (fun _ => rfl), a + 1, b, c, ?_, ?_⟩
        · change gI (nwO (sI s 14209 0 (gI s 14209 0 + 1)) 145 (cN s)) 18687 (cN s) = 1
          rw [fl3, if_pos rfl]
        · change 0 ≤ cN (nwO (sI s 14209 0 (gI s 14209 0 + 1)) 145 (cN s)) ∧ cN (nwO (sI s 14209 0 (gI s 14209 0 + 1)) 145 (cN s)) ≤ 4000
          rw [en2, i32_le, i32_le, en]
          omega
        · change gL (nwO (sI s 14209 0 (gI s 14209 0 + 1)) 145 (cN s)) f j = _
          rw [gL_nwO, if_neg (fun v => z.elim (fun u => u v.1) (fun u => u v.2))]
          rfl
        · change 0 ≤ cFc (nwO (sI s 14209 0 (gI s 14209 0 + 1)) 145 (cN s))
          rw [show cFc (nwO (sI s 14209 0 (gI s 14209 0 + 1)) 145 (cN s)) = cFc s from eI2 _ _ (by decide) (by decide)]
          exact f0
        · change (cTl s 3).toInt + (cFc (nwO (sI s 14209 0 (gI s 14209 0 + 1)) 145 (cN s))).toInt + 1 = (cN (nwO (sI s 14209 0 (gI s 14209 0 + 1)) 145 (cN s))).toInt
          rw [show cFc (nwO (sI s 14209 0 (gI s 14209 0 + 1)) 145 (cN s)) = cFc s from eI2 _ _ (by decide) (by decide), en2, en]
          omega
        · change i < cFc (nwO (sI s 14209 0 (gI s 14209 0 + 1)) 145 (cN s)) at i1
          rw [show cFc (nwO (sI s 14209 0 (gI s 14209 0 + 1)) 145 (cN s)) = cFc s from eI2 _ _ (by decide) (by decide)] at i1
          rw [i32_lt] at i1
          rw [i32_le] at i0
          omega
        · change cHw (nwO (sI s 14209 0 (gI s 14209 0 + 1)) 145 (cN s)) (a + 1) b c
          refine ⟨by omega, fun x x0 x1 => ?_, fun x x0 x1 => ?_, fun x x0 x1 => ?_, fun x x0 x1 => ⟨fun w => ?_, ?_, ?_⟩⟩
          · rw [fl3]
            by_cases z : x = cN s
            · rw [if_pos z, z]
              unfold Int32.toNatClampNeg
              simp only [true_iff]
              omega
            · rw [if_neg z, R2.2.1 x x0 x1]
              have : x.toInt ≠ (cN s).toInt := fun w => z (toInt_inj w)
              rw [i32_le] at x0
              unfold Int32.toNatClampNeg
              omega
          · rw [eI2 _ _ (by decide) (by decide)]
            exact R2.2.2.1 x x0 x1
          · rw [eI2 _ _ (by decide) (by decide)]
            exact R2.2.2.2.1 x x0 x1
          · rw [eI2 _ _ (by decide) (by decide), eI2 _ _ (by decide) (by decide)]
            rw [fl3] at w
            by_cases z : x = cN s
            · rw [if_pos z] at w
              exact absurd rfl w
            · rw [if_neg z] at w
              exact (R2.2.2.2.2 x x0 x1).1 w
          · rw [eI2 _ _ (by decide) (by decide), eI2 _ _ (by decide) (by decide)]
            exact (R2.2.2.2.2 x x0 x1).2.1
          · rw [eI2 _ _ (by decide) (by decide), eI2 _ _ (by decide) (by decide)]
            exact (R2.2.2.2.2 x x0 x1).2.2
        · change (cNd (nwO (sI s 14209 0 (gI s 14209 0 + 1)) 145 (cN s)) (a + 1) b c).1 + e.1 ≤ n.1 - 1 ∧ (cNd (nwO (sI s 14209 0 (gI s 14209 0 + 1)) 145 (cN s)) (a + 1) b c).2 + e.2 ≤ n.2 - nfF 145
          unfold cNd at R3 ⊢
          rw [eI2 15230 0 (by decide) (by decide), nf]
          dsimp only at R3 ⊢
          change _ + 210 * (32 - c) + (60000 - (cTl s 12).toInt.toNat) + _ + _ ≤ _ ∧ _ + (400000 - (cTl s 14).toInt.toNat) + (300000 - (cTl s 13).toInt.toNat) + _ + _ ≤ _
          omega
  · change ¬ cFc s ≤ 0 at d
    rw [i32_le] at d
    have hle := hF.le hN
    rw [i32_le] at hle
    have em : (cFc s - 1).toInt = (cFc s).toInt - 1 := by
      rw [ktI_sub] <;> omega
    have efc : gI (sI s 14211 0 (gI s 14211 0 - 1)) 14211 0 = cFc s - 1 := by
      rw [gI_sI, if_pos ⟨rfl, rfl⟩]
    rw [efc]
    have ri : 0 ≤ cFc s - 1 ∧ cFc s - 1 < 4000 := by
      rw [i32_le, i32_lt, em]
      omega
    have lt : cFc s - 1 < cFc s := by
      rw [i32_lt, em]
      omega
    obtain ⟨g1, g2⟩ := hF.2.1 _ ri.1 lt
    have eI : ∀ f j, f ≠ 14211 → gI (sI s 14211 0 (gI s 14211 0 - 1)) f j = gI s f j := fun f j w => by
      rw [gI_sI, if_neg (fun z => w z.1)]
    refine ⟨ri, ⟨⟨.inl ⟨g1, g2, eI _ _ (by decide)⟩, ?_, ?_⟩, fun f j w _ => eI f j w.2, fun _ _ _ => rfl, fun _ _ _ => rfl, fun _ _ _ => rfl, ⟨?_, ?_⟩, fun i i0 i1 => ?_⟩, ?_, a, b, c, ?_, ?_⟩
    · have := hN.2 _ g1.1 g1.2
      unfold pT at this ⊢
      rw [eI _ _ (by decide)]
      exact this
    · rw [show cN (sI s 14211 0 (gI s 14211 0 - 1)) = cN s from eI _ _ (by decide)]
      exact n0
    · rw [show cFc (sI s 14211 0 (gI s 14211 0 - 1)) = cFc s - 1 from efc]
      exact ri.1
    · rw [show cFc (sI s 14211 0 (gI s 14211 0 - 1)) = cFc s - 1 from efc, show cN (sI s 14211 0 (gI s 14211 0 - 1)) = cN s from eI _ _ (by decide), em]
      omega
    · rw [show cFc (sI s 14211 0 (gI s 14211 0 - 1)) = cFc s - 1 from efc] at i1
      refine ⟨?_, hF.2.2 i _ i0 i1 lt⟩
      rw [i32_lt] at i1 lt ⊢
      omega
    · unfold cAl at R1 ⊢
      rw [eI 15230 0 (by decide), eI 14220 0 (by decide)]
      exact R1
    · unfold cHw at R2 ⊢
      simp only [eI 18687 _ (by decide), eI 18559 _ (by decide), eI 19071 _ (by decide), eI 18815 _ (by decide), eI 18943 _ (by decide), eI 18942 _ (by decide), eI 18814 _ (by decide)]
      exact R2
    · unfold cNd at R3 ⊢
      rw [eI 15230 0 (by decide)]
      exact R3
