/-! The class: looking over: an instruction. -/
def NW (s : S1) (p w : Int32) : Prop := NT s p (stC 57 (dO w)) (dA w) ∧ NT s p (stC 58 (dO w)) (dB w) ∧ NT s p (stC 59 (dO w)) (dC w) ∧ (∃ r : Int32, LR (dO w) (dA w) (dB w) (dC w) r ∧ r.toInt < pNr s p) ∧ (dO w = 1 → (dX w).toInt < pNc s p) ∧ (dO w = 29 → (dB w).toInt < (dC w).toInt) ∧ (dO w = 44 → (dX w).toInt < pNh s p)
theorem names_ok {s : S1} {p w : Int32} (ho : (dO w).toInt < 46) : ok (M_Ch_namesWhatIsThere p w) s (Dz s (NW s p w)) := by
  have l57 : stLI 57 = 46 := by decide
  have l58 : stLI 58 = 46 := by decide
  have l59 : stLI 59 = 46 := by decide
  have e0 : (0 : Int32).toInt = 0 := rfl
  have e46 : (46 : Int32).toInt = 46 := rfl
  have oi : (0 : Int32) ≤ dO w ∧ dO w < 46 := ⟨by rw [i32_le]; exact (dO_in w).1, by rw [i32_lt]; exact ho⟩
  simp only [M_Ch_namesWhatIsThere, l57, l58, l59, ok_B, ok_C, ok_R, ok_L, ok_K, ok_GI, ok_GL, ok_PI, ok_PL, ok_AI, ok_AL, ok_SI, ok_SL, ok_CI, cmp_lt, cmp_le, cmp_gt, cmp_ge, cmp_eq, nar0, nar1, Sum.elim_inl, Sum.elim_inr, ok_PzT, ok_PzC, ok_PzP, ok_PrC, ok_PrP, ok_PrF, ok_PrN, ok_Ln, ok_CL, ok_Nw, ok_S, ok_Ks, ok_Nz]
  refine ⟨oi, ?_⟩
  refine ok_mono (there_ok (dA_in w).1) ?_
  rintro r1 t1 ⟨et, -, q1⟩
  rw [et]
  refine ⟨fun _ => dz0, fun z1 => ⟨oi, ?_⟩⟩
  refine ok_mono (there_ok (dB_in w).1) ?_
  rintro r2 t2 ⟨et, -, q2⟩
  rw [et]
  refine ⟨fun _ => dz0, fun z2 => ⟨oi, ?_⟩⟩
  refine ok_mono (there_ok (dC_in w).1) ?_
  rintro r3 t3 ⟨et, -, q3⟩
  rw [et]
  refine ⟨fun _ => dz0, fun z3 => ?_⟩
  refine ok_mono (last_ok (dA_in w) (dB_in w) (dC_in w)) ?_
  rintro r t ⟨et, lr⟩
  rw [et]
  refine ⟨fun c => ?_, fun _ => dz0⟩
  rw [i32_lt] at c
  have fin : (dO w = 1 → (dX w).toInt < pNc s p) → (dO w = 29 → (dB w).toInt < (dC w).toInt) → (dO w = 44 → (dX w).toInt < pNh s p) → Dz s (NW s p w) 1 s := fun a b d => dz1 ⟨q1 z1, q2 z2, q3 z3, ⟨r, lr, c⟩, a, b, d⟩
  have no : ∀ {k m : Int32} {P : Prop}, dO w = k → k ≠ m → dO w = m → P := fun {k m P} e n z => absurd (e.symm.trans z) n
  refine ⟨fun e => ⟨fun _ => dz0, fun d => fin (fun _ => ?_) (no e (by decide)) (no e (by decide))⟩, fun n1 => ⟨fun e => ⟨fun _ => dz0, fun d => fin (no e (by decide)) (fun _ => ?_) (no e (by decide))⟩, fun n29 => ⟨fun e => ⟨fun _ => dz0, fun _ => fin (no e (by decide)) (no e (by decide)) (no e (by decide))⟩, fun _ => ⟨fun e => ⟨fun _ => dz0, fun _ => fin (no e (by decide)) (no e (by decide)) (no e (by decide))⟩, fun _ => ⟨fun e => ⟨fun _ => dz0, fun d => fin (no e (by decide)) (no e (by decide)) (fun _ => ?_)⟩, fun n44 => fin (fun z => absurd z n1) (fun z => absurd z n29) (fun z => absurd z n44)⟩⟩⟩⟩⟩
  · rw [i32_le] at d
    exact Int.not_le.mp d
  · rw [i32_le] at d
    exact Int.not_le.mp d
  · rw [i32_le] at d
    exact Int.not_le.mp d
theorem NT.reg {s : S1} {p c x : Int32} (h : NT s p c x) (e : c = 82) : x.toInt < pNr s p := h.2.1 e
theorem NW.fin {s : S1} {p i w : Int32} (h : NW s p w) (g : GW s p i w (dO w)) (ho : (dO w).toInt < 46) : dWn s p i w (dO w).toInt (dA w).toInt (dB w).toInt (dC w).toInt := by
  obtain ⟨hA, hB, hC, ⟨r, lr, rl⟩, h1, h29, h44⟩ := h
  obtain ⟨g1, g2, g3, g4⟩ := g
  obtain ⟨l1, l2, l3, l4, l5, l6, l7⟩ := lr
  have ab := dA_in w
  have bb := dB_in w
  have cb := dC_in w
  have ob := dO_in w
  have jm : i + 1 + iushr w 14 - 131071 = i + 1 + (dX w - 131071) := by rw [Int32.sub_eq_add_neg, Int32.sub_eq_add_neg, Int32.add_assoc]
  rw [jm] at g4
  have c3 : iushr w 14 &&& 511 ≠ 0 ↔ (dC w).toInt ≠ 0 := ⟨fun z y => z (toInt_inj y), fun z y => z (by show (dC w).toInt = 0; rw [show dC w = 0 from y]; rfl)⟩
  rw [c3] at g3
  unfold dWn
  generalize dO w = o at *
  generalize (dA w) = A at *
  generalize (dB w) = B at *
  generalize (dC w) = C at *
  generalize dX w = X at *
  have eo : ∀ {k : Int}, o.toInt = k → (hk : 0 ≤ k ∧ k < 46) → o = Int32.ofInt k := fun {k} e hk => by rw [← e, Int32.ofInt_toInt]
  have rA : ∀ {k : Int}, o.toInt = k → (hk : 0 ≤ k ∧ k < 46) → stC 57 (Int32.ofInt k) = 82 → A.toInt < pNr s p := fun e hk z => hA.2.1 (by rw [eo e hk]; exact z)
  have uA : ∀ {k : Int}, o.toInt = k → (hk : 0 ≤ k ∧ k < 46) → stC 57 (Int32.ofInt k) = 85 → A.toInt < pNu s p := fun e hk z => hA.2.2.1 (by rw [eo e hk]; exact z)
  have rB : ∀ {k : Int}, o.toInt = k → (hk : 0 ≤ k ∧ k < 46) → stC 58 (Int32.ofInt k) = 82 → B.toInt < pNr s p := fun e hk z => hB.2.1 (by rw [eo e hk]; exact z)
  have uB : ∀ {k : Int}, o.toInt = k → (hk : 0 ≤ k ∧ k < 46) → stC 58 (Int32.ofInt k) = 85 → B.toInt < pNu s p := fun e hk z => hB.2.2.1 (by rw [eo e hk]; exact z)
  have kB : ∀ {k : Int}, o.toInt = k → (hk : 0 ≤ k ∧ k < 46) → stC 58 (Int32.ofInt k) = 75 → dQ s p B := fun e hk z => hB.1 (by rw [eo e hk]; exact z)
  have rC : ∀ {k : Int}, o.toInt = k → (hk : 0 ≤ k ∧ k < 46) → stC 59 (Int32.ofInt k) = 82 → C.toInt < pNr s p := fun e hk z => hC.2.1 (by rw [eo e hk]; exact z)
  have kC : ∀ {k : Int}, o.toInt = k → (hk : 0 ≤ k ∧ k < 46) → stC 59 (Int32.ofInt k) = 75 → dQ s p C := fun e hk z => hC.1 (by rw [eo e hk]; exact z)
  have xA : ∀ {k : Int}, o.toInt = k → (hk : 0 ≤ k ∧ k < 46) → stC 57 (Int32.ofInt k) = 120 → False := fun e hk z => hA.2.2.2 (by rw [eo e hk]; exact z)
  have t : ∀ {k : Int}, o.toInt = k → (hk : 0 ≤ k ∧ k < 46) → ∀ m : Int32, Int32.ofInt k = m → o = m := fun e hk m z => (eo e hk).trans z
  refine ⟨?_, fun e => ⟨rA e (by decide) (by decide), h1 (t e (by decide) _ rfl)⟩, fun e => ⟨rA e (by decide) (by decide), g3 (t e (by decide) _ rfl)⟩, fun e => ?_, ?_, fun e => ⟨rA e (by decide) (by decide), uB e (by decide) (by decide), kC e (by decide) (by decide)⟩, fun e => ⟨rA e (by decide) (by decide), rB e (by decide) (by decide), kC e (by decide) (by decide)⟩, fun e => ⟨uA e (by decide) (by decide), kB e (by decide) (by decide), kC e (by decide) (by decide)⟩,
    fun e => ⟨rA e (by decide) (by decide), kB e (by decide) (by decide), kC e (by decide) (by decide)⟩, fun e => rA e (by decide) (by decide), fun e => ⟨?_, rB e (by decide) (by decide), kC e (by decide) (by decide)⟩, fun z => ?_,
    fun e => ⟨rA e (by decide) (by decide), h29 (t e (by decide) _ rfl), rC e (by decide) (by decide)⟩, fun e => g4 (.inl (t e (by decide) _ rfl)), ?_, fun e => rA e (by decide) (by decide), fun e => ⟨rA e (by decide) (by decide), rB e (by decide) (by decide)⟩,
    fun e => ⟨rA e (by decide) (by decide), ?_, ?_⟩, fun e => ⟨rA e (by decide) (by decide), ?_⟩, fun e => ⟨rA e (by decide) (by decide), ?_⟩,
    fun e => ⟨?_, g4 (.inr (.inl (t e (by decide) _ rfl)))⟩, fun e => ⟨?_, g4 (.inr (.inr (.inl (t e (by decide) _ rfl))))⟩, fun e => ?_, fun e => ⟨?_, g4 (.inr (.inr (.inr (t e (by decide) _ rfl))))⟩,
    fun e => ⟨rA e (by decide) (by decide), ?_⟩, fun e => ⟨rA e (by decide) (by decide), h44 (t e (by decide) _ rfl)⟩, fun e => ⟨rA e (by decide) (by decide), ?_⟩, by omega, fun e => xA e (by decide) (by decide), fun e => xA e (by decide) (by decide), fun e => xA e (by decide) (by decide)⟩
  · rintro (e | e | e | e | e) <;> exact ⟨rA e (by decide) (by decide), rB e (by decide) (by decide)⟩
  · have := l1 (.inl (t e (by decide) _ rfl)); omega
  · rintro (e | e) <;> exact ⟨rA e (by decide) (by decide), uB e (by decide) (by decide)⟩
  · have := l2 (.inl (t e (by decide) _ rfl)); omega
  · have z' : o.toInt = 13 ∨ o.toInt = 14 ∨ o.toInt = 15 ∨ o.toInt = 16 ∨ o.toInt = 19 ∨ o.toInt = 20 ∨ o.toInt = 21 ∨ o.toInt = 22 ∨ o.toInt = 23 ∨ o.toInt = 24 := by omega
    rcases z' with e | e | e | e | e | e | e | e | e | e <;> exact ⟨rA e (by decide) (by decide), kB e (by decide) (by decide), kC e (by decide) (by decide)⟩
  · rintro (e | e | e) <;> exact ⟨kB e (by decide) (by decide), kC e (by decide) (by decide)⟩
  · have := (l3 (t e (by decide) _ rfl)).1; omega
  · have := (l3 (t e (by decide) _ rfl)).2; omega
  · have := l4 (t e (by decide) _ rfl); omega
  · have := l5 (.inl (t e (by decide) _ rfl)); omega
  · have := l6 (.inl (t e (by decide) _ rfl)); omega
  · have := l6 (.inr (t e (by decide) _ rfl)); omega
  · have := l7 (t e (by decide) _ rfl); omega
  · have := l2 (.inr (t e (by decide) _ rfl)); omega
  · have := l1 (.inr (t e (by decide) _ rfl)); omega
  · have := l5 (.inr (t e (by decide) _ rfl)); omega
theorem wellF_ok {s : S1} {p i : Int32} (h : Cd s p) (i0 : 0 ≤ i.toInt) (i1 : i.toInt < pNi s p) : ok (M_Ch_isWellFormed p i) s (Dz s (dWf s p i)) := by
  have e46 : (46 : Int32).toInt = 46 := rfl
  simp only [M_Ch_isWellFormed, M_Ch_isWellFormed_j53, ok_B, ok_C, ok_R, ok_L, ok_K, ok_GI, ok_GL, ok_PI, ok_PL, ok_AI, ok_AL, ok_SI, ok_SL, ok_CI, cmp_lt, cmp_le, cmp_gt, cmp_ge, cmp_eq, nar0, nar1, Sum.elim_inl, Sum.elim_inr, ok_PzT, ok_PzC, ok_PzP, ok_PrC, ok_PrP, ok_PrF, ok_PrN, ok_Ln, ok_CL, ok_Nw, ok_S, ok_Ks, ok_Nz]
  refine ⟨h.ix i0 i1, fun _ => dz0, fun c => ?_⟩
  rw [i32_le, e46] at c
  have ho : (dO (dW s p i)).toInt < 46 := Int.not_le.mp c
  refine ok_mono (names_ok ho) ?_
  rintro r1 t1 ⟨et, -, q1⟩
  rw [et]
  refine ⟨fun _ => dz0, fun z1 => ?_⟩
  refine ok_mono (goes_ok h i0 i1) ?_
  rintro r2 t2 ⟨et, -, q2⟩
  rw [et]
  refine ⟨fun _ => dz0, fun z2 => ?_⟩
  have g := q2 z2
  have mk : dMk (dW s p i) → i.toInt + 1 < pNi s p := fun m => g.1 (fun z => by
    rcases m with ⟨m, -⟩ | ⟨m, -⟩ <;> rcases z with z | z | z <;> exact absurd (m.symm.trans z) (by decide))
  refine ok_mono (keeps_ok h i0 i1 mk) ?_
  rintro r3 t3 ⟨et, -, q3⟩
  rw [et]
  refine ⟨fun _ => dz0, fun z3 => dz1 ⟨fun z => ?_, (q3 z3).1, (q3 z3).2, g.2.1, (q1 z1).fin g ho⟩⟩
  exact Classical.byContradiction fun y => z (g.1 y)
def ckQ (s : S1) (r : Int32) (t : S1) : Prop := Nn s t ∧ (r = 0 ∨ r = 1) ∧ (r ≠ 0 → dPg t)
def ckI (s : S1) (p : Int32) (y : Int32 × Int32 × Int32) (t : S1) : Prop := t = s ∧ y.1 = p ∧ y.2.1 = p ∧ 0 ≤ y.2.2.toInt ∧ y.2.2.toInt ≤ pNi s p ∧ ∀ i : Int32, 0 ≤ i.toInt → i.toInt < y.2.2.toInt → dWf s p i
def ckP (s : S1) (p : Int32) (e : (Int32 × Int32) ⊕ Int32) (t : S1) : Prop := t = s ∧ Sum.elim (fun y => y.1 = p) (fun y => y = p ∧ ∀ i : Int32, 0 ≤ i.toInt → i.toInt < pNi s p → dWf s p i) e
theorem ck23_ok {s : S1} {p : Int32} (h : Cd s p) : ok (oW M_Ch_checkAll_L23 (p, p, 0)) s (ckP s p) := by
  have e0 : (0 : Int32).toInt = 0 := rfl
  have e1 : (1 : Int32).toInt = 1 := rfl
  refine ok_W (ckI s p) (fun y _ => (20000 - y.2.2.toInt).toNat) ?_ (p, p, 0) s ⟨rfl, rfl, rfl, Int.le_refl _, Int.le_of_lt h.2.1, fun i a b => absurd b (by dsimp only; omega)⟩
  rintro ⟨x, y, i⟩ t ⟨et, ex, ey, i0, i1, q⟩
  dsimp only at ex ey i0 i1 q
  rw [et, ex, ey]
  obtain ⟨h1, h2, h3⟩ := h
  simp only [M_Ch_checkAll_L23, ok_B, ok_C, ok_R, ok_L, ok_K, ok_GI, ok_GL, ok_PI, ok_PL, ok_AI, ok_AL, ok_SI, ok_SL, ok_CI, cmp_lt, cmp_le, cmp_gt, cmp_ge, cmp_eq, nar0, nar1, Sum.elim_inl, Sum.elim_inr, ok_PzT, ok_PzC, ok_PzP, ok_PrC, ok_PrP, ok_PrF, ok_PrN, ok_Ln, ok_CL, ok_Nw, ok_S, ok_Ks, ok_Nz]
  refine ⟨fun c => ⟨rfl, rfl, fun j a b => q j a ?_⟩, fun c => ?_⟩
  · rw [i32_le] at c
    change pNi s p ≤ i.toInt at c
    omega
  · rw [i32_le] at c
    change ¬ pNi s p ≤ i.toInt at c
    refine ok_mono (wellF_ok ⟨h1, h2, h3⟩ i0 (by omega)) ?_
    rintro r u ⟨eu, -, w⟩
    rw [eu]
    refine ⟨fun _ => ⟨rfl, rfl⟩, fun r0 => ?_⟩
    have ei : (i + 1).toInt = i.toInt + 1 := by rw [ktI_add] <;> omega
    refine ⟨⟨rfl, rfl, rfl, by dsimp only; omega, by dsimp only; omega, fun j a b => ?_⟩, by omega⟩
    dsimp only at b
    rw [ei] at b
    by_cases e : j.toInt = i.toInt
    · rw [toInt_inj e]
      exact w r0
    · exact q j a (by omega)
def cgI (s : S1) (y : Int32) (t : S1) : Prop := t = s ∧ 0 ≤ y.toInt ∧ y.toInt ≤ nPr s ∧ ∀ p : Int32, 0 ≤ p.toInt → p.toInt < y.toInt → ∀ i : Int32, 0 ≤ i.toInt → i.toInt < pNi s p → dWf s p i
def cgP (s : S1) (e : (Int32 × Int32) ⊕ Unit) (t : S1) : Prop := t = s ∧ Sum.elim (fun y : Int32 × Int32 => 0 ≤ y.1.toInt ∧ y.1.toInt < nPr s) (fun _ => ∀ p : Int32, 0 ≤ p.toInt → p.toInt < nPr s → ∀ i : Int32, 0 ≤ i.toInt → i.toInt < pNi s p → dWf s p i) e
theorem ck6_ok {s : S1} (h : Ls0 s) : ok (oW M_Ch_checkAll_L6 0) s (cgP s) := by
  have e0 : (0 : Int32).toInt = 0 := rfl
  have e1 : (1 : Int32).toInt = 1 := rfl
  have e250 : (250 : Int32).toInt = 250 := rfl
  obtain ⟨⟨h1, h2⟩, h3, h4, h5⟩ := h
  refine ok_W (cgI s) (fun y _ => (250 - y.toInt).toNat) ?_ 0 s ⟨rfl, Int.le_refl _, by rw [e0]; omega, fun i a b => absurd b (by omega)⟩
  rintro x t ⟨et, x0, x1, q⟩
  rw [et]
  simp only [M_Ch_checkAll_L6, ok_B, ok_C, ok_R, ok_L, ok_K, ok_GI, ok_GL, ok_PI, ok_PL, ok_AI, ok_AL, ok_SI, ok_SL, ok_CI, cmp_lt, cmp_le, cmp_gt, cmp_ge, cmp_eq, nar0, nar1, Sum.elim_inl, Sum.elim_inr, ok_PzT, ok_PzC, ok_PzP, ok_PrC, ok_PrP, ok_PrF, ok_PrN, ok_Ln, ok_CL, ok_Nw, ok_S, ok_Ks, ok_Nz]
  refine ⟨fun c => ⟨rfl, fun p a b => q p a ?_⟩, fun c => ?_⟩
  · rw [i32_le] at c
    change nPr s ≤ x.toInt at c
    omega
  · rw [i32_le] at c
    change ¬ nPr s ≤ x.toInt at c
    have px := h4 x x0 (by omega)
    have ei : (x + 1).toInt = x.toInt + 1 := by rw [ktI_add] <;> omega
    refine ⟨⟨⟨by rw [i32_le]; exact x0, by rw [i32_lt]; omega⟩, px.1⟩, ?_⟩
    refine ok_mono (ck23_ok (p := x) px.2.2.2.2.2.2.1) ?_
    rintro (⟨y, k⟩ | y) u ⟨eu, w⟩
    · dsimp only [Sum.elim_inl] at w
      rw [eu]
      simp only [Sum.elim_inl, ok_B, ok_C, ok_R, ok_L, ok_K, ok_GI, ok_GL, ok_PI, ok_PL, ok_AI, ok_AL, ok_SI, ok_SL, ok_CI, cmp_lt, cmp_le, cmp_gt, cmp_ge, cmp_eq, nar0, nar1, Sum.elim_inl, Sum.elim_inr, ok_PzT, ok_PzC, ok_PzP, ok_PrC, ok_PrP, ok_PrF, ok_PrN, ok_Ln, ok_CL, ok_Nw, ok_S, ok_Ks, ok_Nz]
      exact ⟨rfl, by dsimp only [Sum.elim_inl]; rw [w]; omega⟩
    · dsimp only [Sum.elim_inr] at w
      rw [eu, w.1]
      simp only [Sum.elim_inr, ok_B, ok_C, ok_R, ok_L, ok_K, ok_GI, ok_GL, ok_PI, ok_PL, ok_AI, ok_AL, ok_SI, ok_SL, ok_CI, cmp_lt, cmp_le, cmp_gt, cmp_ge, cmp_eq, nar0, nar1, Sum.elim_inl, Sum.elim_inr, ok_PzT, ok_PzC, ok_PzP, ok_PrC, ok_PrP, ok_PrF, ok_PrN, ok_Ln, ok_CL, ok_Nw, ok_S, ok_Ks, ok_Nz]
      refine ⟨⟨rfl, by omega, by omega, fun p a b => ?_⟩, by omega⟩
      by_cases e : p.toInt = x.toInt
      · rw [toInt_inj e]
        exact w.2
      · exact q p a (by omega)
def caQ (s : S1) (r : Int32) (t : S1) : Prop := (r = 0 ∨ r = 1) ∧ ∃ u, (Ls0 u ∧ Vcs u ∧ lsF s u) ∧ Nn u t ∧ (r ≠ 0 → t = u ∧ dPg u)
theorem checkAll_ok {s : S1} (rd : raD s) : ok M_Ch_checkAll s (caQ s) := by
  simp only [M_Ch_checkAll, ok_B, ok_C, ok_R, ok_L, ok_K, ok_GI, ok_GL, ok_PI, ok_PL, ok_AI, ok_AL, ok_SI, ok_SL, ok_CI, cmp_lt, cmp_le, cmp_gt, cmp_ge, cmp_eq, nar0, nar1, Sum.elim_inl, Sum.elim_inr, ok_PzT, ok_PzC, ok_PzP, ok_PrC, ok_PrP, ok_PrF, ok_PrN, ok_Ln, ok_CL, ok_Nw, ok_S, ok_Ks, ok_Nz]
  refine ok_mono (list_ok rd) ?_
  rintro - u ⟨l0, vc, lf⟩
  have q : Ls0 u ∧ Vcs u ∧ lsF s u := ⟨l0, vc, lf⟩
  refine ok_mono (ck6_ok l0) ?_
  rintro (y | y) t ⟨et, w⟩
  · simp only [Sum.elim_inl, ok_B, ok_C, ok_R, ok_L, ok_K, ok_GI, ok_GL, ok_PI, ok_PL, ok_AI, ok_AL, ok_SI, ok_SL, ok_CI, cmp_lt, cmp_le, cmp_gt, cmp_ge, cmp_eq, nar0, nar1, Sum.elim_inl, Sum.elim_inr, ok_PzT, ok_PzC, ok_PzP, ok_PrC, ok_PrP, ok_PrF, ok_PrN, ok_Ln, ok_CL, ok_Nw, ok_S, ok_Ks, ok_Nz]
    rw [et]
    refine ok_mono (refuse_ok u 6 _) ?_
    rintro v x ⟨v0, nn, -⟩
    exact ⟨.inl v0, .inl v0, u, q, nn, fun z => absurd v0 z⟩
  · simp only [Sum.elim_inr, ok_B, ok_C, ok_R, ok_L, ok_K, ok_GI, ok_GL, ok_PI, ok_PL, ok_AI, ok_AL, ok_SI, ok_SL, ok_CI, cmp_lt, cmp_le, cmp_gt, cmp_ge, cmp_eq, nar0, nar1, Sum.elim_inl, Sum.elim_inr, ok_PzT, ok_PzC, ok_PzP, ok_PrC, ok_PrP, ok_PrF, ok_PrN, ok_Ln, ok_CL, ok_Nw, ok_S, ok_Ks, ok_Nz]
    rw [et]
    refine ⟨.inr rfl, u, q, Nn.refl u, fun _ => ⟨rfl, l0.1, l0.2.1, fun p p0 p1 => ?_, l0.2.2.2⟩⟩
    obtain ⟨d1, d2, d3, d4, d5, d6, d7, d8, d9⟩ := l0.2.2.1 p p0 p1
    exact ⟨d1, d2, d3, d4, d5, d6, d7, d8, w p p0 p1, d9⟩
