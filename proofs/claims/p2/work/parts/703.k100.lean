/-! The class: prototypes as they were read and listed. -/
/-- a prototype that was read, with its children listed; its code not yet looked over -/
def dPq (s : S1) (p : Int32) : Prop := gI s 18559 p = 1 ∧ (0 ≤ pNp s p ∧ pNp s p ≤ pNr s p) ∧ (1 ≤ pNr s p ∧ pNr s p ≤ 250) ∧ (0 ≤ pNu s p ∧ pNu s p ≤ 60) ∧ (0 ≤ pUs s p ∧ pUs s p + pNu s p ≤ 15000) ∧
  (0 ≤ pCs s p ∧ 0 ≤ pNc s p ∧ pCs s p + pNc s p ≤ nCo s) ∧ (0 ≤ pKs s p ∧ 0 < pNi s p ∧ pKs s p + pNi s p ≤ 20000) ∧ (0 ≤ pHs s p ∧ 0 ≤ pNh s p ∧ pHs s p + pNh s p ≤ 250) ∧
  ∀ k : Int32, 0 ≤ k.toInt → k.toInt < pNh s p → (0 ≤ (gA s 103 0 (gI s 18443 p + k)).toInt ∧ (gA s 103 0 (gI s 18443 p + k)).toInt < nPr s) ∧ ∀ j : Int32, 0 ≤ j.toInt → j.toInt < pNu s (gA s 103 0 (gI s 18443 p + k)) → (0 ≤ (gA s 107 0 (gI s 18436 (gA s 103 0 (gI s 18443 p + k)) + j)).toInt → (gA s 107 0 (gI s 18436 (gA s 103 0 (gI s 18443 p + k)) + j)).toInt < pNr s p) ∧ ((gA s 107 0 (gI s 18436 (gA s 103 0 (gI s 18443 p + k)) + j)).toInt < 0 → -1 - (gA s 107 0 (gI s 18436 (gA s 103 0 (gI s 18443 p + k)) + j)).toInt < pNu s p)
def Ls0 (t : S1) : Prop := (1 ≤ nPr t ∧ nPr t ≤ 250) ∧ (0 ≤ nCo t ∧ nCo t ≤ 20000) ∧ (∀ p : Int32, 0 ≤ p.toInt → p.toInt < nPr t → dPq t p) ∧ pNu t 0 ≤ 1 ∧ pNp t 0 ≤ 250
def Vcs (t : S1) : Prop := ∀ k : Int32, 0 ≤ k.toInt → k.toInt < nCo t → Vc t k
def lsF (s t : S1) : Prop := (∀ f j, f ≠ 18442 ∧ f ≠ 18443 → gI t f j = gI s f j) ∧ (∀ f j, gL t f j = gL s f j) ∧ (∀ a j q, a ≠ 103 → gA t a j q = gA s a j q) ∧ ∀ a j q, gB t a j q = gB s a j q
theorem ls_of {s t : S1} {N : Nat} (hN : 1 ≤ N ∧ N ≤ 250) (np : (gI s 12937 0).toInt = N) (rg : Rg s N) (tr : Tr s N 0) (h : ldI s N N t) : Ls0 t ∧ Vcs t ∧ lsF s t := by
  obtain ⟨I, ⟨L, A, B⟩, Q, C⟩ := h
  have e0 : (0 : Int32).toInt = 0 := rfl
  have g : ∀ f j, f ≠ 18442 ∧ f ≠ 18443 → gI t f j = gI s f j := fun f j z => I f j (fun y => by omega)
  have nP : nPr t = N := by
    unfold nPr
    rw [g _ _ (by decide)]
    exact np
  have nC : nCo t = rC s := by
    unfold nCo rC
    rw [g _ _ (by decide)]
  have sum := Dd_sum tr hN.2
  obtain ⟨c0, k0, ck⟩ := rg.2.1
  obtain ⟨u0, u1⟩ := rg.2.2.1
  refine ⟨⟨by omega, by omega, fun p p0 p1 => ?_, ?_, ?_⟩, fun k x y => ?_, g, L, A, B⟩
  · rw [nP] at p1
    have pd := rg.pd (q := p) p0 p1
    obtain ⟨d1, ⟨d2, d3, d4, -⟩, d5, d6, d7, -, -, -⟩ := pd
    have cp := clampI p0
    have ep : p = Int32.ofNat p.toNatClampNeg := of_toInt cp.symm
    generalize hq : p.toNatClampNeg = q at cp ep
    obtain ⟨s1, s2⟩ := Q q (by omega)
    have dq := Dd_le tr (q := q) (by omega)
    have sq : sg (Dd s) (q + 1) = sg (Dd s) q + Dd s q := rfl
    have mq := sg_mo (f := Dd s) (q + 1) N (by omega)
    rw [← ep] at s1 s2
    unfold dPq
    have gp : ∀ f, f ≠ 18442 ∧ f ≠ 18443 → gI t f p = gI s f p := fun f z => g f p z
    refine ⟨(gp _ (by decide)).trans d1, ?_, ?_, ?_, ?_, ?_, ?_, ⟨?_, ?_, ?_⟩, fun k x y => ?_⟩
    · unfold pNp pNr at d2 ⊢
      rw [gp _ (by decide), gp _ (by decide)]
      exact d2
    · unfold pNr at d3 ⊢
      rw [gp _ (by decide)]
      omega
    · unfold pNu at d4 ⊢
      rw [gp _ (by decide)]
      exact d4
    · unfold pUs pNu at d5 ⊢
      rw [gp _ (by decide), gp _ (by decide)]
      omega
    · rw [nC]
      unfold pCs pNc at d6 ⊢
      rw [gp _ (by decide), gp _ (by decide)]
      exact d6
    · unfold pKs pNi at d7 ⊢
      rw [gp _ (by decide), gp _ (by decide)]
      omega
    · unfold pHs
      rw [s1]
      omega
    · unfold pNh
      rw [s2]
      omega
    · unfold pHs pNh
      rw [s1, s2]
      omega
    · have y' : k.toInt < cnt s N q := by
        unfold pNh at y
        rw [s2] at y
        exact y
      have ckk := clampI x
      obtain ⟨c, c1, c2, c3⟩ := C q (by omega) k.toNatClampNeg (by omega)
      have ix : gI t 18443 p + k = Int32.ofNat (sg (Dd s) q + k.toNatClampNeg) := of_toInt (by rw [ktI_add] <;> omega)
      rw [ix, c2]
      have oc := oI (k := c) (by omega)
      refine ⟨⟨by rw [oc]; omega, by rw [oc, nP]; omega⟩, fun j j0 j1 => ?_⟩
      have pc := rg.pd (q := Int32.ofNat c) (by rw [oc]; omega) (by rw [oc]; omega)
      obtain ⟨-, ⟨-, -, n4, -⟩, n5, -, -, -, -, n8⟩ := pc
      have j1' : j.toInt < pNu s (Int32.ofNat c) := by
        unfold pNu at j1 ⊢
        rw [g _ _ (by decide)] at j1
        exact j1
      rw [g 18436 _ (by decide), A 107 _ _ (by decide)]
      have es : (gI s 18436 (Int32.ofNat c) + j).toInt = pUs s (Int32.ofNat c) + j.toInt := ktI_add (by show -2147483648 ≤ pUs s (Int32.ofNat c) + j.toInt ∧ pUs s (Int32.ofNat c) + j.toInt < 2147483648; omega)
      have uv := n8 (by rw [c3, ← ep, i32_le]; exact p0) (gI s 18436 (Int32.ofNat c) + j) (by omega) (by omega)
      rw [c3, ← ep] at uv
      unfold UV pNr pNu at uv
      unfold pNr pNu
      rw [gp 18434 (by decide), gp 18435 (by decide)]
      exact uv
  · have w := (rg.pd (q := 0) (by decide) (by rw [e0]; omega))
    have a0 := w.2.2.2.2.2.1.2.1 (by decide)
    have := w.2.1.2.2.2 a0
    unfold pNu at this ⊢
    rw [g _ _ (by decide), this]
    decide
  · have w := (rg.pd (q := 0) (by decide) (by rw [e0]; omega)).2.1
    unfold pNp
    rw [g _ _ (by decide)]
    have := w.1.2
    have := w.2.1.2
    show pNp s 0 ≤ 250
    omega
  · rw [nC] at y
    exact (rg.2.2.2.2 k x y).eq (A _ _ _ (by decide)) (B _ _ _)
def lsQ (s : S1) (_ : Unit) (t : S1) : Prop := Ls0 t ∧ Vcs t ∧ lsF s t
theorem list_ok {s : S1} (rd : raD s) : ok M_Ch_listChildren s (lsQ s) := by
  obtain ⟨N, n1, n2, rg, tr, np⟩ := rd
  simp only [M_Ch_listChildren, ok_B, ok_C, ok_R, ok_L, ok_K, ok_GI, ok_GL, ok_PI, ok_PL, ok_AI, ok_AL, ok_SI, ok_SL, ok_CI, cmp_lt, cmp_le, cmp_gt, cmp_ge, cmp_eq, nar0, nar1, Sum.elim_inl, Sum.elim_inr, ok_PzT, ok_PzC, ok_PzP, ok_PrC, ok_PrP, ok_PrF, ok_PrN, ok_Ln, ok_CL, ok_Nw, ok_S, ok_Ks, ok_Nz]
  refine ok_mono (lc1_ok n2 np rg tr) ?_
  rintro - t ⟨I, T2, Q⟩
  have A : ∀ a j q, gA t a j q = gA s a j q := fun a j q => by show t.2.2.1 _ _ _ = s.2.2.1 _ _ _; rw [T2]
  have h0 : ldI s N 1 t := by
    have c0 : ∀ q, q < N → cnt s 1 q = 0 := fun q hq => by
      rw [cnt_s]
      have w := (rg.pd (q := 0) (by decide) (by show (0 : Int32).toInt < _; have e0 : (0 : Int32).toInt = 0 := rfl; omega)).2.2.2.2.2.1.2.1 (by decide)
      rw [if_neg (fun z => ?_)]
      · rfl
      · change gI s 18444 0 = Int32.ofNat q at z
        rw [z, i32_lt, oI (by omega)] at w
        have e0 : (0 : Int32).toInt = 0 := rfl
        omega
    refine ⟨I, ⟨fun f j => by show t.2.1 _ _ = s.2.1 _ _; rw [T2], fun a j q _ => A a j q, fun a j q => by show t.2.2.2 _ _ _ = s.2.2.2 _ _ _; rw [T2]⟩, fun q hq => ⟨(Q q hq).1, ?_⟩, fun q hq j hj => ?_⟩
    · rw [(Q q hq).2, c0 q hq]
      rfl
    · rw [c0 q hq] at hj
      exact absurd hj (by omega)
  refine ok_mono (lc2_ok ⟨n1, n2⟩ np rg tr h0) ?_
  rintro - u hu
  exact ls_of ⟨n1, n2⟩ np rg tr hu
