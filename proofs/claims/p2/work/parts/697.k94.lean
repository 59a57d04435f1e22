/-! The class: reading constants and code. -/
theorem Rl.no {F : Nat → Prop} {p q : Int32} {s t : S1} (h : Rl noF q s t) : Rl F p s t := ⟨fun f j a _ => h.1 f j a (fun z => z.1), h.2⟩
def kcF (f : Nat) : Prop := f = 18437 ∨ f = 18438
theorem Vc.eq {s t : S1} {k : Int32} (h : Vc s k) (a : gA t 105 0 k = gA s 105 0 k) (b : gB t 106 0 k = gB s 106 0 k) : Vc t k := by
  unfold Vc
  rw [a, b]
  exact h
/-- constants are being read -/
def kcI (s : S1) (i : Int) (t : S1) : Prop := (Rl noF 0 s t ∧ Ar t ∧ Kf s t ∧ ∀ f j, f / 128 = 144 → gI t f j = gI s f j) ∧ rC t = rC s + i ∧ rC t + rK s ≤ 20000 ∧ ∀ k : Int32, rC s ≤ k.toInt → k.toInt < rC t → Vc t k
theorem kcI.nn {s t u : S1} {i : Int} (h : kcI s i t) (n : Nn t u) (a : Ar u) : kcI s i u := by
  obtain ⟨⟨h1, h2, h3, h4⟩, h5, h6, h7⟩ := h
  have eu : rC u = rC t := by
    unfold rC
    rw [n.at_ 0 (by decide)]
  refine ⟨⟨h1.trans (n.rl _ _), a, ⟨n.kf.1.trans h3.1, n.kf.2.trans h3.2⟩, fun f j q => (n.at_ j (.inl q)).trans (h4 f j q)⟩, eu.trans h5, by rw [eu]; exact h6, fun k k0 k1 => ?_⟩
  rw [eu] at k1
  exact (h7 k k0 k1).eq (n.A _ _ _) (n.B _ _ _)
def kcP (s : S1) (N : Int) (e : Unit ⊕ Unit ⊕ Unit ⊕ Unit ⊕ Unit) (t : S1) : Prop := ∃ i : Int, 0 ≤ i ∧ kcI s i t ∧ (e = .inr (.inr (.inr (.inr ()))) → i = N)
def kcL (s : S1) (p : Int32) (y : Int32 × Int32) (t : S1) : Prop := y.1 = p ∧ 0 ≤ y.2.toInt ∧ y.2.toInt ≤ pNc s p ∧ kcI s y.2.toInt t
theorem kcLoop_ok {s : S1} {p : Int32} (a : Ar s) (hc : 0 ≤ pNc s p) (c0 : 0 ≤ rC s) (k0 : 0 ≤ rK s) (ck : rC s + rK s ≤ 20000) : ok (oW M_Ch_readConstants_L28 (p, 0)) s (kcP s (pNc s p)) := by
  have e0 : (0 : Int32).toInt = 0 := rfl
  have e1 : (1 : Int32).toInt = 1 := rfl
  have e4 : (4 : Int32).toInt = 4 := rfl
  have e2 : (20000 : Int32).toInt = 20000 := rfl
  refine ok_W (kcL s p) (fun y _ => (2147483648 - y.2.toInt).toNat) ?_ (p, 0) s ⟨rfl, Int.le_refl _, by show (0 : Int32).toInt ≤ _; rw [e0]; exact hc, ⟨Rl.refl _ _ s, a, ⟨rfl, rfl⟩, fun _ _ _ => rfl⟩, by show rC s = rC s + (0 : Int32).toInt; rw [e0]; omega, ck, fun k k0 k1 => absurd k1 (by omega)⟩
  rintro ⟨p', i⟩ t ⟨ep, i0, i1, kc⟩
  dsimp only at ep i0 i1 kc
  rw [ep]
  have f1 := kc.1.2.2.2
  simp only [M_Ch_readConstants_L28, ok_B, ok_C, ok_R, ok_L, ok_K, ok_GI, ok_GL, ok_PI, ok_PL, ok_AI, ok_AL, ok_SI, ok_SL, ok_CI, cmp_lt, cmp_le, cmp_gt, cmp_ge, cmp_eq, nar0, nar1, Sum.elim_inl, Sum.elim_inr, ok_PzT, ok_PzC, ok_PzP, ok_PrC, ok_PrP, ok_PrF, ok_PrN, ok_Ln, ok_CL, ok_Nw, ok_S, ok_Ks, ok_Nz]
  rw [f1 18437 p (by decide)]
  refine ⟨fun c => ⟨i.toInt, i0, kc, fun _ => ?_⟩, fun c => ?_⟩
  · rw [i32_le] at c
    change pNc s p ≤ i.toInt at c
    omega
  · rw [i32_le] at c
    change ¬ pNc s p ≤ i.toInt at c
    refine ok_mono (number_ok (.inl rfl) kc.1.2.1) ?_
    rintro v t1 ⟨⟨n1, a2, v1, -⟩, -⟩
    have kc1 := kc.nn n1 a2
    have ei : (i + 1).toInt = i.toInt + 1 := by
      have : i.toInt < pNc s p := by omega
      have : pNc s p < 2147483648 := Int32.toInt_lt (gI s 18437 p)
      rw [ktI_add] <;> omega
    have out : ∀ e : Unit ⊕ Unit ⊕ Unit ⊕ Unit ⊕ Unit, e ≠ .inr (.inr (.inr (.inr ()))) → kcP s (pNc s p) e t1 := fun e ne => ⟨i.toInt, i0, kc1, fun z => absurd z ne⟩
    refine ⟨fun v0 => ⟨fun cs => ⟨fun vl => ?_, fun _ => out _ (by simp)⟩, fun _ => out _ (by simp)⟩, fun _ => out _ (by simp)⟩
    have vb := neg_b v1 v0
    have rc1 := kc1.2.1
    have ck1 := kc1.2.2.1
    have es : (gI t1 12938 0 + gI t1 12939 0).toInt = rC t1 + rK s := by
      rw [kc1.1.2.2.1.1]
      exact ktI_add (by show -2147483648 ≤ rC t1 + rK s ∧ rC t1 + rK s < 2147483648; omega)
    rw [i32_lt, es] at cs
    refine ok_mono (const_ok a2 (by omega) (by omega) ⟨v0, vl⟩) ?_
    rintro r t2 ⟨⟨b1, b2, b3, b4⟩, b5, b6, b7⟩
    have kcb : Rl noF 0 s t2 ∧ Ar t2 ∧ Kf s t2 ∧ ∀ f j, f / 128 = 144 → gI t2 f j = gI s f j := ⟨kc1.1.1.trans b1, b2, ⟨b3.1.trans kc1.1.2.2.1.1, b3.2.trans kc1.1.2.2.1.2⟩, fun f j q => (b4 f j q).trans (kc1.1.2.2.2 f j q)⟩
    have old : ∀ k : Int32, rC s ≤ k.toInt → k.toInt < rC t1 → Vc t2 k := fun k q1 q2 => by
      have w := b1.2.2.2.2.2.1 k (by omega) q2
      exact (kc1.2.2.2 k q1 q2).eq w.1 w.2
    refine ⟨fun r0 => ⟨i.toInt, i0, ⟨kcb, by rw [b6 r0]; exact rc1, by rw [b6 r0]; omega, fun k q1 q2 => old k q1 (by rw [← b6 r0]; exact q2)⟩, fun z => by simp at z⟩, fun r0 => ?_⟩
    obtain ⟨d1, d2⟩ := b7 r0
    refine ⟨⟨rfl, by dsimp only; omega, by dsimp only; omega, kcb, by dsimp only; omega, by omega, fun k q1 q2 => ?_⟩, by omega⟩
    by_cases z : k.toInt < rC t1
    · exact old k q1 z
    · have ek : k = gI t1 12938 0 := toInt_inj (by show k.toInt = rC t1; omega)
      rw [ek]
      exact d2
/-- the constants have been read -/
def kcQ (s : S1) (p v : Int32) (t : S1) : Prop := (Rl kcF p s t ∧ Ar t ∧ Kf s t ∧ (∀ f j, f / 128 = 144 → ¬ ((f = 18437 ∨ f = 18438) ∧ j = p) → gI t f j = gI s f j)) ∧ (v = 0 ∨ v = 1) ∧ (v ≠ 0 → pCs t p = rC s ∧ 0 ≤ pNc t p ∧ rC t = rC s + pNc t p ∧ rC t + rK s ≤ 20000 ∧ ∀ k : Int32, rC s ≤ k.toInt → k.toInt < rC t → Vc t k)
theorem constants_ok {s : S1} {p : Int32} (a : Ar s) (c0 : 0 ≤ rC s) (k0 : 0 ≤ rK s) (ck : rC s + rK s ≤ 20000) : ok (M_Ch_readConstants p) s (kcQ s p) := by
  simp only [M_Ch_readConstants, ok_B, ok_C, ok_R, ok_L, ok_K, ok_GI, ok_GL, ok_PI, ok_PL, ok_AI, ok_AL, ok_SI, ok_SL, ok_CI, cmp_lt, cmp_le, cmp_gt, cmp_ge, cmp_eq, nar0, nar1, Sum.elim_inl, Sum.elim_inr, ok_PzT, ok_PzC, ok_PzP, ok_PrC, ok_PrP, ok_PrF, ok_PrN, ok_Ln, ok_CL, ok_Nw, ok_S, ok_Ks, ok_Nz]
  have rs : Rl kcF p s (sI s 18438 p (gI s 12938 0)) := Rl.set p _ s (.inr rfl) (by decide)
  have g : ∀ f j, ¬ (f = 18438 ∧ j = p) → gI (sI s 18438 p (gI s 12938 0)) f j = gI s f j := fun f j q => by rw [gI_sI, if_neg q]
  have gs : gI (sI s 18438 p (gI s 12938 0)) 18438 p = gI s 12938 0 := by rw [gI_sI, if_pos ⟨rfl, rfl⟩]
  generalize sI s 18438 p (gI s 12938 0) = s1 at rs g gs ⊢
  have g1 : ∀ f j, f ≠ 18438 → gI s1 f j = gI s f j := fun f j q => g f j (fun z => q z.1)
  have ce1 : Ce s s1 := ⟨g1 _ _ (by decide), g1 _ _ (by decide), g1 _ _ (by decide)⟩
  refine ok_mono (numSet (f := 18437) (.inr rfl) (.inl rfl) (by decide) rs (a.of (g1 _ _ (by decide)) (g1 _ _ (by decide))) ce1) ?_
  rintro v t ⟨r2, a2, c2, g2, o2, v2⟩
  have og : ∀ f j, f / 128 = 144 → ¬ ((f = 18437 ∨ f = 18438) ∧ j = p) → gI (sI t 18437 p v) f j = gI s f j := fun f j q r => r2.1 f j (by unfold rdX; omega) (fun z => r ⟨z.1, z.2⟩)
  generalize sI t 18437 p v = w at r2 a2 c2 g2 o2 og ⊢
  rw [g2]
  have cw : rC w = rC s ∧ rK w = rK s ∧ rU w = rU s := ⟨by unfold rC; rw [c2.1], by unfold rK; rw [c2.2.1], by unfold rU; rw [c2.2.2]⟩
  have pw : pCs w p = rC s := by
    unfold pCs
    rw [o2 18438 (by decide) (by decide), gs]
  have nw : pNc w p = v.toInt := by
    unfold pNc
    rw [g2]
  refine ⟨fun v0 => ?_, fun _ => ⟨⟨r2, a2, ⟨c2.2.1, c2.2.2⟩, og⟩, .inl rfl, fun z => absurd rfl z⟩⟩
  have vb := neg_w v2 v0
  refine ok_mono (kcLoop_ok (p := p) a2 (by rw [nw]; exact vb.1) (by rw [cw.1]; exact c0) (by rw [cw.2.1]; exact k0) (by rw [cw.1, cw.2.1]; exact ck)) ?_
  rintro e z ⟨i, i0, kc, last⟩
  have b : Rl kcF p s z ∧ Ar z ∧ Kf s z ∧ (∀ f j, f / 128 = 144 → ¬ ((f = 18437 ∨ f = 18438) ∧ j = p) → gI z f j = gI s f j) := ⟨r2.trans kc.1.1.no, kc.1.2.1, ⟨kc.1.2.2.1.1.trans c2.2.1, kc.1.2.2.1.2.trans c2.2.2⟩, fun f j q r => (kc.1.2.2.2 f j q).trans (og f j q r)⟩
  have no : ∀ {y : S1}, Nn z y → Ar y → kcQ s p 0 y := fun {y} n ay => ⟨⟨b.1.trans (n.rl _ _), ay, ⟨n.kf.1.trans b.2.2.1.1, n.kf.2.trans b.2.2.1.2⟩, fun f j q r => (n.at_ j (.inl q)).trans (b.2.2.2 f j q r)⟩, .inl rfl, fun z => absurd rfl z⟩
  have rf : ∀ x y, ok (M_Ch_refuse x y) z (fun v w => (v = 0 ∨ v = 1) ∧ kcQ s p v w) := fun x y => by
    refine ok_mono (refuse_ok z x y) ?_
    rintro v w ⟨v0, n, ea⟩
    rw [v0]
    exact ⟨.inl rfl, no n (b.2.1.of ea (n.at_ 0 (by decide)))⟩
  rcases e with e | e | e | e | e
  · simp only [Sum.elim_inl, Sum.elim_inr, ok_B, ok_C, ok_R, ok_L, ok_K, ok_GI, ok_GL, ok_PI, ok_PL, ok_AI, ok_AL, ok_SI, ok_SL, ok_CI, cmp_lt, cmp_le, cmp_gt, cmp_ge, cmp_eq, nar0, nar1, Sum.elim_inl, Sum.elim_inr, ok_PzT, ok_PzC, ok_PzP, ok_PrC, ok_PrP, ok_PrF, ok_PrN, ok_Ln, ok_CL, ok_Nw, ok_S, ok_Ks, ok_Nz]
    exact no (Nn.refl z) b.2.1
  · simp only [Sum.elim_inl, Sum.elim_inr, ok_B, ok_C, ok_R, ok_L, ok_K, ok_GI, ok_GL, ok_PI, ok_PL, ok_AI, ok_AL, ok_SI, ok_SL, ok_CI, cmp_lt, cmp_le, cmp_gt, cmp_ge, cmp_eq, nar0, nar1, Sum.elim_inl, Sum.elim_inr, ok_PzT, ok_PzC, ok_PzP, ok_PrC, ok_PrP, ok_PrF, ok_PrN, ok_Ln, ok_CL, ok_Nw, ok_S, ok_Ks, ok_Nz]
    exact rf _ _
  · simp only [Sum.elim_inl, Sum.elim_inr, ok_B, ok_C, ok_R, ok_L, ok_K, ok_GI, ok_GL, ok_PI, ok_PL, ok_AI, ok_AL, ok_SI, ok_SL, ok_CI, cmp_lt, cmp_le, cmp_gt, cmp_ge, cmp_eq, nar0, nar1, Sum.elim_inl, Sum.elim_inr, ok_PzT, ok_PzC, ok_PzP, ok_PrC, ok_PrP, ok_PrF, ok_PrN, ok_Ln, ok_CL, ok_Nw, ok_S, ok_Ks, ok_Nz]
    exact rf _ _
  · simp only [Sum.elim_inl, Sum.elim_inr, ok_B, ok_C, ok_R, ok_L, ok_K, ok_GI, ok_GL, ok_PI, ok_PL, ok_AI, ok_AL, ok_SI, ok_SL, ok_CI, cmp_lt, cmp_le, cmp_gt, cmp_ge, cmp_eq, nar0, nar1, Sum.elim_inl, Sum.elim_inr, ok_PzT, ok_PzC, ok_PzP, ok_PrC, ok_PrP, ok_PrF, ok_PrN, ok_Ln, ok_CL, ok_Nw, ok_S, ok_Ks, ok_Nz]
    exact no (Nn.refl z) b.2.1
  · simp only [Sum.elim_inl, Sum.elim_inr, ok_B, ok_C, ok_R, ok_L, ok_K, ok_GI, ok_GL, ok_PI, ok_PL, ok_AI, ok_AL, ok_SI, ok_SL, ok_CI, cmp_lt, cmp_le, cmp_gt, cmp_ge, cmp_eq, nar0, nar1, Sum.elim_inl, Sum.elim_inr, ok_PzT, ok_PzC, ok_PzP, ok_PrC, ok_PrP, ok_PrF, ok_PrN, ok_Ln, ok_CL, ok_Nw, ok_S, ok_Ks, ok_Nz]
    have il := last rfl
    have e7 : pNc z p = pNc w p := by
      unfold pNc
      rw [kc.1.2.2.2 18437 p (by decide)]
    have e8 : pCs z p = pCs w p := by
      unfold pCs
      rw [kc.1.2.2.2 18438 p (by decide)]
    have k1 := kc.2.1
    have k2 := kc.2.2.1
    rw [cw.1] at k1
    rw [cw.2.1] at k2
    refine ⟨b, .inr rfl, fun _ => ⟨by rw [e8, pw], by rw [e7, nw]; exact vb.1, by rw [e7, ← il]; exact k1, k2, fun k q1 q2 => kc.2.2.2 k (by rw [cw.1]; exact q1) q2⟩⟩
def cdF (f : Nat) : Prop := f = 18439 ∨ f = 18440 ∨ f = 18441
def Uf (s t : S1) : Prop := gI t 12938 0 = gI s 12938 0 ∧ gI t 12940 0 = gI s 12940 0
theorem Nn.uf {s t : S1} (h : Nn s t) : Uf s t := ⟨h.at_ 0 (by decide), h.at_ 0 (by decide)⟩
/-- code is being read -/
def cdI (s : S1) (i : Int) (t : S1) : Prop := (Rl noF 0 s t ∧ Ar t ∧ Uf s t ∧ ∀ f j, f / 128 = 144 → gI t f j = gI s f j) ∧ rK t = rK s + i ∧ rC s + rK t ≤ 20000
theorem cdI.nn {s t u : S1} {i : Int} (h : cdI s i t) (n : Nn t u) (a : Ar u) : cdI s i u := by
  obtain ⟨⟨h1, h2, h3, h4⟩, h5, h6⟩ := h
  have eu : rK u = rK t := by
    unfold rK
    rw [n.at_ 0 (by decide)]
  exact ⟨⟨h1.trans (n.rl _ _), a, ⟨n.uf.1.trans h3.1, n.uf.2.trans h3.2⟩, fun f j q => (n.at_ j (.inl q)).trans (h4 f j q)⟩, eu.trans h5, by rw [eu]; exact h6⟩
theorem cdI.add {s t : S1} {x : Int32} {i : Int} (h : cdI s i t) (u0 : 0 ≤ rK t) (u1 : rC s + rK t < 20000) (c0 : 0 ≤ rC s) : cdI s (i + 1) (sI (sA t 104 0 (gI t 12939 0) x) 12939 0 (gI t 12939 0 + 1)) := by
  obtain ⟨⟨h1, h2, h3, h4⟩, h5, h6⟩ := h
  have g : ∀ f j, f ≠ 12939 → gI (sI (sA t 104 0 (gI t 12939 0) x) 12939 0 (gI t 12939 0 + 1)) f j = gI t f j := fun f j q => by
    rw [gI_sI, if_neg (fun z => q z.1)]
    rfl
  have gu : rK (sI (sA t 104 0 (gI t 12939 0) x) 12939 0 (gI t 12939 0 + 1)) = rK t + 1 := by
    show (gI _ 12939 0).toInt = _
    rw [gI_sI, if_pos ⟨rfl, rfl⟩, ktI_add]
    · rfl
    · show -2147483648 ≤ rK t + 1 ∧ rK t + 1 < 2147483648
      omega
  have gA_ : ∀ b j k, gA (sI (sA t 104 0 (gI t 12939 0) x) 12939 0 (gI t 12939 0 + 1)) b j k = if b = 104 ∧ j = 0 ∧ k = gI t 12939 0 then x else gA t b j k := fun b j k => by rw [gA_sI, gA_sA]
  refine ⟨⟨h1.trans ⟨fun f j q _ => g f j (fun z => q (by rw [z]; unfold rdX; decide)), fun _ _ => rfl, fun b j k q => ?_, fun _ _ _ _ => rfl, fun k k0 k1 => ?_, fun k _ _ => ⟨?_, rfl⟩, fun k _ _ => ?_, ?_, by rw [gu]; omega, ?_⟩, h2.of (g _ _ (by decide)) (g _ _ (by decide)), ⟨(g _ _ (by decide)).trans h3.1, (g _ _ (by decide)).trans h3.2⟩, fun f j q => (g f j (by omega)).trans (h4 f j q)⟩, by rw [gu]; omega, by rw [gu]; omega⟩
  · rw [gA_, if_neg (fun z => q.1 z.1)]
  · rw [gA_, if_neg (fun z => ?_)]
    rw [z.2.2] at k1
    exact absurd k1 (Int.lt_irrefl _)
  · rw [gA_, if_neg (fun z => absurd z.1 (by decide))]
  · rw [gA_, if_neg (fun z => absurd z.1 (by decide))]
  · unfold rC
    rw [g _ _ (by decide)]
    exact Int.le_refl _
  · unfold rU
    rw [g _ _ (by decide)]
    exact Int.le_refl _
def cdP (s : S1) (N : Int) (e : Unit ⊕ Unit ⊕ Unit) (t : S1) : Prop := ∃ i : Int, 0 ≤ i ∧ cdI s i t ∧ (e = .inr (.inr ()) → i = N)
def cdL (s : S1) (p : Int32) (y : Int32 × Int32) (t : S1) : Prop := y.1 = p ∧ 0 ≤ y.2.toInt ∧ y.2.toInt ≤ pNi s p ∧ cdI s y.2.toInt t
theorem cdLoop_ok {s : S1} {p : Int32} (a : Ar s) (hc : 0 ≤ pNi s p) (c0 : 0 ≤ rC s) (k0 : 0 ≤ rK s) (ck : rC s + rK s ≤ 20000) : ok (oW M_Ch_readCode_L55 (p, 0)) s (cdP s (pNi s p)) := by
  have e0 : (0 : Int32).toInt = 0 := rfl
  have e1 : (1 : Int32).toInt = 1 := rfl
  have e4 : (4 : Int32).toInt = 4 := rfl
  have e2 : (20000 : Int32).toInt = 20000 := rfl
  refine ok_W (cdL s p) (fun y _ => (2147483648 - y.2.toInt).toNat) ?_ (p, 0) s ⟨rfl, Int.le_refl _, by show (0 : Int32).toInt ≤ _; rw [e0]; exact hc, ⟨Rl.refl _ _ s, a, ⟨rfl, rfl⟩, fun _ _ _ => rfl⟩, by show rK s = rK s + (0 : Int32).toInt; rw [e0]; omega, ck⟩
  rintro ⟨p', i⟩ t ⟨ep, i0, i1, cd⟩
  dsimp only at ep i0 i1 cd
  rw [ep]
  have f1 := cd.1.2.2.2
  have rk1 := cd.2.1
  have ck1 := cd.2.2
  simp only [M_Ch_readCode_L55, ok_B, ok_C, ok_R, ok_L, ok_K, ok_GI, ok_GL, ok_PI, ok_PL, ok_AI, ok_AL, ok_SI, ok_SL, ok_CI, cmp_lt, cmp_le, cmp_gt, cmp_ge, cmp_eq, nar0, nar1, Sum.elim_inl, Sum.elim_inr, ok_PzT, ok_PzC, ok_PzP, ok_PrC, ok_PrP, ok_PrF, ok_PrN, ok_Ln, ok_CL, ok_Nw, ok_S, ok_Ks, ok_Nz]
  rw [f1 18439 p (by decide)]
  have es : (gI t 12938 0 + gI t 12939 0).toInt = rC s + rK t := by
    rw [cd.1.2.2.1.1]
    exact ktI_add (by show -2147483648 ≤ rC s + rK t ∧ rC s + rK t < 2147483648; omega)
  refine ⟨fun c => ⟨i.toInt, i0, cd, fun _ => ?_⟩, fun c => ⟨fun _ => ⟨fun cs => ?_, fun _ => ⟨i.toInt, i0, cd, fun z => by simp at z⟩⟩, fun _ => ⟨i.toInt, i0, cd, fun z => by simp at z⟩⟩⟩
  · rw [i32_le] at c
    change pNi s p ≤ i.toInt at c
    omega
  · rw [i32_le] at c
    change ¬ pNi s p ≤ i.toInt at c
    rw [i32_lt, es] at cs
    have ei : (i + 1).toInt = i.toInt + 1 := by
      have : i.toInt < pNi s p := by omega
      have : pNi s p < 2147483648 := Int32.toInt_lt (gI s 18439 p)
      rw [ktI_add] <;> omega
    refine ok_mono (number_ok (.inr (.inr rfl)) cd.1.2.1) ?_
    rintro v t1 ⟨⟨n1, a2, -, -⟩, -⟩
    have cd1 := cd.nn n1 a2
    have eg : gI t1 12939 0 = gI t 12939 0 := n1.at_ 0 (by decide)
    have er : rK t1 = rK t := by
      unfold rK
      rw [eg]
    rw [← eg]
    refine ⟨⟨by rw [i32_le]; show 0 ≤ rK t1; omega, by rw [i32_lt]; show rK t1 < 20000; omega⟩, ⟨rfl, by dsimp only; omega, by dsimp only; omega, by dsimp only; rw [ei]; exact cd1.add (by omega) (by omega) c0⟩, by omega⟩
/-- the code has been read -/
def cdQ (s : S1) (p v : Int32) (t : S1) : Prop := (Rl cdF p s t ∧ Ar t ∧ Uf s t ∧ (∀ f j, f / 128 = 144 → ¬ (cdF f ∧ j = p) → gI t f j = gI s f j)) ∧ (v = 0 ∨ v = 1) ∧ (v ≠ 0 → pKs t p = rK s ∧ 0 < pNi t p ∧ rK t = rK s + pNi t p ∧ rC s + rK t ≤ 20000)
theorem code_ok {s : S1} {p : Int32} (a : Ar s) (c0 : 0 ≤ rC s) (k0 : 0 ≤ rK s) (ck : rC s + rK s ≤ 20000) : ok (M_Ch_readCode p) s (cdQ s p) := by
  simp only [M_Ch_readCode, ok_B, ok_C, ok_R, ok_L, ok_K, ok_GI, ok_GL, ok_PI, ok_PL, ok_AI, ok_AL, ok_SI, ok_SL, ok_CI, cmp_lt, cmp_le, cmp_gt, cmp_ge, cmp_eq, nar0, nar1, Sum.elim_inl, Sum.elim_inr, ok_PzT, ok_PzC, ok_PzP, ok_PrC, ok_PrP, ok_PrF, ok_PrN, ok_Ln, ok_CL, ok_Nw, ok_S, ok_Ks, ok_Nz]
  have rs : Rl cdF p s (sI s 18440 p (gI s 12939 0)) := Rl.set p _ s (.inr (.inl rfl)) (by decide)
  have g1 : ∀ f j, f ≠ 18440 → gI (sI s 18440 p (gI s 12939 0)) f j = gI s f j := fun f j q => by rw [gI_sI, if_neg (fun z => q z.1)]
  have gs : gI (sI s 18440 p (gI s 12939 0)) 18440 p = gI s 12939 0 := by rw [gI_sI, if_pos ⟨rfl, rfl⟩]
  generalize sI s 18440 p (gI s 12939 0) = s1 at rs g1 gs ⊢
  have ce1 : Ce s s1 := ⟨g1 _ _ (by decide), g1 _ _ (by decide), g1 _ _ (by decide)⟩
  refine ok_mono (numSet (f := 18439) (.inr rfl) (.inl rfl) (by decide) rs (a.of (g1 _ _ (by decide)) (g1 _ _ (by decide))) ce1) ?_
  rintro v t ⟨r2, a2, c2, g2, o2, v2⟩
  generalize sI t 18439 p v = w at r2 a2 c2 g2 o2 ⊢
  rw [g2]
  have no : ∀ {y : S1}, Rl cdF p s y → Ce s y → Ar y → cdQ s p 0 y := fun {y} r c ay => ⟨⟨r, ay, ⟨c.1, c.2.2⟩, fun f j q z => r.1 f j (by unfold rdX; omega) z⟩, .inl rfl, fun z => absurd rfl z⟩
  refine ⟨fun v0 => ⟨fun _ => ?_, fun vz => ?_⟩, fun _ => no r2 c2 a2⟩
  · refine ok_mono (refuse_ok w _ _) ?_
    rintro v w2 ⟨v0, n, ea⟩
    rw [v0]
    exact ⟨.inl rfl, no (r2.trans (n.rl _ _)) (c2.trans n.ce) (a2.of ea (n.at_ 0 (by decide)))⟩
  · have vb := neg_w v2 v0
    have rs3 : Rl cdF p w (sI w 18441 p (gI w 12942 0)) := Rl.set p _ w (.inr (.inr rfl)) (by decide)
    have g3 : ∀ f j, f ≠ 18441 → gI (sI w 18441 p (gI w 12942 0)) f j = gI w f j := fun f j q => by rw [gI_sI, if_neg (fun z => q z.1)]
    generalize sI w 18441 p (gI w 12942 0) = w3 at rs3 g3 ⊢
    have r3 := r2.trans rs3
    have c3 : Ce s w3 := ⟨(g3 _ _ (by decide)).trans c2.1, (g3 _ _ (by decide)).trans c2.2.1, (g3 _ _ (by decide)).trans c2.2.2⟩
    have a3 : Ar w3 := a2.of (g3 _ _ (by decide)) (g3 _ _ (by decide))
    have nw : pNi w3 p = v.toInt := by
      unfold pNi
      rw [g3 _ _ (by decide), g2]
    have pw : pKs w3 p = rK s := by
      unfold pKs
      rw [g3 _ _ (by decide), o2 18440 (by decide) (by decide), gs]
    have cw : rC w3 = rC s ∧ rK w3 = rK s := ⟨by unfold rC; rw [c3.1], by unfold rK; rw [c3.2.1]⟩
    refine ok_mono (cdLoop_ok (p := p) a3 (by rw [nw]; exact vb.1) (by rw [cw.1]; exact c0) (by rw [cw.2]; exact k0) (by rw [cw.1, cw.2]; exact ck)) ?_
    rintro e z ⟨i, i0, cd, last⟩
    have b : Rl cdF p s z ∧ Ar z ∧ Uf s z ∧ (∀ f j, f / 128 = 144 → ¬ (cdF f ∧ j = p) → gI z f j = gI s f j) := by
      have rz := r3.trans (cd.1.1.no (F := cdF) (p := p))
      exact ⟨rz, cd.1.2.1, ⟨cd.1.2.2.1.1.trans c3.1, cd.1.2.2.1.2.trans c3.2.2⟩, fun f j q r => rz.1 f j (by unfold rdX; omega) r⟩
    have rf : ∀ x y, ok (M_Ch_refuse x y) z (fun v w => (v = 0 ∨ v = 1) ∧ cdQ s p v w) := fun x y => by
      refine ok_mono (refuse_ok z x y) ?_
      rintro v w ⟨v0, n, ea⟩
      rw [v0]
      exact ⟨.inl rfl, ⟨b.1.trans (n.rl _ _), b.2.1.of ea (n.at_ 0 (by decide)), ⟨n.uf.1.trans b.2.2.1.1, n.uf.2.trans b.2.2.1.2⟩, fun f j q r => (n.at_ j (.inl q)).trans (b.2.2.2 f j q r)⟩, .inl rfl, fun z => absurd rfl z⟩
    rcases e with e | e | e
    · simp only [Sum.elim_inl, Sum.elim_inr, ok_B, ok_C, ok_R, ok_L, ok_K, ok_GI, ok_GL, ok_PI, ok_PL, ok_AI, ok_AL, ok_SI, ok_SL, ok_CI, cmp_lt, cmp_le, cmp_gt, cmp_ge, cmp_eq, nar0, nar1, Sum.elim_inl, Sum.elim_inr, ok_PzT, ok_PzC, ok_PzP, ok_PrC, ok_PrP, ok_PrF, ok_PrN, ok_Ln, ok_CL, ok_Nw, ok_S, ok_Ks, ok_Nz]
      exact rf _ _
    · simp only [Sum.elim_inl, Sum.elim_inr, ok_B, ok_C, ok_R, ok_L, ok_K, ok_GI, ok_GL, ok_PI, ok_PL, ok_AI, ok_AL, ok_SI, ok_SL, ok_CI, cmp_lt, cmp_le, cmp_gt, cmp_ge, cmp_eq, nar0, nar1, Sum.elim_inl, Sum.elim_inr, ok_PzT, ok_PzC, ok_PzP, ok_PrC, ok_PrP, ok_PrF, ok_PrN, ok_Ln, ok_CL, ok_Nw, ok_S, ok_Ks, ok_Nz]
      exact rf _ _
    · simp only [Sum.elim_inl, Sum.elim_inr, ok_B, ok_C, ok_R, ok_L, ok_K, ok_GI, ok_GL, ok_PI, ok_PL, ok_AI, ok_AL, ok_SI, ok_SL, ok_CI, cmp_lt, cmp_le, cmp_gt, cmp_ge, cmp_eq, nar0, nar1, Sum.elim_inl, Sum.elim_inr, ok_PzT, ok_PzC, ok_PzP, ok_PrC, ok_PrP, ok_PrF, ok_PrN, ok_Ln, ok_CL, ok_Nw, ok_S, ok_Ks, ok_Nz]
      have il := last rfl
      have e7 : pNi z p = pNi w3 p := by
        unfold pNi
        rw [cd.1.2.2.2 18439 p (by decide)]
      have e8 : pKs z p = pKs w3 p := by
        unfold pKs
        rw [cd.1.2.2.2 18440 p (by decide)]
      have k1 := cd.2.1
      have k2 := cd.2.2
      rw [cw.2] at k1
      rw [cw.1] at k2
      have vn : v.toInt ≠ 0 := fun q => vz (toInt_inj q)
      refine ⟨b, .inr rfl, fun _ => ⟨by rw [e8, pw], by rw [e7, nw]; omega, by rw [e7, ← il]; exact k1, k2⟩⟩
