/-! The class: reading a prototype, further. -/
theorem rd144 {f : Nat} (h : f / 128 = 144) : ¬ rdX f := by
  unfold rdX
  omega
/-- what a prototype's reading leaves -/
def rpF (p : Int32) (s t : S1) : Prop := (∀ f j, ¬ rdX f → f ≠ 12937 → ¬ (f / 128 = 144 ∧ j = p) → gI t f j = gI s f j) ∧ (∀ f j, gL t f j = gL s f j ∨ (f / 128 = 144 ∧ j = p)) ∧ (∀ a j k, a ≠ 104 ∧ a ≠ 105 ∧ a ≠ 107 → gA t a j k = gA s a j k)
def rpQ (s : S1) (p ar : Int32) (N : Int) (r : Int32 × (Nat × Nat)) (t : S1) : Prop := Bz t r.2 ∧ rpF p s t ∧ (r.1 = 0 ∨ r.1 = 1) ∧ (r.1 ≠ 0 → Rg t (N + 1) ∧ gI t 12937 0 = p + 1 ∧ gI t 18444 p = ar)
/-- the same, from a state with the prototype there -/
theorem proto22_ok {s : S1} {n : Nat × Nat} {p ar : Int32} {N : Int} (b : Bz s n) (rg : Rg s N) (hp : p.toInt = N) (hN : 0 ≤ N ∧ N < 250) (fl : gI s 18559 p = 1) (ha : (N = 0 ∧ ar = -1) ∨ (0 < N ∧ 0 ≤ ar.toInt ∧ ar.toInt < N)) : ok (M_Ch_readPrototype_j22 p ar n) s (rpQ s p ar N) := by
  obtain ⟨a0, ⟨c0, k0, ck⟩, ⟨u0, u1⟩, pd, vc⟩ := rg
  have e0 : (0 : Int32).toInt = 0 := rfl
  have em : (-1 : Int32).toInt = -1 := rfl
  simp only [M_Ch_readPrototype_j22, ok_B, ok_C, ok_R, ok_L, ok_K, ok_GI, ok_GL, ok_PI, ok_PL, ok_AI, ok_AL, ok_SI, ok_SL, ok_CI, cmp_lt, cmp_le, cmp_gt, cmp_ge, cmp_eq, nar0, nar1, Sum.elim_inl, Sum.elim_inr, ok_PzT, ok_PzC, ok_PzP, ok_PrC, ok_PrP, ok_PrF, ok_PrN, ok_Ln, ok_CL, ok_Nw, ok_S, ok_Ks, ok_Nz]
  refine ⟨⟨⟨by rw [i32_le]; omega, by rw [i32_lt]; show p.toInt < 250; omega⟩, fl⟩, ?_⟩
  have I : ∀ f j, ¬ (f = 12937 ∧ j = 0) → ¬ (f = 18444 ∧ j = p) → gI (sI (sI s 18444 p ar) 12937 0 (p + 1)) f j = gI s f j := fun f j x y => by rw [gI_sI, if_neg x, gI_sI, if_neg y]
  have I7 : gI (sI (sI s 18444 p ar) 12937 0 (p + 1)) 12937 0 = p + 1 := by rw [gI_sI, if_pos ⟨rfl, rfl⟩]
  have I4 : gI (sI (sI s 18444 p ar) 12937 0 (p + 1)) 18444 p = ar := by rw [gI_sI, if_neg (fun z => absurd z.1 (by decide)), gI_sI, if_pos ⟨rfl, rfl⟩]
  have I2 : (sI (sI s 18444 p ar) 12937 0 (p + 1)).2 = s.2 := rfl
  generalize sI (sI s 18444 p ar) 12937 0 (p + 1) = u at I I7 I4 I2 ⊢
  have uA : ∀ a j k, gA u a j k = gA s a j k := fun a j k => by show u.2.2.1 _ _ _ = s.2.2.1 _ _ _; rw [I2]
  have uB : ∀ a j k, gB u a j k = gB s a j k := fun a j k => by show u.2.2.2 _ _ _ = s.2.2.2 _ _ _; rw [I2]
  have uL : ∀ f j, gL u f j = gL s f j := fun f j => by show u.2.1 _ _ = s.2.1 _ _; rw [I2]
  have uG : ∀ f j, f / 128 ≠ 144 → f ≠ 12937 → gI u f j = gI s f j := fun f j x y => I f j (fun z => y z.1) (fun z => by omega)
  have au : Ar u := a0.of (uG _ _ (by decide) (by decide)) (uG _ _ (by decide) (by decide))
  have cu : rC u = rC s ∧ rK u = rK s ∧ rU u = rU s := ⟨by unfold rC; rw [uG _ _ (by decide) (by decide)], by unfold rK; rw [uG _ _ (by decide) (by decide)], by unfold rU; rw [uG _ _ (by decide) (by decide)]⟩
  have bu : Bz u n := ⟨cRo.fi (x := 0) b.1 (fun f j q => I f j (fun z => by omega) (fun z => by omega)) (fun j _ => uA _ _ _), b.2.congr (fun f j q => I f j (fun z => by unfold sfI at q; omega) (fun z => by unfold sfI at q; omega))⟩
  -- what any reading from u on leaves
  have fin : ∀ {t : S1}, Rl aF p u t → rpF p s t ∧ Bz t n := fun {t} r => by
    refine ⟨⟨fun f j x y z => ?_, fun f j => .inl ((r.2.1 f j).trans (uL f j)), fun a j k q => (r.2.2.1 a j k q).trans (uA a j k)⟩, bu.rl r (fun f q => q)⟩
    rw [r.1 f j x (fun w => z ⟨by have := w.1; unfold aF at this; omega, w.2⟩)]
    exact I f j (fun w => y w.1) (fun w => z ⟨by rw [w.1], w.2⟩)
  have no : ∀ {t : S1}, Rl aF p u t → rpQ s p ar N (0, n) t := fun {t} r => ⟨(fin r).2, (fin r).1, .inl rfl, fun z => absurd rfl z⟩
  have mh : ∀ f, hdF f → aF f := fun f q => by unfold hdF at q; unfold aF; omega
  have mu : ∀ f, u6F f → aF f := fun f q => by unfold u6F at q; unfold aF; omega
  have mk : ∀ f, kcF f → aF f := fun f q => by unfold kcF at q; unfold aF; omega
  have mc : ∀ f, cdF f → aF f := fun f q => by unfold cdF at q; unfold aF; omega
  refine ok_mono (head_ok au) ?_
  rintro v1 t1 ⟨r1, a1, c1, -, h1⟩
  refine ⟨fun _ => no (r1.mono mh), fun z1 => ?_⟩
  have H1 := h1 z1
  have g1 : ∀ f j, f / 128 = 144 → ¬ (hdF f ∧ j = p) → gI t1 f j = gI u f j := fun f j q z => r1.1 f j (rd144 q) z
  have ar1 : gI t1 18444 p = ar := by rw [g1 _ _ (by decide) (fun z => absurd z.1 (by unfold hdF; decide)), I4]
  have cc1 : rC t1 = rC s ∧ rK t1 = rK s ∧ rU t1 = rU s := ⟨by unfold rC; rw [c1.1]; exact cu.1, by unfold rK; rw [c1.2.1]; exact cu.2.1, by unfold rU; rw [c1.2.2]; exact cu.2.2⟩
  have pu := H1.2.2.1
  refine ok_mono (upvalues_ok (p := p) a1 pu (by rw [cc1.2.2]; exact u0) (by rw [cc1.2.2]; omega) (fun z => ?_)) ?_
  · rw [ar1] at z ⊢
    rw [i32_le] at z
    rcases ha with ⟨-, q⟩ | ⟨-, q1, q2⟩
    · rw [q] at z
      exact absurd z (by decide)
    · have w := (pd ar q1 q2).1
      refine ⟨⟨by rw [i32_le]; omega, by rw [i32_lt]; show ar.toInt < 250; omega⟩, ?_⟩
      rw [g1 _ _ (by decide) (fun z => absurd z.1 (by unfold hdF; decide)), I _ _ (fun z => absurd z.1 (by decide)) (fun z => absurd z.1 (by decide))]
      exact w
  rintro v2 t2 ⟨⟨r2, a2, c2, g2⟩, ul2, -, h2⟩
  refine ⟨fun _ => no ((r1.mono mh).trans (r2.mono mu)), fun z2 => ?_⟩
  obtain ⟨p2, q2, w2⟩ := h2 z2
  have cc2 : rC t2 = rC s ∧ rK t2 = rK s := ⟨by unfold rC; rw [c2.1]; exact cc1.1, by unfold rK; rw [c2.2]; exact cc1.2.1⟩
  refine ok_mono (constants_ok (p := p) a2 (by rw [cc2.1]; exact c0) (by rw [cc2.2]; exact k0) (by rw [cc2.1, cc2.2]; exact ck)) ?_
  rintro v3 t3 ⟨⟨r3, a3, c3, g3⟩, -, h3⟩
  refine ⟨fun _ => no (((r1.mono mh).trans (r2.mono mu)).trans (r3.mono mk)), fun z3 => ?_⟩
  obtain ⟨p3, n3, q3, ck3, w3⟩ := h3 z3
  rw [cc2.1] at p3 q3 w3
  rw [cc2.2] at ck3
  have ck3' : rK t3 = rK s ∧ rU t3 = rU t2 := ⟨by unfold rK; rw [c3.1]; exact cc2.2, by unfold rU; rw [c3.2]⟩
  refine ok_mono (code_ok (p := p) a3 (by omega) (by rw [ck3'.1]; exact k0) (by rw [ck3'.1]; exact ck3)) ?_
  rintro v4 t4 ⟨⟨r4, a4, c4, g4⟩, -, h4⟩
  refine ⟨fun _ => no ((((r1.mono mh).trans (r2.mono mu)).trans (r3.mono mk)).trans (r4.mono mc)), fun z4 => ?_⟩
  obtain ⟨p4, n4, q4, ck4⟩ := h4 z4
  rw [ck3'.1] at p4 q4
  have rr4 := (((r1.mono mh).trans (r2.mono mu)).trans (r3.mono mk)).trans (r4.mono mc)
  refine ok_mono (numSet (F := aF) (f := 18442) (p := p) (s := t4) (u := t4) (.inl rfl) (by unfold aF; decide) (by decide) (Rl.refl _ _ _) a4 (Ce.refl _)) ?_
  rintro v5 t5 ⟨r5, a5, c5, g5, o5, b5⟩
  generalize sI t5 18442 p v5 = w at r5 a5 c5 g5 o5 ⊢
  rw [g5]
  have rr := rr4.trans r5
  have ff := fin rr
  refine ⟨fun _ => no rr, fun v0 => ⟨ff.2, ff.1, .inr rfl, fun _ => ⟨?_, ?_, ?_⟩⟩⟩
  rotate_left
  · rw [rr.1 12937 0 (by unfold rdX; decide) (fun z => absurd z.1 (by unfold aF; decide)), I7]
  · rw [rr.1 18444 p (by unfold rdX; decide) (fun z => absurd z.1 (by unfold aF; decide)), I4]
  have v0' : 0 ≤ v5 := by
    rw [i32_lt] at v0
    rw [i32_le]
    omega
  have vb := neg_b b5 v0'
  have ccw : rC w = rC t3 ∧ rK w = rK t4 ∧ rU w = rU t2 := ⟨by unfold rC; rw [c5.1, c4.1], by unfold rK; rw [c5.2.1], by unfold rU; rw [c5.2.2, c4.2]; exact ck3'.2⟩
  have gw : ∀ f, f / 128 = 144 → f ≠ 18442 → gI w f p = gI t4 f p := fun f x y => o5 f x y
  have gw4 : ∀ f, f / 128 = 144 → f ≠ 18442 → ¬ cdF f → gI w f p = gI t3 f p := fun f x y z => (gw f x y).trans (g4 f p x (fun q => z q.1))
  have gw3 : ∀ f, f / 128 = 144 → f ≠ 18442 → ¬ cdF f → ¬ kcF f → gI w f p = gI t2 f p := fun f x y z q => (gw4 f x y z).trans (g3 f p x (fun k => q k.1))
  have gw2 : ∀ f, f / 128 = 144 → f ≠ 18442 → ¬ cdF f → ¬ kcF f → f ≠ 18436 → gI w f p = gI t1 f p := fun f x y z q k => (gw3 f x y z q).trans (g2 f p x (fun l => k l.1))
  have arw : gI w 18444 p = ar := by rw [gw2 _ (by decide) (by decide) (by unfold cdF; decide) (by unfold kcF; decide) (by decide), ar1]
  have oldg : ∀ f j, f / 128 = 144 → j ≠ p → gI w f j = gI s f j := fun f j x y => by
    rw [rr.1 f j (rd144 x) (fun z => y z.2)]
    exact I f j (fun z => by omega) (fun z => y z.2)
  have mon : rC s ≤ rC w ∧ rK s ≤ rK w ∧ rU s ≤ rU w := by
    have := rr.2.2.2.2.2.2.2
    omega
  have uv107 : ∀ k : Int32, 0 ≤ k.toInt → k.toInt < rU t2 → gA w 107 0 k = gA t2 107 0 k := fun k x y => by
    have h3' := r3.2.2.2.2.2.2.1 k x y
    have h4' := r4.2.2.2.2.2.2.1 k x (by rw [ck3'.2]; exact y)
    have h5' := r5.2.2.2.2.2.2.1 k x (by rw [show rU t4 = rU t2 from by unfold rU; rw [c4.2]; exact ck3'.2]; exact y)
    rw [h5', h4', h3']
  refine ⟨a5, ⟨by omega, by omega, by omega⟩, ⟨by omega, by rw [ccw.2.2]; omega⟩, fun q x y => ?_, fun k x y => ?_⟩
  · by_cases z : q.toInt < N
    · have w := pd q x z
      have qp : ∀ j : Int32, j.toInt ≤ q.toInt → j ≠ p := fun j l e => by
        rw [e] at l
        omega
      exact w.eq (fun f j l m => oldg f j l (qp j m)) (fun k k0 k1 => by
        rw [rr.2.2.2.2.2.2.1 k k0 (by rw [cu.2.2]; exact k1), uA]) mon
    · have eq : q = p := toInt_inj (by omega)
      rw [eq]
      have g14 : ∀ f, f = 18432 ∨ f = 18434 ∨ f = 18435 → gI w f p = gI t1 f p := fun f q => gw2 f (by omega) (by omega) (by unfold cdF; omega) (by unfold kcF; omega) (by omega)
      refine ⟨?_, ?_, ⟨?_, ?_⟩, ⟨?_, ?_, ?_⟩, ⟨?_, ?_, ?_⟩, ⟨fun l => ?_, fun l => ?_, ?_⟩, ⟨?_, ?_⟩, fun l k k0 k1 => ?_⟩
      · rw [rr.1 18559 p (by unfold rdX; decide) (fun z => absurd z.1 (by unfold aF; decide)), I _ _ (fun z => absurd z.1 (by decide)) (fun z => absurd z.1 (by decide))]
        exact fl
      · unfold Hd pNp pNr pNu at H1 ⊢
        rw [g14 18432 (by decide), g14 18434 (by decide), g14 18435 (by decide), arw]
        rw [ar1] at H1
        exact H1
      · have : pUs w p = rU s := by
          unfold pUs at p2 ⊢
          rw [gw3 _ (by decide) (by decide) (by unfold cdF; decide) (by unfold kcF; decide), p2, cc1.2.2]
        rw [this]
        exact u0
      · have e1 : pUs w p = rU s := by
          unfold pUs at p2 ⊢
          rw [gw3 _ (by decide) (by decide) (by unfold cdF; decide) (by unfold kcF; decide), p2, cc1.2.2]
        have e2 : pNu w p = pNu t1 p := by
          unfold pNu
          rw [g14 18435 (by decide)]
        rw [e1, e2, ccw.2.2, q2, cc1.2.2]
        exact Int.le_refl _
      · have : pCs w p = rC s := by
          unfold pCs at p3 ⊢
          rw [gw4 _ (by decide) (by decide) (by unfold cdF; decide), p3]
        rw [this]
        exact c0
      · unfold pNc at n3 ⊢
        rw [gw4 _ (by decide) (by decide) (by unfold cdF; decide)]
        exact n3
      · have e1 : pCs w p = rC s := by
          unfold pCs at p3 ⊢
          rw [gw4 _ (by decide) (by decide) (by unfold cdF; decide), p3]
        have e2 : pNc w p = pNc t3 p := by
          unfold pNc
          rw [gw4 _ (by decide) (by decide) (by unfold cdF; decide)]
        rw [e1, e2, ccw.1]
        omega
      · have : pKs w p = rK s := by
          unfold pKs at p4 ⊢
          rw [gw _ (by decide) (by decide), p4]
        rw [this]
        exact k0
      · unfold pNi at n4 ⊢
        rw [gw _ (by decide) (by decide)]
        exact n4
      · have e1 : pKs w p = rK s := by
          unfold pKs at p4 ⊢
          rw [gw _ (by decide) (by decide), p4]
        have e2 : pNi w p = pNi t4 p := by
          unfold pNi
          rw [gw _ (by decide) (by decide)]
        rw [e1, e2, ccw.2.1]
        omega
      · rw [arw, i32_le]
        rcases ha with z | z
        · omega
        · omega
      · rw [arw, i32_lt]
        rcases ha with z | z
        · rw [z.2, em]
          decide
        · omega
      · rw [arw]
        rcases ha with z | z
        · rw [z.2, em]
          omega
        · omega
      · unfold pNh
        rw [g5]
        exact vb.1
      · unfold pNh
        rw [g5]
        exact vb.2
      · rw [arw] at l ⊢
        have e1 : pUs w p = rU s := by
          unfold pUs at p2 ⊢
          rw [gw3 _ (by decide) (by decide) (by unfold cdF; decide) (by unfold kcF; decide), p2, cc1.2.2]
        have e2 : pNu w p = pNu t1 p := by
          unfold pNu
          rw [g14 18435 (by decide)]
        rw [e1] at k0 k1
        rw [e2] at k1
        rw [cc1.2.2] at q2 w2
        rw [ar1] at w2
        have uv := w2 l k k0 (by omega)
        rw [uv107 k (by omega) (by omega)]
        have arN : ar ≠ p := fun e => by
          rw [e] at ha
          rw [i32_le] at l
          rcases ha with z | z
          · rw [z.2, em] at hp
            omega
          · omega
        have g1a : ∀ f, f / 128 = 144 → gI t1 f ar = gI s f ar := fun f x => by rw [g1 f ar x (fun z => arN z.2), I f ar (fun z => by omega) (fun z => arN z.2)]
        exact uv.eq (by rw [oldg _ _ (by decide) arN, g1a _ (by decide)]) (by rw [oldg _ _ (by decide) arN, g1a _ (by decide)])
  · by_cases z : k.toInt < rC s
    · have o := rr.2.2.2.2.2.1 k x (by rw [cu.1]; exact z)
      exact (vc k x z).eq (o.1.trans (uA _ _ _)) (o.2.trans (uB _ _ _))
    · have o4 := r4.2.2.2.2.2.1 k x (by omega)
      have o5' := r5.2.2.2.2.2.1 k x (by rw [show rC t4 = rC t3 from by unfold rC; rw [c4.1]]; omega)
      exact (w3 k (by omega) (by omega)).eq (o5'.1.trans o4.1) (o5'.2.trans o4.2)
theorem proto_ok {s : S1} {n : Nat × Nat} {p ar : Int32} {N : Int} (b : Bz s n) (rg : Rg s N) (hp : p.toInt = N) (hN : 0 ≤ N ∧ N < 250) (ha : (N = 0 ∧ ar = -1) ∨ (0 < N ∧ 0 ≤ ar.toInt ∧ ar.toInt < N)) : ok (M_Ch_readPrototype n p ar) s (rpQ s p ar N) := by
  have e0 : (0 : Int32).toInt = 0 := rfl
  have e250 : (250 : Int32).toInt = 250 := rfl
  have em : (-1 : Int32).toInt = -1 := rfl
  have hp' : 0 ≤ p ∧ p < 250 := ⟨by rw [i32_le]; omega, by rw [i32_lt]; omega⟩
  simp only [M_Ch_readPrototype, ok_B, ok_C, ok_R, ok_L, ok_K, ok_GI, ok_GL, ok_PI, ok_PL, ok_AI, ok_AL, ok_SI, ok_SL, ok_CI, cmp_lt, cmp_le, cmp_gt, cmp_ge, cmp_eq, nar0, nar1, Sum.elim_inl, Sum.elim_inr, ok_PzT, ok_PzC, ok_PzP, ok_PrC, ok_PrP, ok_PrF, ok_PrN, ok_Ln, ok_CL, ok_Nw, ok_S, ok_Ks, ok_Nz]
  refine ⟨hp', fun c => ⟨hp', ?_⟩, fun c => ?_⟩
  · have ab : ¬ gI s 18559 p = 1 := fun z => by
      change (if gI s 18559 p = 1 then p else -1) = -1 at c
      rw [if_pos z] at c
      rw [c, em] at hp
      omega
    obtain ⟨b1, b2, b3⟩ := b.new hp' ab (fun q x y => (rg.2.2.2.1 q x (by omega)).1)
    have n13 : nfF 144 = 13 := rfl
    rw [n13]
    refine ⟨b2, b1, ?_⟩
    have g : ∀ f j, ¬ (f / 128 = 144 ∧ j = p) → gI (nwO s 144 p) f j = gI s f j := fun f j q => by rw [nwO_I, if_neg q]
    have rg' : Rg (nwO s 144 p) N := by
      obtain ⟨a0, c0, u0, pd, vc⟩ := rg
      have g4 : ∀ f j, f / 128 ≠ 144 → gI (nwO s 144 p) f j = gI s f j := fun f j q => g f j (fun z => q z.1)
      have cc : rC (nwO s 144 p) = rC s ∧ rK (nwO s 144 p) = rK s ∧ rU (nwO s 144 p) = rU s := ⟨by unfold rC; rw [g4 _ _ (by decide)], by unfold rK; rw [g4 _ _ (by decide)], by unfold rU; rw [g4 _ _ (by decide)]⟩
      refine ⟨a0.of (g4 _ _ (by decide)) (g4 _ _ (by decide)), by rw [cc.1, cc.2.1]; exact c0, by rw [cc.2.2]; exact u0, fun q x y => (pd q x y).eq (fun f j l m => g f j (fun z => ?_)) (fun _ _ _ => rfl) ⟨by rw [cc.1]; exact Int.le_refl _, by rw [cc.2.1]; exact Int.le_refl _, by rw [cc.2.2]; exact Int.le_refl _⟩, fun k x y => ?_⟩
      · have := z.2
        rw [this] at m
        omega
      · rw [cc.1] at y
        exact (vc k x y).eq rfl rfl
    refine ok_mono (proto22_ok b3 rg' hp hN (by rw [nwO_I, if_pos ⟨rfl, rfl⟩, if_pos (by decide)]) ha) ?_
    rintro r t ⟨q1, q2, q3, q4⟩
    refine ⟨q1, ⟨fun f j x y z => (q2.1 f j x y z).trans (g f j z), fun f j => ?_, q2.2.2⟩, q3, q4⟩
    by_cases z : f / 128 = 144 ∧ j = p
    · exact .inr z
    · rcases q2.2.1 f j with w | w
      · rw [w]
        refine .inl ?_
        show (if f / 128 = 144 ∧ j = p then 0 else s.2.1 f j) = s.2.1 f j
        rw [if_neg z]
      · exact .inr w
  · have fl : gI s 18559 p = 1 := Decidable.byContradiction fun z => c (by
      change (if gI s 18559 p = 1 then p else -1) = -1
      rw [if_neg z])
    exact proto22_ok b rg hp hN fl ha
