/-! The class: load. -/
theorem Bz.ca {s u t : S1} {n : Nat × Nat} (b : Bz s n) (l : lsF s u) (q : Nn u t) : Bz t n := by
  have I : ∀ f j, f ≠ 18442 ∧ f ≠ 18443 ∧ ¬ chX f → gI t f j = gI s f j := fun f j z => (q.1 f j z.2.2).trans (l.1 f j ⟨z.1, z.2.1⟩)
  have A : ∀ j, cTl t j = cTl s j := fun j => by
    unfold cTl
    show t.2.2.1 _ _ _ = _
    rw [q.2]
    exact l.2.2.1 _ _ _ (by decide)
  refine ⟨cRo.fi (x := 0) b.1 (fun f j z => I f j (by unfold chX; omega)) (fun j _ => A j), b.2.congr (fun f j z => I f j ?_)⟩
  unfold sfI at z
  unfold chX
  omega
theorem load_ok {s : S1} {n : Nat × Nat} (h : Fz s n) : ok (X_load n) s (fun r t => Fz t r.2) := by
  have e0 : (0 : Int32).toInt = 0 := rfl
  simp only [X_load, ok_B, ok_C, ok_R, ok_L, ok_K, ok_GI, ok_GL, ok_PI, ok_PL, ok_AI, ok_AL, ok_SI, ok_SL, ok_CI, cmp_lt, cmp_le, cmp_gt, cmp_ge, cmp_eq, nar0, nar1, Sum.elim_inl, Sum.elim_inr, ok_PzT, ok_PzC, ok_PzP, ok_PrC, ok_PrP, ok_PrF, ok_PrN, ok_Ln, ok_CL, ok_Nw, ok_S, ok_Ks, ok_Nz]
  have b1 : Be s (sI (sI s 12800 0 0) 12801 0 0) := ⟨fun f j q => by rw [gI_sI, if_neg (fun z => by omega), gI_sI, if_neg (fun z => by omega)], fun _ _ _ => rfl, fun _ _ _ _ => rfl, fun _ _ _ _ => rfl⟩
  have lm1 : lmR (sI (sI s 12800 0 0) 12801 0 0) := by
    unfold lmR
    rw [gI_sI, if_neg (fun z => absurd z.1 (by decide)), gI_sI, if_neg (fun z => absurd z.1 (by decide))]
    exact h.lm
  have bz1 := b1.bz lm1 h.2.1
  have f0 : gI (sI (sI s 12800 0 0) 12801 0 0) 12800 0 = 0 := by rw [gI_sI, if_neg (fun z => absurd z.1 (by decide)), gI_sI, if_pos ⟨rfl, rfl⟩]
  have f1 : gI (sI (sI s 12800 0 0) 12801 0 0) 12801 0 = 0 := by rw [gI_sI, if_pos ⟨rfl, rfl⟩]
  generalize sI (sI s 12800 0 0) 12801 0 0 = s1 at bz1 f0 f1 ⊢
  clear b1 lm1
  have fz : ∀ {t : S1} {m : Nat × Nat}, gI t 12800 0 = 0 → gI t 12801 0 = 0 → Bz t m → Fz t m := fun {t m} a b c => ⟨by rw [a]; decide, c, fun z => absurd b z⟩
  refine ok_mono ((readAll_ok bz1 h.1).zk (zl_Ch_readAll n _)) ?_
  rintro ⟨r, m⟩ t ⟨⟨bt, -, rd⟩, z1⟩
  dsimp only at bt rd ⊢
  have g0 : gI t 12800 0 = 0 := (z1.1 12800 0 (by omega)).trans f0
  have g1 : gI t 12801 0 = 0 := (z1.1 12801 0 (by omega)).trans f1
  refine ⟨fun _ => fz g0 g1 bt, fun r0 => ?_⟩
  refine ok_mono ((checkAll_ok (rd r0)).zk zl_Ch_checkAll) ?_
  rintro r' t' ⟨⟨-, u, ⟨l0, vc, lf⟩, nn, fin⟩, z2⟩
  have bt' := bt.ca lf nn
  have k0 : gI t' 12800 0 = 0 := (z2.1 12800 0 (by omega)).trans g0
  have k1 : gI t' 12801 0 = 0 := (z2.1 12801 0 (by omega)).trans g1
  refine ⟨fun _ => fz k0 k1 bt', fun r1 => ?_⟩
  obtain ⟨eu, pg⟩ := fin r1
  have I : ∀ f j, f ≠ 16641 → gI (sI t' 16641 0 0) f j = gI t' f j := fun f j q => by rw [gI_sI, if_neg (fun z => q z.1)]
  have b3 : Bz (sI t' 16641 0 0) m := ⟨cRo.fi (x := 0) bt'.1 (fun f j q => I f j (by omega)) (fun _ _ => rfl), bt'.2.congr (fun f j q => I f j (by unfold sfI at q; omega))⟩
  have pg3 : dPg (sI t' 16641 0 0) := by
    refine cPk.pg (s := t') ⟨fun f j q => I f j (by omega), fun _ _ _ _ => rfl⟩ ?_
    rw [eu]
    exact pg
  have vc3 : Vcs (sI t' 16641 0 0) := fun k a b => by
    unfold nCo at b
    rw [I _ _ (by decide), eu] at b
    rw [eu]
    exact (vc k a b).eq rfl rfl
  have o3 : gI (sI t' 16641 0 0) 16641 0 = 0 := by rw [gI_sI, if_pos ⟨rfl, rfl⟩]
  have m0 : gI (sI t' 16641 0 0) 12800 0 = 0 := (I _ _ (by decide)).trans k0
  have m1 : gI (sI t' 16641 0 0) 12801 0 = 0 := (I _ _ (by decide)).trans k1
  generalize sI t' 16641 0 0 = s3 at b3 pg3 vc3 o3 m0 m1 ⊢
  refine ok_mono ((boot_ok b3 pg3 vc3).zk (zl_Ma_boot m)) ?_
  rintro ⟨r2, m2⟩ w ⟨⟨bw, -, st⟩, z3⟩
  dsimp only at bw st ⊢
  have w0 : gI w 12800 0 = 0 := (z3.1 12800 0 (by omega)).trans m0
  have w1 : gI w 12801 0 = 0 := (z3.1 12801 0 (by omega)).trans m1
  have ow : outR w := by
    unfold outR
    rw [z3.2.2.2.2 rfl, o3]
    decide
  refine ⟨fun _ => fz w0 w1 bw, fun r3 => ?_⟩
  have be : Be w (sI w 12801 0 1) := ⟨fun f j q => by rw [gI_sI, if_neg (fun z => by omega)], fun _ _ _ => rfl, fun _ _ _ _ => rfl, fun _ _ _ _ => rfl⟩
  have lm : lmR (sI w 12801 0 1) := by
    unfold lmR
    rw [gI_sI, if_neg (fun z => absurd z.1 (by decide))]
    exact bw.1.1.2.2.2.2
  refine ⟨?_, be.bz lm bw, fun _ => be.rz lm ⟨.inl (st r3), ow⟩⟩
  rw [gI_sI, if_neg (fun z => absurd z.1 (by decide)), w0]
  decide
