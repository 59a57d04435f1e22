/-! The class: a load: the main function begins; the whole. -/
theorem Bi.bz {s0 s : S1} {n : Nat × Nat} (b : Bi s0 n s) (l : L0 s0) : Bz s n := ⟨b.2.1, b.2.2.1.sf l.2.1⟩
def bmQ (r : Int32 × (Nat × Nat)) (t : S1) : Prop := Bz t r.2 ∧ (r.1 = 0 ∨ r.1 = 1) ∧ (r.1 ≠ 0 → St0 t r.2)
theorem beginMain_ok {s0 s : S1} {n : Nat × Nat} {v : Int32} (l : L0 s0) (b : Bi s0 n s) (bn : Bn v s) (cn : ∀ i : Int32, 0 ≤ i.toInt → i.toInt < nCo s0 → Cn1 s i) : ok (M_Ma_beginMain n v) s bmQ := by
  have hh := b.hr l.1
  have e0 : (0 : Int32).toInt = 0 := rfl
  have e1 : (1 : Int32).toInt = 1 := rfl
  simp only [M_Ma_beginMain, ok_B, ok_C, ok_R, ok_L, ok_K, ok_GI, ok_GL, ok_PI, ok_PL, ok_AI, ok_AL, ok_SI, ok_SL, ok_CI, cmp_lt, cmp_le, cmp_gt, cmp_ge, cmp_eq, nar0, nar1, Sum.elim_inl, Sum.elim_inr, ok_PzT, ok_PzC, ok_PzP, ok_PrC, ok_PrP, ok_PrF, ok_PrN, ok_Ln, ok_CL, ok_Nw, ok_S, ok_Ks, ok_Nz]
  refine ok_mono (makeClosure_ok hh.1 b.2.1 0 1 ⟨by decide, by decide⟩) ?_
  rintro ⟨x, m⟩ t ⟨s1, mg, h1, t4, ro, q⟩
  dsimp only at ro q ⊢
  rw [mg.on hh.2] at h1 t4 q
  rcases q with ⟨x1, et⟩ | ⟨x0, s2, md, fi, kx, uf, ul⟩
  · refine ⟨fun z => absurd z ?_, fun _ => ?_⟩
    · rcases x1 with z | z <;> rw [z] <;> decide
    · rw [et] at ro ⊢
      exact ⟨⟨ro, b.2.2.1.sf l.2.1⟩, .inl rfl, fun z => absurd rfl z⟩
  · refine ⟨fun _ => ?_, fun z => absurd x0 z⟩
    have px : pT t x := ⟨md.nw.2.1.1, fi.2.2.2.2.2.2.2.trans md.nw.2.1.2⟩
    have ulc := clampI (x := cUl t x) (by omega)
    have ll : lnS t 147 x = (cUl t x).toNatClampNeg := rfl
    have oc : (Int32.ofNat (lnS t 147 x)).toInt = (cUl t x).toInt := by
      rw [ll]
      have : (cUl t x).toInt < 2147483648 := (cUl t x).toInt_lt
      rw [ofNat_clamp (by rw [i32_le]; omega)]
    refine ⟨px, uf, ⟨by decide, by rw [i32_lt, oc]; omega⟩, ?_⟩
    have fiU : cFi x s2 (sA t 147 x 0 v) := ⟨fi.1, fi.2.1, fun a j k z y => by rw [gA_sA, if_neg (fun w => y (.inr w.1) w.2.1)]; exact fi.2.2.1 a j k z y, fi.2.2.2.1, fi.2.2.2.2⟩
    have roU : cRo (sA t 147 x 0 v) m (0, 0) := cRo.fi (x := 0) ro (fun _ _ _ => rfl) (fun j _ => by unfold cTl; rw [gA_sA, if_neg (fun z => absurd z.1 (by decide))])
    have tyU : cTy (sA t 147 x 0 v) x = 6 := fiU.2.2.2.2.1.trans md.ty
    have ntU := md.nt h1.1 fiU (by decide)
    have kxU : cLk (sA t 147 x 0 v) x = 0 := kx
    have ufU : cUf (sA t 147 x 0 v) x = 1 := uf
    have ulU : 1 ≤ (cUl (sA t 147 x 0 v) x).toInt := ul
    have vU : cUp (sA t 147 x 0 v) x 0 = v := by
      unfold cUp
      rw [gA_sA, if_pos ⟨rfl, rfl, rfl⟩]
    generalize sA t 147 x 0 v = u at fiU roU tyU ntU kxU ufU ulU vU ⊢
    have keU := ntU.ke
    have bnU := bn.ke keU
    have kbU := b.2.2.1.trans keU.1
    have pgU : dPg u := kbU.pk.pg l.2.2.1
    have p0 := pgU.2.2.1 0 (by decide) (by show (0 : Int) < _; have := pgU.1.1; omega)
    have nu0 := p0.2.2.2.1
    have nu1 := pgU.2.2.2.1
    have pl : cHR u ∧ cNt x 6 s u := by
      refine md.plain h1 t4 fiU (.inr (.inl rfl)) ⟨⟨?_, ?_, fun _ => ⟨?_, ufU, ⟨?_, ?_⟩, fun i i0 i1 => ?_⟩, ?_, ?_, ?_⟩, ?_⟩ ?_ ?_
      · intro z
        exact absurd (tyU.symm.trans z) (by decide)
      · intro z
        exact absurd (tyU.symm.trans z) (by decide)
      · rw [kxU]
        exact ⟨by decide, p0.1⟩
      · rw [kxU, i32_le]
        exact nu0.1
      · rw [kxU, i32_le]
        show pNu u 0 ≤ _
        omega
      · rw [kxU, i32_lt] at i1
        change i.toInt < pNu u 0 at i1
        rw [i32_le] at i0
        have : i = 0 := toInt_inj (by omega)
        rw [this, vU]
        exact bnU.2.2
      · intro z
        exact absurd (tyU.symm.trans z) (by decide)
      · intro z
        exact absurd (tyU.symm.trans z) (by decide)
      · intro z
        exact absurd (tyU.symm.trans z) (by decide)
      · intro z
        exact absurd (tyU.symm.trans z) (by decide)
      · intro z
        exact absurd z (by decide)
      · intro z
        exact absurd z (by decide)
    have only : ∀ y, cLv false u y 6 → y = x := fun y k => Classical.byContradiction fun z => b.2.2.2 y (ntU.2.2.2.2.2.2 y 6 (by decide) z k)
    have bu : BU s0 v x m u := ⟨pl.1, roU, kbU, bnU, fun i i0 i1 => (cn i i0 i1).ke keU, ntU.1, kxU, only⟩
    have ldU : gI u 14221 0 = 1 := (kbU.1 14221 0 (by unfold kbX; decide)).trans l.1
    have sfU := kbU.sf l.2.1
    have x64 : 0 ≤ x.toInt64 := by
      rw [i32_le] at x0
      rw [Int64.le_iff_toInt_le, Int32.toInt_toInt64]
      exact x0
    refine ok_mono (makeCo_ok pl.1 roU sfU x.toInt64 (fun s3 mg3 _ => ?_)) ?_
    · rw [mg3.on ldU]
      exact .inr (.inr ⟨rfl, .inr ⟨⟨x64, by rw [i64_32]⟩, .inl (by rw [i64_32]; exact ntU.1)⟩⟩)
    · rintro ⟨y, m2⟩ w ⟨s3, mg3, h3, sw, row, q⟩
      dsimp only at row q ⊢
      rw [mg3.on ldU] at q
      rcases q with ⟨y1, ew⟩ | ⟨y0, hw, c, nc, ni⟩
      · refine ⟨fun z => absurd z ?_, fun _ => ⟨⟨row, sw⟩, .inl rfl, fun z => absurd rfl z⟩⟩
        rcases y1 with z | z <;> rw [z] <;> decide
      · refine ⟨fun _ => ?_, fun z => absurd y0 z⟩
        have cl : gI w 18564 y = c := ni.2.2.2.1
        have py : pT w y := hw.1.1.2 y nc.1.1.1 nc.1.1.2
        have pcw : pC w c := ⟨ni.1, ni.2.2.1⟩
        have key : ∀ T : S1, mnI w c T → ok (M_Ma_enterClosure x) T (fun _ t => bmQ (1, m2) t) := fun T hT => by
          obtain ⟨W, F, mc, s1, lx, kxT, d0, u0, a0⟩ := main_w l bu hw sw row nc ni hT
          have pgT := W.pg
          have p0 := pgT.2.2.1 0 (by decide) (by show (0 : Int) < _; have := pgT.1.1; omega)
          have nf : hu (M_Ma_enterClosure x) T (fun _ t => gI t 16396 0 = 0) := by
            refine enterNF (by rw [mc]; exact d0) (by rw [mc]; exact u0) a0 ?_ ?_
            · rw [kxT]
              exact p0.2.2.1.2
            · rw [kxT]
              exact ⟨p0.2.1.1, pgT.2.2.2.2⟩
          refine ok_mono ((enterClosure_ok W F (by rw [mc]; exact s1) lx).wh nf) ?_
          rintro - t' ⟨q, z⟩
          have q0 : St0 t' m2 := by
            rcases q with q | q
            · exact q
            · exact absurd (z.symm.trans q.2.2.2.1) (by decide)
          exact ⟨⟨q0.1.ro, q0.1.sf⟩, .inr rfl, fun _ => q0⟩
        simp only [M_Ma_begin, ok_B, ok_C, ok_R, ok_L, ok_K, ok_GI, ok_GL, ok_PI, ok_PL, ok_AI, ok_AL, ok_SI, ok_SL, ok_CI, cmp_lt, cmp_le, cmp_gt, cmp_ge, cmp_eq, nar0, nar1, Sum.elim_inl, Sum.elim_inr, ok_PzT, ok_PzC, ok_PzP, ok_PrC, ok_PrP, ok_PrF, ok_PrN, ok_Ln, ok_CL, ok_Nw, ok_S, ok_Ks, ok_Nz]
        have c64 : gI (sI w 14221 0 0) 18564 y = c := by
          rw [gI_sI, if_neg (fun z => absurd z.1 (by decide))]
          exact cl
        rw [c64]
        refine ⟨⟨py.1, ?_⟩, ⟨pcw.1, ?_⟩, ?_⟩
        · rw [gI_sI, if_neg (fun z => absurd z.1 (by decide))]
          exact py.2
        · rw [gI_sI, if_neg (fun z => absurd z.1 (by decide))]
          exact pcw.2
        · have c95 : gI (sI (sI w 14221 0 0) 16395 0 c) 16395 0 = c := by rw [gI_sI, if_pos ⟨rfl, rfl⟩]
          rw [c95]
          refine ⟨⟨pcw.1, ?_⟩, key _ ⟨fun f j => ?_, fun f j => ?_, rfl⟩⟩
          · rw [gI_sI, if_neg (fun z => absurd z.1 (by decide)), gI_sI, if_neg (fun z => absurd z.1 (by decide))]
            exact pcw.2
          · simp only [gI_sI, gI_sL]
          · simp only [gL_sI, gL_sL]
