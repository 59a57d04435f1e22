/-! The class: a load: the whole of boot. -/
theorem Bi.glob {s0 t : S1} {n : Nat × Nat} {g : Int32} (b : Bi s0 n t) : Bi (sI s0 16394 0 g) n (sI t 16394 0 g) := by
  have I : ∀ (s : S1) (f : Nat) (j : Int32), f ≠ 16394 → gI (sI s 16394 0 g) f j = gI s f j := fun s f j q => by rw [gI_sI, if_neg (fun z => q z.1)]
  have cw : cCw (-1) t (sI t 16394 0 g) := ⟨fun f j q _ _ => I t f j (by unfold hpI at q; omega), fun _ _ _ _ _ => rfl, fun _ _ _ _ _ => rfl, fun _ _ _ _ _ => rfl⟩
  refine ⟨b.1.sm cw, cRo.fi (x := 0) b.2.1 (fun f j q => I t f j (by omega)) (fun _ _ => rfl), ⟨fun f j q => ?_, b.2.2.1.2⟩, fun x l => b.2.2.2 x (cw.lv.1 l)⟩
  rw [gI_sI, gI_sI]
  by_cases z : f = 16394 ∧ j = 0
  · rw [if_pos z, if_pos z]
  · rw [if_neg z, if_neg z]
    exact b.2.2.1.1 f j q
theorem L0.glob {s0 : S1} {g : Int32} (l : L0 s0) : L0 (sI s0 16394 0 g) := by
  have I : ∀ f j, f ≠ 16394 → gI (sI s0 16394 0 g) f j = gI s0 f j := fun f j q => by rw [gI_sI, if_neg (fun z => q z.1)]
  obtain ⟨l1, l2, l3, l4, l5, l6, l7, l8⟩ := l
  refine ⟨(I _ _ (by decide)).trans l1, l2.congr (fun f j q => I f j (by unfold sfI at q; omega)), cPk.pg ⟨fun f j q => I f j (by omega), fun _ _ _ _ => rfl⟩ l3, fun k a b => (l4 k a ?_).eq rfl rfl, fun c p => ?_, (I _ _ (by decide)).trans l6, (I _ _ (by decide)).trans l7, (I _ _ (by decide)).trans l8⟩
  · unfold nCo at b ⊢
    rw [I _ _ (by decide)] at b
    exact b
  · rw [show oSl (sI s0 16394 0 g) c = oSl s0 c from I _ _ (by decide)]
    refine l5 c ⟨p.1, ?_⟩
    rw [← I 19071 c (by decide)]
    exact p.2
/-- from an empty heap on -/
theorem boot1_ok {s0 : S1} {n : Nat × Nat} (l : L0 s0) (b : Bi s0 n s0) : ok (oB (M_Ta_make n) fun v70 =>
  oB (oPI 16394 0 v70.1) fun _ =>
  oB (oGI 16394 0) fun v77 =>
  oC (v77 < 0)
    (oR ((0 : Int32), v70.2))
    (oB (M_Ma_internNames v70.2 60 0) fun v87 =>
    oC (v87.1 = 0)
      (oR (0, v87.2))
      (oB (M_Ma_internNames v87.2 61 24) fun v98 =>
      oC (v98.1 = 0)
        (oR (0, v98.2))
        (oB (M_Ma_internNames v98.2 62 46) fun v109 =>
        oC (v109.1 = 0)
          (oR (0, v109.2))
          (oB (oGI 16394 0) fun v123 =>
          oB (M_He_makeClosedVariable v109.2 5 v123.toInt64) fun v127 =>
          oC (v127.1 < 0)
            (M_Ma_boot_j161 v127.2)
            (oB (M_Ma_internConstants v127.2) fun v136 =>
            oC (v136.1 = 0)
              (M_Ma_boot_j161 v136.2)
              (oB (M_Ma_fillGlobals) fun v143 =>
              oC (v143 = 0)
                (M_Ma_boot_j161 v136.2)
                (oB (M_Ma_beginMain v136.2 v127.1) fun v151 =>
                oC (v151.1 = 0)
                  (M_Ma_boot_j161 v151.2)
                  (oR (1, v151.2)))))))))) s0 bmQ := by
  have no : ∀ {s0 t : S1} {m : Nat × Nat}, L0 s0 → Bi s0 m t → bmQ (0, m) t := fun l b => ⟨b.bz l, .inl rfl, fun z => absurd rfl z⟩
  have e60 : spc 60 (stL 60) = 24 := by decide +kernel
  have e61 : spc 61 (stL 61) = 22 := by decide +kernel
  have e62 : spc 62 (stL 62) = 11 := by decide +kernel
  simp only [M_Ma_boot_j161, ok_B, ok_C, ok_R, ok_L, ok_K, ok_GI, ok_GL, ok_PI, ok_PL, ok_AI, ok_AL, ok_SI, ok_SL, ok_CI, cmp_lt, cmp_le, cmp_gt, cmp_ge, cmp_eq, nar0, nar1, Sum.elim_inl, Sum.elim_inr, ok_PzT, ok_PzC, ok_PzP, ok_PrC, ok_PrP, ok_PrF, ok_PrN, ok_Ln, ok_CL, ok_Nw, ok_S, ok_Ks, ok_Nz]
  refine ok_mono (makeTable_ok (b.hr l.1).1 b.2.1) ?_
  rintro ⟨g, m⟩ t q
  obtain ⟨bt, kt, gq⟩ := q.mb b l.1 (by decide)
  dsimp only at bt gq ⊢
  have bg := bt.glob (g := g)
  have lg := l.glob (g := g)
  have e4 : gI (sI t 16394 0 g) 16394 0 = g := by rw [gI_sI, if_pos ⟨rfl, rfl⟩]
  have e6 : ∀ j q, gB (sI t 16394 0 g) 106 j q = gB (sI s0 16394 0 g) 106 j q := fun j q => kt.2.2.2 j q
  have lvg : cLv false (sI t 16394 0 g) = cLv false t := by
    funext p q
    rw [cLv_f, cLv_f]
    simp only [gI_sI, gI_sL, gI_sA, gI_sB, gI_sAf, gI_sBf, gL_sI, gL_sL, gL_sA, gL_sB, gL_sAf, gL_sBf, gA_sI, gA_sL, gA_sA, gA_sB, gA_sAf, gA_sBf, gB_sI, gB_sL, gB_sA, gB_sB, gB_sAf, gB_sBf, Nat.reduceEqDiff, Nat.reduceMul, Nat.reduceAdd, false_and, true_and, and_true, and_false, if_true, if_false]
  rw [e4]
  refine ⟨fun _ => no lg bg, fun g0 => ?_⟩
  have g5 : cLv false (sI t 16394 0 g) (gI (sI t 16394 0 g) 16394 0) 5 := by
    rw [e4, lvg]
    rcases gq with z | z
    · exact absurd z g0
    · exact z.2.1
  clear gq lvg e4
  generalize sI t 16394 0 g = t at bg e6 g5 ⊢
  generalize sI s0 16394 0 g = s0 at bg e6 lg
  refine ok_mono (names__ok (a := 0) lg.1 (by decide +kernel) rfl (by rw [e60]; decide) bg (fun i a b => by omega) g5 e6) ?_
  rintro ⟨r1, m1⟩ t1 ⟨b1, -, q1⟩
  dsimp only at b1 q1 ⊢
  refine ⟨fun _ => no lg b1, fun z1 => ?_⟩
  obtain ⟨nm1, gl1, e1⟩ := q1 z1
  rw [e60] at nm1
  refine ok_mono (names__ok (a := 24) lg.1 (by decide +kernel) rfl (by rw [e61]; decide) b1 (by exact nm1) gl1 e1) ?_
  rintro ⟨r2, m2⟩ t2 ⟨b2, -, q2⟩
  dsimp only at b2 q2 ⊢
  refine ⟨fun _ => no lg b2, fun z2 => ?_⟩
  obtain ⟨nm2, gl2, e2⟩ := q2 z2
  rw [e61] at nm2
  refine ok_mono (names__ok (a := 46) lg.1 (by decide +kernel) rfl (by rw [e62]; decide) b2 (by exact nm2) gl2 e2) ?_
  rintro ⟨r3, m3⟩ t3 ⟨b3, -, q3⟩
  dsimp only at b3 q3 ⊢
  refine ⟨fun _ => no lg b3, fun z3 => ?_⟩
  obtain ⟨nm3, gl3, e3⟩ := q3 z3
  rw [e62] at nm3
  have h3 := b3.hr lg.1
  refine ok_mono (makeVar_ok h3.1 b3.2.1 5 _ (fun s1 mg _ => ?_)) ?_
  · rw [mg.on h3.2]
    have g0 := gl3.1.1
    rw [i32_le] at g0
    exact .inr (.inl ⟨.inr (.inl rfl), ⟨by rw [Int64.le_iff_toInt_le, Int32.toInt_toInt64]; exact g0, by rw [i64_32]⟩, by rw [i64_32]; exact gl3⟩)
  · rintro ⟨v, m4⟩ t4 q4
    obtain ⟨b4, k4, vq⟩ := q4.mb b3 lg.1 (by decide)
    dsimp only at b4 vq ⊢
    refine ⟨fun _ => no lg b4, fun v0 => ?_⟩
    have v8 : cLv false t4 v 8 := by
      rcases vq with z | z
      · exact absurd z v0
      · exact z.2.1
    have gl4 : cLv false t4 (gI t4 16394 0) 5 := by
      rw [k4.1.1 16394 0 (by unfold kbX; decide)]
      exact k4.2.1.1 _ 5 (by decide) gl3
    have bn4 : Bn v t4 := ⟨nm3.ke k4, gl4, v8⟩
    refine ok_mono (consts_ok lg.1 lg.2.2.1.2.1 lg.2.2.2.1 b4 bn4 (fun j q => (k4.2.2.2 j q).trans (e3 j q))) ?_
    rintro ⟨r5, m5⟩ t5 ⟨b5, -, q5⟩
    dsimp only at b5 q5 ⊢
    refine ⟨fun _ => no lg b5, fun z5 => ?_⟩
    obtain ⟨bn5, cn5⟩ := q5 z5
    refine ok_mono (globals_ok lg.1 b5 bn5) ?_
    rintro r6 t6 ⟨b6, k6, -⟩
    refine ⟨fun _ => no lg b6, fun z6 => ?_⟩
    refine ok_mono (beginMain_ok lg b6 (bn5.ke k6) (fun i a c => (cn5 i a c).ke k6)) ?_
    rintro ⟨r7, m7⟩ t7 ⟨b7, r7q, q7⟩
    dsimp only at b7 q7 r7q ⊢
    exact ⟨fun _ => ⟨b7, .inl rfl, fun z => absurd rfl z⟩, fun z7 => ⟨b7, .inr rfl, fun _ => q7 z7⟩⟩
/-- the heap is emptied, the rows are cleared -/
theorem boot_L0 {s t u : S1} {n : Nat × Nat} (bz : Bz s n) (pg : dPg s) (vc : Vcs s) (rs : rsQ s t) (I : ∀ f j, f ≠ 14221 ∧ f ≠ 16898 ∧ f ≠ 17282 ∧ f ≠ 17666 ∧ f ≠ 18050 ∧ f ≠ 16392 ∧ f ≠ 16393 ∧ f ≠ 16396 → gI u f j = gI t f j) (ld : gI u 14221 0 = 1) (r1 : gI u 16898 0 = 0) (r2 : gI u 17666 0 = 0) (r3 : gI u 18050 0 = 0) (U2 : u.2 = t.2) : L0 u ∧ Bi u n u := by
  obtain ⟨rI, ⟨n0, f0, p0⟩, rC, rL, rA, rB, rT, rT', rK⟩ := rs
  have A : ∀ a j k, gA u a j k = gA t a j k := fun a j k => by show u.2.2.1 _ _ _ = t.2.2.1 _ _ _; rw [U2]
  have B : ∀ a j k, gB u a j k = gB t a j k := fun a j k => by show u.2.2.2 _ _ _ = t.2.2.2 _ _ _; rw [U2]
  have II : ∀ f j, f ≠ 14221 ∧ f ≠ 16898 ∧ f ≠ 17282 ∧ f ≠ 17666 ∧ f ≠ 18050 ∧ f ≠ 16392 ∧ f ≠ 16393 ∧ f ≠ 16396 → f ≠ 14209 ∧ f ≠ 14211 ∧ f ≠ 18950 ∧ f ≠ 15367 → gI u f j = gI s f j := fun f j a b => (I f j a).trans (rI f j b)
  have C : ∀ c, pC u c → oSl u c = -1 := fun c p => by
    rw [show oSl u c = oSl t c from I _ _ (by decide)]
    refine rC c ⟨p.1, ?_⟩
    rw [← I 19071 c (by decide)]
    exact p.2
  have T : ∀ j : Int32, 0 ≤ j.toInt → j.toInt < 12 → cTl u j = 0 := fun j a b => (A _ _ _).trans (rT j a b)
  have T' : ∀ j : Int32, 12 ≤ j.toInt → cTl u j = cTl s j := fun j a => (A _ _ _).trans (rT' j a)
  have n0' : cN u = 0 := (I _ _ (by decide)).trans n0
  have H : cHI u := rs_hi n0' ((I _ _ (by decide)).trans f0) ((I _ _ (by decide)).trans p0) C T (fun b b0 b1 => (A _ _ _).trans (rK b b0 b1))
  have S : cSf u := bz.2.congr (fun f j q => II f j (by unfold sfI at q; omega) (by unfold sfI at q; omega))
  refine ⟨⟨ld, S, ?_, fun k a b => ?_, C, r1, r2, r3⟩, H, ?_, Kb.refl u, fun x k => ?_⟩
  · refine cPk.pg ⟨fun f j q => II f j (by omega) (by omega), fun a j k q => ?_⟩ pg
    rw [A]
    exact rA a j k (by omega)
  · unfold nCo at b
    rw [II 12938 0 (by decide) (by decide)] at b
    exact (vc k a b).eq ((A _ _ _).trans (rA _ _ _ (by decide))) ((B _ _ _).trans (rB _ _ _))
  · obtain ⟨al, a, b, c, hw, c1, c2⟩ := bz.1
    have t4 : cTl u 4 = 0 := T 4 (by decide) (by decide)
    have t12 : cTl u 12 = cTl s 12 := T' 12 (by decide)
    have t13 : cTl u 13 = cTl s 13 := T' 13 (by decide)
    have t14 : cTl u 14 = cTl s 14 := T' 14 (by decide)
    have f30 : gI u 15230 0 = gI s 15230 0 := II _ _ (by decide) (by decide)
    refine ⟨?_, a, b, c, ?_, ?_, ?_⟩
    · unfold cAl at al ⊢
      rw [t4, t12, t13, t14, f30, II 14220 0 (by decide) (by decide)]
      have e0 : (0 : Int32).toInt = 0 := rfl
      obtain ⟨⟨x1, x2, x3⟩, x4⟩ := al
      exact ⟨⟨by omega, by omega, x3⟩, x4⟩
    · unfold cHw at hw ⊢
      simp only [II 18687 _ (by decide) (by decide), II 18559 _ (by decide) (by decide), II 19071 _ (by decide) (by decide), II 18815 _ (by decide) (by decide), II 18943 _ (by decide) (by decide), II 18942 _ (by decide) (by decide), II 18814 _ (by decide) (by decide)]
      exact hw
    · unfold cNd at c1 ⊢
      rw [t12, f30]
      exact c1
    · unfold cNd at c2 ⊢
      rw [t13, t14, f30]
      exact c2
  · have := k.1
    rw [n0', i32_le, i32_lt] at this
    have e0 : (0 : Int32).toInt = 0 := rfl
    omega
theorem boot_ok {s : S1} {n : Nat × Nat} (bz : Bz s n) (pg : dPg s) (vc : Vcs s) : ok (M_Ma_boot n) s bmQ := by
  have rs := restart_ok s
  rw [ok_B] at rs
  unfold M_Ma_boot
  rw [ok_B]
  refine ok_mono rs ?_
  intro _ s1 rs1
  rw [ok_B]
  refine ok_mono rs1 ?_
  rintro - t rq
  rw [ok_B, ok_PI, ok_B]
  unfold M_Ro_clear
  simp only [ok_B, ok_PI, ok_R]
  have key : ∀ u : S1, (∀ f j, f ≠ 14221 ∧ f ≠ 16898 ∧ f ≠ 17282 ∧ f ≠ 17666 ∧ f ≠ 18050 ∧ f ≠ 16392 ∧ f ≠ 16393 ∧ f ≠ 16396 → gI u f j = gI t f j) → gI u 14221 0 = 1 → gI u 16898 0 = 0 → gI u 17666 0 = 0 → gI u 18050 0 = 0 → u.2 = t.2 → _ := fun u a b c d e f => by
    obtain ⟨l, bi⟩ := boot_L0 bz pg vc rq a b c d e f
    have w := boot1_ok l bi
    simp only [ok_B, ok_PI, ok_R] at w
    exact w
  refine key _ (fun f j q => ?_) ?_ ?_ ?_ ?_ rfl
  · simp only [gI_sI]
    rw [if_neg (fun z => by omega), if_neg (fun z => by omega), if_neg (fun z => by omega), if_neg (fun z => by omega), if_neg (fun z => by omega), if_neg (fun z => by omega), if_neg (fun z => by omega), if_neg (fun z => by omega)]
  · simp only [gI_sI, gI_sL, gI_sA, gI_sB, gI_sAf, gI_sBf, gL_sI, gL_sL, gL_sA, gL_sB, gL_sAf, gL_sBf, gA_sI, gA_sL, gA_sA, gA_sB, gA_sAf, gA_sBf, gB_sI, gB_sL, gB_sA, gB_sB, gB_sAf, gB_sBf, Nat.reduceEqDiff, Nat.reduceMul, Nat.reduceAdd, false_and, true_and, and_true, and_false, if_true, if_false]
  · simp only [gI_sI, gI_sL, gI_sA, gI_sB, gI_sAf, gI_sBf, gL_sI, gL_sL, gL_sA, gL_sB, gL_sAf, gL_sBf, gA_sI, gA_sL, gA_sA, gA_sB, gA_sAf, gA_sBf, gB_sI, gB_sL, gB_sA, gB_sB, gB_sAf, gB_sBf, Nat.reduceEqDiff, Nat.reduceMul, Nat.reduceAdd, false_and, true_and, and_true, and_false, if_true, if_false]
  · simp only [gI_sI, gI_sL, gI_sA, gI_sB, gI_sAf, gI_sBf, gL_sI, gL_sL, gL_sA, gL_sB, gL_sAf, gL_sBf, gA_sI, gA_sL, gA_sA, gA_sB, gA_sAf, gA_sBf, gB_sI, gB_sL, gB_sA, gB_sB, gB_sAf, gB_sBf, Nat.reduceEqDiff, Nat.reduceMul, Nat.reduceAdd, false_and, true_and, and_true, and_false, if_true, if_false]
  · simp only [gI_sI, gI_sL, gI_sA, gI_sB, gI_sAf, gI_sBf, gL_sI, gL_sL, gL_sA, gL_sB, gL_sAf, gL_sBf, gA_sI, gA_sL, gA_sA, gA_sB, gA_sAf, gA_sBf, gB_sI, gB_sL, gB_sA, gB_sB, gB_sAf, gB_sBf, Nat.reduceEqDiff, Nat.reduceMul, Nat.reduceAdd, false_and, true_and, and_true, and_false, if_true, if_false]
