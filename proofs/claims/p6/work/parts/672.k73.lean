/-! The class: a joining goes on. -/
theorem Ix.jv {s : S1} {n : Nat × Nat} {i w : Int32} (x : Ix s n i w) : cV (cLv false s) (gI s 19462 (tF s)) (gL s 19463 (tF s)) := by
  have co := (x.w.hi.dep x.w.cur).1
  obtain ⟨j, j0, j1, -, -, e⟩ := tF_of x.w x.2.2.2.1
  have := (co.2.2.1.2 j j0 j1).2
  rw [← e] at this
  exact this
def jdQ (s : S1) (r : Int32 × (Nat × Nat)) (t : S1) : Prop := mkW s false r.2 t ∧ ((r.1 = -10 ∨ r.1 = -11) ∨ (0 ≤ r.1 ∧ cLv false t r.1 4))
theorem inQ.w {s t : S1} {n : Nat × Nat} {τ : Bool} {r : Int32 × (Nat × Nat)} (W : cW s n) (F : qFr τ s) (h : inQ s (0, 0) r t) : mkW s τ r.2 t ∧ ((r.1 = -10 ∨ r.1 = -11) ∨ (0 ≤ r.1 ∧ cLv false t r.1 4)) := by
  rcases h with ⟨rfl, h2, h3⟩ | h
  · exact ⟨⟨⟨W.1, W.2.1, W.2.2.1, W.2.2.2.1, h3, W.2.2.2.2.2⟩, F, cKm.refl t⟩, .inr ⟨h2.1.1, h2⟩⟩
  · obtain ⟨m, q⟩ := mdQ.w W F (by decide) (fun _ _ _ z => absurd z (by decide)) h
    refine ⟨m, q.imp id (fun z => ⟨z.1, z.2.1⟩)⟩
theorem wk_src {s : S1} {n e : Nat × Nat} (R : cRo s n e) (h : wkI s) (z : gI s 14217 0 ≤ 400000) : cSrc s 118 0 0 (gI s 14217 0) := by
  have wl := R.wl
  obtain ⟨l1, l2⟩ := wk_ln s (by omega)
  have e0 : (0 : Int32).toInt = 0 := rfl
  rw [i32_le] at z
  have := h.2 z
  exact ⟨by decide, by decide, h.1, by omega, by omega⟩
theorem joined_ok {s : S1} {n : Nat × Nat} {i w k : Int32} {v : Int64} (x : Ix s n i w) (hv : cV (cLv false s) k v) : ok (M_St_joined n k v) s (jdQ s) := by
  have W := x.w
  obtain ⟨a1, a2, a3, a4⟩ := x.2.2.2.2.2.1
  have pf := x.tp.2.2.2.2.1
  have jv := x.jv
  have g0 : ∀ f j, f ≠ 14217 → gI (sI s 14217 0 0) f j = gI s f j := fun f j q => by rw [gI_sI, if_neg (fun z => q z.1)]
  have u0 : gI (sI s 14217 0 0) 14217 0 = 0 := by rw [gI_sI, if_pos ⟨rfl, rfl⟩]
  have w0 : wuQ s (sI s 14217 0 0) := ⟨fun f j q => g0 f j (fun z => q (by unfold wuX; omega)), fun _ _ => rfl, fun _ _ _ _ => rfl, fun _ _ _ _ => rfl⟩
  have r0 := W.ro.wu w0 (g0 _ _ (by decide)) (.inr trivial)
  have i0 : wkI (sI s 14217 0 0) := by
    unfold wkI
    rw [u0]
    have := r0.wl
    exact ⟨by decide, fun _ => by show (0 : Int) ≤ _; omega⟩
  simp only [M_St_joined, ok_B, ok_C, ok_R, ok_L, ok_K, ok_GI, ok_GL, ok_PI, ok_PL, ok_AI, ok_AL, ok_SI, ok_SL, ok_CI, cmp_lt, cmp_le, cmp_gt, cmp_ge, cmp_eq, nar0, nar1, Sum.elim_inl, Sum.elim_inr, ok_PzT, ok_PzC, ok_PzP, ok_PrC, ok_PrP, ok_PrF, ok_PrN, ok_Ln, ok_CL, ok_Nw, ok_S, ok_Ks, ok_Nz]
  generalize sI s 14217 0 0 = s0 at g0 u0 w0 r0 i0 ⊢
  obtain ⟨W0, F0, k0⟩ := w0.mk W x.fr r0
  have z0 : (gI s0 14217 0).toInt = 0 := by rw [u0]; rfl
  refine ok_mono (putText_ok W0 r0 i0 (by omega) (by rw [w0.lv]; exact hv)) ?_
  rintro ra s1 ⟨w1, i1, r1, b1⟩
  obtain ⟨W1, F1, k1⟩ := w1.mk W0 F0 r1
  have w01 := w0.trans w1
  have e1 : gI s1 16517 0 = tF s := (w01.1 _ _ (by unfold wuX; decide)).trans a2
  rw [e1, w01.1 19462 _ (by unfold wuX; decide), w01.2.1 19463]
  have pf1 : pF s1 (tF s) := ⟨pf.1, by rw [w01.1 _ _ (by unfold wuX; decide)]; exact pf.2⟩
  refine ⟨pf1, pf1, ?_⟩
  refine ok_mono (putText_ok W1 r1 i1 (by omega) (by rw [w01.lv]; exact jv)) ?_
  rintro rb s2 ⟨w2, i2, r2, b2⟩
  have m2 := (w01.trans w2).mk W x.fr r2
  refine ok_mono (intern_ok m2.1.hr r2 118 0 0 (gI s2 14217 0) (by decide) (fun z => wk_src r2 i2 z)) ?_
  rintro rc s3 q
  obtain ⟨m3, c⟩ := inQ.w m2.1 m2.2.1 q
  exact ⟨m2.trans m3, c⟩
/-- a joining is under way -/
def jrg (t : S1) (w : Int32) : Prop := (dB w).toInt - 1 ≤ (gI t 19464 (tF t)).toInt ∧ (gI t 19464 (tF t)).toInt < (dC w).toInt
def jst (t : S1) (n : Nat × Nat) (i w : Int32) : Prop := Ix t n i w ∧ gI t 19461 (tF t) = i + 1 ∧ gI t 16396 0 = 6 ∧ jrg t w
theorem joinAt_ix {s : S1} {n : Nat × Nat} {i w : Int32} (x : Ix s n i w) (q : Int32) : lw false s (sI s 19464 (tF s) q) ∧ Ix (sI s 19464 (tF s) q) n i w := by
  have l : lw false s (sI s 19464 (tF s) q) := by
    refine ⟨fun f j z => ?_, fun j z => ⟨?_, ?_⟩, fun j z => ⟨?_, rfl⟩, fun _ _ _ => rfl, fun _ _ _ _ => rfl, fun _ _ _ => rfl, fun _ _ _ _ => rfl, fun _ _ _ => rfl⟩
    · rw [gI_sI, if_neg (fun y => z (by rw [y.1]; unfold lwX; decide))]
    · rw [gI_sI, if_neg (fun y => absurd y.1 (by decide))]
    · rw [gI_sI, if_neg (fun y => ?_)]
      rcases z with z | z
      · exact absurd z (by decide)
      · exact z ⟨x.2.2.2.1, y.2⟩
    · rw [gI_sI, if_neg (fun y => absurd y.1 (by decide))]
  obtain ⟨p1, p2, p3, p4⟩ := l.pure x.w rfl (fun f j z => by rw [gI_sI, if_neg (fun y => by omega)]) (fun _ => rfl)
  exact ⟨l, x.lw l p1 p2 p3 p4⟩
theorem j_wt {t : S1} {n : Nat × Nat} {i w : Int32} (x : Ix t n i w) (pt : gI t 19461 (tF t) = i + 1) (o : dO w = 29) (r : jrg t w) : qFr true t := by
  refine x.fr.tight x.w (fun _ _ => ?_)
  obtain ⟨e1, e2⟩ := pcp x
  have h := x.2.2.2.2.2.2.2.1
  have wf := x.wf.1
  rw [x.2.2.2.2.2.2.2.2] at wf
  have o' := opI o
  have k29 : (29 : Int32).toInt = 29 := rfl
  have lt : i.toInt + 1 < pNi t (fPr t (tF t)) := Decidable.byContradiction fun z => by
    rcases wf z with y | y | y
    · rw [y] at o
      exact absurd o (by decide)
    · rw [y] at o
      exact absurd o (by decide)
    · rw [y] at o
      exact absurd o (by decide)
  unfold qWt fJa
  rw [show fPc t (tF t) = i + 1 from pt, e2, x.2.2.2.2.2.2.2.2, e1]
  exact ⟨⟨by omega, lt⟩, by unfold dCl; omega, fun _ => r⟩
/-- what is joined is forgotten -/
theorem forget_ok {s : S1} {n : Nat × Nat} {i w : Int32} (x : Ix s n i w) : ok M_St_forgetJoined s (fun _ t => Ix t n i w ∧ lw true s t ∧ (∀ f j, f ≠ 19462 → gI t f j = gI s f j) ∧ ∀ f j, f ≠ 19463 → gL t f j = gL s f j) := by
  obtain ⟨a1, a2, a3, a4⟩ := x.2.2.2.2.2.1
  have pf := x.tp.2.2.2.2.1
  simp only [M_St_forgetJoined, ok_B, ok_C, ok_R, ok_L, ok_K, ok_GI, ok_GL, ok_PI, ok_PL, ok_AI, ok_AL, ok_SI, ok_SL, ok_CI, cmp_lt, cmp_le, cmp_gt, cmp_ge, cmp_eq, nar0, nar1, Sum.elim_inl, Sum.elim_inr, ok_PzT, ok_PzC, ok_PzP, ok_PrC, ok_PrP, ok_PrF, ok_PrN, ok_Ln, ok_CL, ok_Nw, ok_S, ok_Ks, ok_Nz]
  simp only [gI_sI, gI_sL, gI_sA, gI_sB, gI_sAf, gI_sBf, gL_sI, gL_sL, gL_sA, gL_sB, gL_sAf, gL_sBf, gA_sI, gA_sL, gA_sA, gA_sB, gA_sAf, gA_sBf, gB_sI, gB_sL, gB_sA, gB_sB, gB_sAf, gB_sBf, Nat.reduceEqDiff, Nat.reduceMul, Nat.reduceAdd, false_and, true_and, and_true, and_false, if_true, if_false]
  rw [a2]
  have key : ∀ T : S1, (∀ f j, gI T f j = if f = 19462 ∧ j = tF s then 0 else gI s f j) → (∀ f j, gL T f j = if f = 19463 ∧ j = tF s then 0 else gL s f j) → T.2.2 = s.2.2 → Ix T n i w ∧ lw true s T ∧ (∀ f j, f ≠ 19462 → gI T f j = gI s f j) ∧ ∀ f j, f ≠ 19463 → gL T f j = gL s f j := fun T TI TL T2 => by
    have t6 : gI T 16396 0 = gI s 16396 0 := by rw [TI, if_neg (fun z => absurd z.1 (by decide))]
    obtain ⟨p, q⟩ := join_ix (kk := 0) (vv := 0) x (cV.lit (by decide)) (fun f j => by
      by_cases z : f = 16396 ∧ j = 0
      · rw [if_pos z, z.1, z.2]
      · rw [if_neg z, TI]) TL T2
    exact ⟨p, q, fun f j y => by rw [TI, if_neg (fun z => y z.1)], fun f j y => by rw [TL, if_neg (fun z => y z.1)]⟩
  refine ⟨pf, ⟨pf.1, by simp only [gI_sI, gI_sL, gI_sA, gI_sB, gI_sAf, gI_sBf, gL_sI, gL_sL, gL_sA, gL_sB, gL_sAf, gL_sBf, gA_sI, gA_sL, gA_sA, gA_sB, gA_sAf, gA_sBf, gB_sI, gB_sL, gB_sA, gB_sB, gB_sAf, gB_sBf, Nat.reduceEqDiff, Nat.reduceMul, Nat.reduceAdd, false_and, true_and, and_true, and_false, if_true, if_false]; exact pf.2⟩, key _ (fun f j => ?_) (fun f j => ?_) rfl⟩
  · simp only [gI_sI, gI_sL]
  · simp only [gL_sI, gL_sL]
def joP (i w : Int32) (e : (Int32 × (Nat × Nat)) ⊕ (Int32 × (Nat × Nat)) ⊕ (Nat × Nat)) (t : S1) : Prop := Sum.elim (fun y => jst t y.2 i w ∧ (dB w).toInt ≤ y.1.toInt ∧ y.1.toInt < (dC w).toInt) (Sum.elim (fun y => jst t y.2 i w) (fun m => jst t m i w)) e
theorem isText_ok (k : Int32) (s : S1) : ok (M_St_isText k) s (fun r t => t = s ∧ (r = 0 ∨ r = 1)) := by
  simp only [M_St_isText, M_St_isText_j10, ok_B, ok_C, ok_R, ok_L, ok_K, ok_GI, ok_GL, ok_PI, ok_PL, ok_AI, ok_AL, ok_SI, ok_SL, ok_CI, cmp_lt, cmp_le, cmp_gt, cmp_ge, cmp_eq, nar0, nar1, Sum.elim_inl, Sum.elim_inr, ok_PzT, ok_PzC, ok_PzP, ok_PrC, ok_PrP, ok_PrF, ok_PrN, ok_Ln, ok_CL, ok_Nw, ok_S, ok_Ks, ok_Nz]
  exact ⟨fun _ => ⟨rfl, .inr rfl⟩, fun _ => ⟨fun _ => ⟨rfl, .inr rfl⟩, fun _ => ⟨rfl, .inl rfl⟩⟩⟩
theorem jst.mk {s t : S1} {n m : Nat × Nat} {i w : Int32} (h : jst s n i w) (k : mkW s false m t) : jst t m i w := by
  obtain ⟨x, p, t6, r⟩ := h
  obtain ⟨o1, ⟨o2, o3, -⟩, -⟩ := k.oi x
  refine ⟨o1, o2.trans p, k.tu.trans t6, ?_⟩
  unfold jrg
  rw [o3]
  exact r
theorem joinL_ok {s : S1} {n : Nat × Nat} {i w l : Int32} (h : jst s n i w) (o : dO w = 29) (l0 : (dB w).toInt - 1 ≤ l.toInt) (l1 : l.toInt < (dC w).toInt) : ok (oW M_St_joinOn_L12 (l, n)) s (joP i w) := by
  have e0 : (0 : Int32).toInt = 0 := rfl
  have e1 : (1 : Int32).toInt = 1 := rfl
  have em : (-1 : Int32).toInt = -1 := rfl
  have o' := opI o
  have k29 : (29 : Int32).toInt = 29 := rfl
  have dBi := dB_in w
  have dCi := dC_in w
  refine ok_W (fun y t => jst t y.2 i w ∧ (dB w).toInt - 1 ≤ y.1.toInt ∧ y.1.toInt < (dC w).toInt) (fun y _ => (y.1.toInt + 1).toNat) ?_ (l, n) s ⟨h, l0, l1⟩
  rintro ⟨l, m⟩ t ⟨j, l0, l1⟩
  dsimp only at j l0 l1
  have x := j.1
  obtain ⟨a1, a2, a3, a4⟩ := x.2.2.2.2.2.1
  have pf := x.tp.2.2.2.2.1
  have wn := x.wn.2.2.2.2.2.2.2.2.2.2.2.2.1 (by omega)
  simp only [M_St_joinOn_L12, ok_B, ok_C, ok_R, ok_L, ok_K, ok_GI, ok_GL, ok_PI, ok_PL, ok_AI, ok_AL, ok_SI, ok_SL, ok_CI, cmp_lt, cmp_le, cmp_gt, cmp_ge, cmp_eq, nar0, nar1, Sum.elim_inl, Sum.elim_inr, ok_PzT, ok_PzC, ok_PzP, ok_PrC, ok_PrP, ok_PrF, ok_PrN, ok_Ln, ok_CL, ok_Nw, ok_S, ok_Ks, ok_Nz]
  rw [x.o.2.2.1]
  refine ⟨fun _ => j, fun c => ?_⟩
  rw [i32_lt] at c
  rw [a2]
  refine ⟨pf, ?_⟩
  have em1 : (l - 1).toInt = l.toInt - 1 := by rw [ktI_sub] <;> omega
  have em2 : (l + -1).toInt = l.toInt - 1 := by rw [ktI_add] <;> omega
  obtain ⟨lt1, x1⟩ := joinAt_ix x (l - 1)
  have g1 : ∀ f j, f ≠ 19464 → gI (sI t 19464 (tF t) (l - 1)) f j = gI t f j := fun f j q => by rw [gI_sI, if_neg (fun z => q z.1)]
  have g2 : gI (sI t 19464 (tF t) (l - 1)) 19464 (tF t) = l - 1 := by rw [gI_sI, if_pos ⟨rfl, rfl⟩]
  generalize sI t 19464 (tF t) (l - 1) = t1 at lt1 x1 g1 g2 ⊢
  have et := lt1.etF
  have j1 : jst t1 m i w := by
    refine ⟨x1, by rw [et, g1 _ _ (by decide)]; exact j.2.1, (g1 _ _ (by decide)).trans j.2.2.1, ?_⟩
    unfold jrg
    rw [et, g2, em1]
    omega
  have wn1 := x1.wn.2.2.2.2.2.2.2.2.2.2.2.2.1 (by omega)
  have hx := x1.xr (r := l) (by omega) (by omega)
  have pf1 := x1.tp.2.2.2.2.1
  have a21 := x1.2.2.2.2.2.1.2.1
  rw [ok_kO x1 hx]
  refine ok_mono (isText_ok _ _) ?_
  rintro r u ⟨eu, -⟩
  subst eu
  refine ⟨fun _ => ⟨j1, by omega, l1⟩, fun _ => ?_⟩
  rw [a21]
  refine ⟨pf1, ?_⟩
  refine ok_mono (isText_ok _ _) ?_
  rintro r' u' ⟨eu, -⟩
  subst eu
  refine ⟨fun _ => ⟨j1, by omega, l1⟩, fun _ => ?_⟩
  rw [ok_kO x1 hx, ok_vO x1 hx]
  refine ok_mono (joined_ok x1 (x1.kv0 hx)) ?_
  rintro ⟨v, m2⟩ t2 ⟨mk, q⟩
  have j2 := j1.mk mk
  dsimp only at q j2 mk ⊢
  have x2 := j2.1
  have a22 := x2.2.2.2.2.2.1.2.1
  have pf2 := x2.tp.2.2.2.2.1
  simp only [gI_sI, gI_sL, gI_sA, gI_sB, gI_sAf, gI_sBf, gL_sI, gL_sL, gL_sA, gL_sB, gL_sAf, gL_sBf, gA_sI, gA_sL, gA_sA, gA_sB, gA_sAf, gA_sBf, gB_sI, gB_sL, gB_sA, gB_sB, gB_sAf, gB_sBf, Nat.reduceEqDiff, Nat.reduceMul, Nat.reduceAdd, false_and, true_and, and_true, and_false, if_true, if_false]
  rw [a22]
  refine ⟨fun v0 => ?_, fun _ => j2⟩
  have lv : cLv false t2 v 4 := by
    rcases q with q | q
    · rcases q with z | z <;> rw [z] at v0 <;> exact absurd v0 (by decide)
    · exact q.2
  have cv : cV (cLv false t2) 4 v.toInt64 := cV.obj v0 (.inl rfl) lv
  have key : ∀ T : S1, (∀ f j, gI T f j = if f = 19462 ∧ j = tF t2 then 4 else gI t2 f j) → (∀ f j, gL T f j = if f = 19463 ∧ j = tF t2 then v.toInt64 else gL t2 f j) → T.2.2 = t2.2.2 → jst T m2 i w := fun T TI TL T2 => by
    have t6 : gI T 16396 0 = gI t2 16396 0 := by rw [TI, if_neg (fun z => absurd z.1 (by decide))]
    obtain ⟨xT, lT⟩ := join_ix (kk := 4) (vv := v.toInt64) x2 cv (fun f j => by
      by_cases z : f = 16396 ∧ j = 0
      · rw [if_pos z, z.1, z.2]
      · rw [if_neg z, TI]) TL T2
    refine ⟨xT, ?_, t6.trans j2.2.2.1, ?_⟩
    · rw [lT.etF, TI, if_neg (fun z => absurd z.1 (by decide))]
      exact j2.2.1
    · unfold jrg
      rw [lT.etF, TI, if_neg (fun z => absurd z.1 (by decide))]
      exact j2.2.2.2
  refine ⟨pf2, ⟨pf2.1, by simp only [gI_sI, gI_sL, gI_sA, gI_sB, gI_sAf, gI_sBf, gL_sI, gL_sL, gL_sA, gL_sB, gL_sAf, gL_sBf, gA_sI, gA_sL, gA_sA, gA_sB, gA_sAf, gA_sBf, gB_sI, gB_sL, gB_sA, gB_sB, gB_sAf, gB_sBf, Nat.reduceEqDiff, Nat.reduceMul, Nat.reduceAdd, false_and, true_and, and_true, and_false, if_true, if_false]; exact pf2.2⟩, ⟨key _ (fun f j => ?_) (fun f j => ?_) rfl, by omega, by omega⟩, by omega⟩
  · simp only [gI_sI, gI_sL]
  · simp only [gL_sI, gL_sL]
theorem joinOn_ok {s : S1} {n : Nat × Nat} (h : St6 s n) : ok (M_St_joinOn n) s (fun r t => So t r.2) := by
  obtain ⟨W, F, h1, t6, h2, h3, o⟩ := h
  have wt := top_wt W F h2 h3
  obtain ⟨⟨w1, w2⟩, w3, w4⟩ := wt
  have e1 : (1 : Int32).toInt = 1 := rfl
  simp only [M_St_joinOn, ok_B, ok_C, ok_R, ok_L, ok_K, ok_GI, ok_GL, ok_PI, ok_PL, ok_AI, ok_AL, ok_SI, ok_SL, ok_CI, cmp_lt, cmp_le, cmp_gt, cmp_ge, cmp_eq, nar0, nar1, Sum.elim_inl, Sum.elim_inr, ok_PzT, ok_PzC, ok_PzP, ok_PrC, ok_PrP, ok_PrF, ok_PrN, ok_Ln, ok_CL, ok_Nw, ok_S, ok_Ks, ok_Nz]
  refine ok_mono (decode_ok W F.weak h1 h2 h3 w1 (by
    change (fPc s (tF s)).toInt ≤ _
    omega)) ?_
  rintro - s1 ⟨x1, I1, T1⟩
  have et1 : tF s1 = tF s := tF_eq (fun f j q => I1 f j (by unfold sdI; omega))
  have p1 : gI s1 19461 (tF s1) = gI s 19461 (tF s) := by
    rw [et1]
    exact I1 _ _ (by unfold sdI; decide)
  have j1' : gI s1 19464 (tF s1) = gI s 19464 (tF s) := by
    rw [et1]
    exact I1 _ _ (by unfold sdI; decide)
  have ja := w4 o
  change (dB (dW s (fPr s (tF s)) (gI s 19461 (tF s) - 1))).toInt - 1 ≤ (gI s 19464 (tF s)).toInt ∧ (gI s 19464 (tF s)).toInt < (dC (dW s (fPr s (tF s)) (gI s 19461 (tF s) - 1))).toInt at ja
  generalize dW s (fPr s (tF s)) (gI s 19461 (tF s) - 1) = w at x1 o ja
  have hpi : gI s 19461 (tF s) = (gI s 19461 (tF s) - 1) + 1 := by
    have em : (gI s 19461 (tF s) - 1).toInt = (gI s 19461 (tF s)).toInt - 1 := by
      change 1 ≤ (gI s 19461 (tF s)).toInt at w1
      have := Int32.toInt_lt (gI s 19461 (tF s))
      rw [ktI_sub] <;> omega
    refine toInt_inj ?_
    have pc := x1.tp.2.2.1.2.2.2.2.2.2.1
    have hb := x1.2.2.2.2.2.2.2.1
    rw [ktI_add] <;> omega
  generalize gI s 19461 (tF s) - 1 = i at x1 hpi
  rw [hpi] at p1
  have j1 : jst s1 n i w := by
    refine ⟨x1, p1, (I1 _ _ (by unfold sdI; decide)).trans t6, ?_⟩
    unfold jrg
    rw [j1']
    exact ja
  have pf := x1.tp.2.2.2.2.1
  rw [x1.2.2.2.2.2.1.2.1, j1']
  refine ⟨pf, ?_⟩
  clear p1 hpi w1 w2 w3 w4 h1 h2 h3 t6 W F T1 I1 et1 j1'
  refine ok_mono (joinL_ok j1 o ja.1 ja.2) ?_
  have o' := opI o
  have k29 : (29 : Int32).toInt = 29 := rfl
  have fin : ∀ t m e, jst t m i w → ok (M_Ma_fail e) t (fun _ u => Ix u m i w ∧ gI u 16396 0 = 5 ∧ cV (cLv false u) (gI u 16399 0) (gL u 16400 0)) := fun t m e j => by
    refine ok_mono (fail_ok e t) ?_
    rintro - u ⟨f, k⟩
    obtain ⟨b1, b2, b3⟩ := f.oi k j.1
    refine ⟨b1, f.2.2.2, ?_⟩
    rw [k]
    exact cV.lit (by decide)
  rintro (⟨l, m⟩ | ⟨v, m⟩ | m) t q
  · obtain ⟨j, l0, l1⟩ := q
    dsimp only at j l0 l1
    have x := j.1
    have wn := x.wn.2.2.2.2.2.2.2.2.2.2.2.2.1 (by omega)
    have dBi := dB_in w
    have hx := x.xr (r := l) (by omega) (by omega)
    have pf := x.tp.2.2.2.2.1
    have j95 : ∀ u, Ix u m i w → (gI u 16396 0 = 1 ∧ gI u 19461 (tF u) = i + 1 ∧ jrg u w ∧ cV (cLv false u) (gI u 16397 0) (gL u 16398 0)) ∨ (gI u 16396 0 = 5 ∧ cV (cLv false u) (gI u 16399 0) (gL u 16400 0)) → ok (M_St_joinOn_j95 m) u (fun r t => So t r.2) := fun u xu hu => by
      simp only [M_St_joinOn_j95, ok_B, ok_C, ok_R, ok_L, ok_K, ok_GI, ok_GL, ok_PI, ok_PL, ok_AI, ok_AL, ok_SI, ok_SL, ok_CI, cmp_lt, cmp_le, cmp_gt, cmp_ge, cmp_eq, nar0, nar1, Sum.elim_inl, Sum.elim_inr, ok_PzT, ok_PzC, ok_PzP, ok_PrC, ok_PrP, ok_PrF, ok_PrN, ok_Ln, ok_CL, ok_Nw, ok_S, ok_Ks, ok_Nz]
      refine ok_mono (forget_ok xu) ?_
      rintro - y ⟨xy, ly, Iy, Ly⟩
      rcases hu with ⟨q1, q2, q3, q4⟩ | ⟨q1, q2⟩
      · refine .inr (.inl ⟨xy.w, j_wt xy ?_ o ?_, xy.2.2.1, (Iy _ _ (by decide)).trans q1, ?_⟩)
        · rw [ly.etF, Iy _ _ (by decide)]
          exact q2
        · unfold jrg
          rw [ly.etF, Iy _ _ (by decide)]
          exact q3
        · rw [ly.lv', Iy _ _ (by decide), Ly _ _ (by decide)]
          exact q4
      · refine .inr (.inr (.inr (.inl ⟨xy.w, xy.fr, xy.2.2.1, (Iy _ _ (by decide)).trans q1, ?_⟩)))
        rw [ly.lv', Iy _ _ (by decide), Ly _ _ (by decide)]
        exact q2
    simp only [Sum.elim_inl, Sum.elim_inr, M_St_joinOn_j54, ok_B, ok_C, ok_R, ok_L, ok_K, ok_GI, ok_GL, ok_PI, ok_PL, ok_AI, ok_AL, ok_SI, ok_SL, ok_CI, cmp_lt, cmp_le, cmp_gt, cmp_ge, cmp_eq, nar0, nar1, Sum.elim_inl, Sum.elim_inr, ok_PzT, ok_PzC, ok_PzP, ok_PrC, ok_PrP, ok_PrF, ok_PrN, ok_Ln, ok_CL, ok_Nw, ok_S, ok_Ks, ok_Nz]
    rw [ok_kO x hx, ok_vO x hx, x.2.2.2.2.2.1.2.1]
    refine ⟨pf, pf, ?_⟩
    refine ok_mono (either_ok x.w.hi (by decide) (x.kv0 hx) x.jv) ?_
    rintro r u q
    rcases q with ⟨r0, eu⟩ | ⟨r1, ce, -⟩
    · subst eu
      refine ⟨fun _ => ?_, fun z => absurd r0 z⟩
      refine ok_mono (fin _ _ 3 j) ?_
      rintro - y ⟨b1, b2, b3⟩
      exact j95 y b1 (.inr ⟨b2, b3⟩)
    · refine ⟨fun z => by rw [z] at r1; exact absurd r1 (by decide), fun _ => ?_⟩
      obtain ⟨b1, ⟨b2, b3, -⟩, -⟩ := ce.oi x (by unfold dCl; omega)
      refine j95 u b1 (.inl ⟨ce.2.2.2.2.1, b2.trans j.2.1, ?_, by rw [ce.lw.lv']; exact ce.2.2.2.2.2.1⟩)
      unfold jrg
      rw [b3]
      exact j.2.2.2
  · simp only [Sum.elim_inl, Sum.elim_inr, ok_B, ok_C, ok_R, ok_L, ok_K, ok_GI, ok_GL, ok_PI, ok_PL, ok_AI, ok_AL, ok_SI, ok_SL, ok_CI, cmp_lt, cmp_le, cmp_gt, cmp_ge, cmp_eq, nar0, nar1, Sum.elim_inl, Sum.elim_inr, ok_PzT, ok_PzC, ok_PzP, ok_PrC, ok_PrP, ok_PrF, ok_PrN, ok_Ln, ok_CL, ok_Nw, ok_S, ok_Ks, ok_Nz]
    refine ok_mono (fin t m (-v) q) ?_
    rintro - y ⟨b1, b2, b3⟩
    exact .inr (.inr (.inr (.inl ⟨b1.w, b1.fr, b1.2.2.1, b2, b3⟩)))
  · have j : jst t m i w := q
    have x := j.1
    have wn := x.wn.2.2.2.2.2.2.2.2.2.2.2.2.1 (by omega)
    have dAi := dA_in w
    have pf := x.tp.2.2.2.2.1
    simp only [Sum.elim_inl, Sum.elim_inr, ok_B, ok_C, ok_R, ok_L, ok_K, ok_GI, ok_GL, ok_PI, ok_PL, ok_AI, ok_AL, ok_SI, ok_SL, ok_CI, cmp_lt, cmp_le, cmp_gt, cmp_ge, cmp_eq, nar0, nar1, Sum.elim_inl, Sum.elim_inr, ok_PzT, ok_PzC, ok_PzP, ok_PrC, ok_PrP, ok_PrF, ok_PrN, ok_Ln, ok_CL, ok_Nw, ok_S, ok_Ks, ok_Nz]
    rw [x.2.2.2.2.2.1.2.1, x.o.2.1]
    refine ⟨pf, pf, ?_⟩
    refine ok_mono (set_ok x dAi.1 wn.1 x.jv) ?_
    rintro - u st
    refine ok_mono (forget_ok st.1) ?_
    rintro - y ⟨xy, ly, Iy, Ly⟩
    have I2 : ∀ f j, f ≠ 16396 → gI (sI y 16396 0 0) f j = gI y f j := fun f j q => by rw [gI_sI, if_neg (fun z => q z.1)]
    have x2 : Ix (sI y 16396 0 0) m i w := misc_ix xy (fun f j q => I2 f j (fun z => q (by rw [z]; unfold miI; decide))) (fun _ _ _ => rfl) rfl
    refine .inl (next_st x2 ?_ (by rw [gI_sI, if_pos ⟨rfl, rfl⟩]) (by omega) (fun z => absurd z (noMk (by omega) (by omega))))
    rw [tF_eq (fun f j q => I2 f j (by omega)), I2 _ _ (by decide), ly.etF, Iy _ _ (by decide), tF_eq (fun f j _ => st.2.1 f j), st.2.1]
    exact j.2.1
