/-! The class: a joining goes on. -/
theorem Ix.jv {s : S1} {n : Nat × Nat} {i w : Int32} (x : Ix s n i w) : cV (cLv false s) (gI s 19462 (tF s)) (gL s 19463 (tF s)) := by
  have co := (x.w.hi.dep x.w.cur).1
  obtain ⟨j, j0, j1, -, -, e⟩ := tF_of x.w x.2.2.2.1
  have := (co.2.2.1.2 j j0 j1).2
  rw [← e] at this
  exact this
def jdQ (s : S1) (r : Int32 × (Nat × Nat)) (t : S1) : Prop := mkW s false r.2 t ∧ ((r.1 = -10 ∨ r.1 = -11) ∨ (0 ≤ r.1 ∧ cLv false t r.1 4))
theorem inQ.w {s t : S1} {n : Nat × Nat} {τ : Bool} {r : Int32 × (Nat × Nat)} (W : cW s n) (F : qFr τ s) (h : inQ s (0, 0) r t) : mkW s τ r.2 t ∧ ((r.1 = -10 ∨ r.1 = -11) ∨ (0 ≤ r.1 ∧ cLv false t r.1 4)) := by
  rcases h with ⟨rfl, h2, h3⟩ | h
  · exact ⟨⟨⟨W.1, W.2.1, W.2.2.1, W.2.2.2.1, h3, W.2.2.2.2.2⟩, F, cKm.refl t⟩, .inr ⟨h2.1.1, h2⟩⟩
  · obtain ⟨m, q⟩ := mdQ.w W F (by decide) (fun _ _ _ z => absurd z (by decide)) h
    refine ⟨m, q.imp id (fun z => ⟨z.1, z.2.1⟩)⟩
theorem wk_src {s : S1} {n e : Nat × Nat} (R : cRo s n e) (h : wkI s) (z : gI s 14217 0 ≤ 400000) : cSrc s 118 0 0 (gI s 14217 0) := by
  have wl := R.wl
  obtain ⟨l1, l2⟩ := wk_ln s (by omega)
  have e0 : (0 : Int32).toInt = 0 := rfl
  rw [i32_le] at z
  have := h.2 z
  exact ⟨by decide, by decide, h.1, by omega, by omega⟩
theorem joined_ok {s : S1} {n : Nat × Nat} {i w k : Int32} {v : Int64} (x : Ix s n i w) (hv : cV (cLv false s) k v) : ok (M_St_joined n k v) s (jdQ s) := by
  have W := x.w
  obtain ⟨a1, a2, a3, a4⟩ := x.2.2.2.2.2.1
  have pf := x.tp.2.2.2.2.1
  have jv := x.jv
  have g0 : ∀ f j, f ≠ 14217 → gI (sI s 14217 0 0) f j = gI s f j := fun f j q => by rw [gI_sI, if_neg (fun z => q z.1)]
  have u0 : gI (sI s 14217 0 0) 14217 0 = 0 := by rw [gI_sI, if_pos ⟨rfl, rfl⟩]
  have w0 : wuQ s (sI s 14217 0 0) := ⟨fun f j q => g0 f j (fun z => q (by unfold wuX; omega)), fun _ _ => rfl, fun _ _ _ _ => rfl, fun _ _ _ _ => rfl⟩
  have r0 := W.ro.wu w0 (g0 _ _ (by decide)) (.inr trivial)
  have i0 : wkI (sI s 14217 0 0) := by
    unfold wkI
    rw [u0]
    have := r0.wl
    exact ⟨by decide, fun _ => by show (0 : Int) ≤ _; omega⟩
  simp only [M_St_joined, ok_B, ok_C, ok_R, ok_L, ok_K, ok_GI, ok_GL, ok_PI, ok_PL, ok_AI, ok_AL, ok_SI, ok_SL, ok_CI, cmp_lt, cmp_le, cmp_gt, cmp_ge, cmp_eq, nar0, nar1, Sum.elim_inl, Sum.elim_inr, ok_PzT, ok_PzC, ok_PzP, ok_PrC, ok_PrP, ok_PrF, ok_PrN, ok_Ln, ok_CL, ok_Nw, ok_S, ok_Ks, ok_Nz]
  generalize sI s 14217 0 0 = s0 at g0 u0 w0 r0 i0 ⊢
  obtain ⟨W0, F0, k0⟩ := w0.mk W x.fr r0
  have z0 : (gI s0 14217 0).toInt = 0 := by rw [u0]; rfl
  refine ok_mono (putText_ok W0 r0 i0 (by omega) (by rw [w0.lv]; exact hv)) ?_
  rintro ra s1 ⟨w1, i1, r1, b1⟩
  obtain ⟨W1, F1, k1⟩ := w1.mk W0 F0 r1
  have w01 := w0.trans w1
  have e1 : gI s1 16517 0 = tF s := (w01.1 _ _ (by unfold wuX; decide)).trans a2
  rw [e1, w01.1 19462 _ (by unfold wuX; decide), w01.2.1 19463]
  have pf1 : pF s1 (tF s) := ⟨pf.1, by rw [w01.1 _ _ (by unfold wuX; decide)]; exact pf.2⟩
  refine ⟨pf1, pf1, ?_⟩
  refine ok_mono (putText_ok W1 r1 i1 (by omega) (by rw [w01.lv]; exact jv)) ?_
  rintro rb s2 ⟨w2, i2, r2, b2⟩
  have m2 := (w01.trans w2).mk W x.fr r2
  refine ok_mono (intern_ok m2.1.hr r2 118 0 0 (gI s2 14217 0) (by decide) (fun z => wk_src r2 i2 z)) ?_
  rintro rc s3 q
  obtain ⟨m3, c⟩ := inQ.w m2.1 m2.2.1 q
  exact ⟨m2.trans m3, c⟩
/-- a joining is under way -/
def jrg (t : S1) (w : Int32) : Prop := (dB w).toInt - 1 ≤ (gI t 19464 (tF t)).toInt ∧ (gI t 19464 (tF t)).toInt < (dC w).toInt
def jst (t : S1) (n : Nat × Nat) (i w : Int32) : Prop := Ix t n i w ∧ gI t 19461 (tF t) = i + 1 ∧ gI t 16396 0 = 6 ∧ jrg t w
theorem joinAt_ix {s : S1} {n : Nat × Nat} {i w : Int32} (x : Ix s n i w) (q : Int32) : lw false s (sI s 19464 (tF s) q) ∧ Ix (sI s 19464 (tF s) q) n i w := by
  have l : lw false s (sI s 19464 (tF s) q) := by
    refine ⟨fun f j z => ?_, fun j z => ⟨?_, ?_⟩, fun j z => ⟨?_, rfl⟩, fun _ _ _ => rfl, fun _ _ _ _ => rfl, fun _ _ _ => rfl, fun _ _ _ _ => rfl, fun _ _ _ => rfl⟩
    · rw [gI_sI, if_neg (fun y => z (by rw [y.1]; unfold lwX; decide))]
    · rw [gI_sI, if_neg (fun y => absurd y.1 (by decide))]
    · rw [gI_sI, if_neg (fun y => ?_)]
      rcases z with z | z
      · exact absurd z (by decide)
      · exact z ⟨x.2.2.2.1, y.2⟩
    · rw [gI_sI, if_neg (fun y => absurd y.1 (by decide))]
  obtain ⟨p1, p2, p3, p4⟩ := l.pure x.w rfl (fun f j z => by rw [gI_sI, if_neg (fun y => by omega)]) (fun _ => rfl)
  exact ⟨l, x.lw l p1 p2 p3 p4⟩
theorem j_wt {t : S1} {n : Nat × Nat} {i w : Int32} (x : Ix t n i w) (pt : gI t 19461 (tF t) = i + 1) (o : dO w = 29) (r : jrg t w) : qFr true t := by
  refine x.fr.tight x.w (fun _ _ => ?_)
  obtain ⟨e1, e2⟩ := pcp x
  have h := x.2.2.2.2.2.2.2.1
  have wf := x.wf.1
  rw [x.2.2.2.2.2.2.2.2] at wf
  have o' := opI o
  have k29 : (29 : Int32).toInt = 29 := rfl
  have lt : i.toInt + 1 < pNi t (fPr t (tF t)) := Decidable.byContradiction fun z => by
    rcases wf z with y | y | y
    · rw [y] at o
      exact absurd o (by decide)
    · rw [y] at o
      exact absurd o (by decide)
    · rw [y] at o
      exact absurd o (by decide)
  unfold qWt fJa
  rw [show fPc t (tF t) = i + 1 from pt, e2, x.2.2.2.2.2.2.2.2, e1]
  exact ⟨⟨by omega, lt⟩, by unfold dCl; omega, fun _ => r⟩
/-- what is joined is forgotten -/
theorem forget_ok {s : S1} {n : Nat × Nat} {i w : Int32} (x : Ix s n i w) : ok M_St_forgetJoined s (fun _ t => Ix t n i w ∧ lw true s t ∧ (∀ f j, f ≠ 19462 → gI t f j = gI s f j) ∧ ∀ f j, f ≠ 19463 → gL t f j = gL s f j) := by
  obtain ⟨a1, a2, a3, a4⟩ := x.2.2.2.2.2.1
  have pf := x.tp.2.2.2.2.1
  simp only [M_St_forgetJoined, ok_B, ok_C, ok_R, ok_L, ok_K, ok_GI, ok_GL, ok_PI, ok_PL, ok_AI, ok_AL, ok_SI, ok_SL, ok_CI, cmp_lt, cmp_le, cmp_gt, cmp_ge, cmp_eq, nar0, nar1, Sum.elim_inl, Sum.elim_inr, ok_PzT, ok_PzC, ok_PzP, ok_PrC, ok_PrP, ok_PrF, ok_PrN, ok_Ln, ok_CL, ok_Nw, ok_S, ok_Ks, ok_Nz]
  simp only [gI_sI, gI_sL, gI_sA, gI_sB, gI_sAf, gI_sBf, gL_sI, gL_sL, gL_sA, gL_sB, gL_sAf, gL_sBf, gA_sI, gA_sL, gA_sA, gA_sB, gA_sAf, gA_sBf, gB_sI, gB_sL, gB_sA, gB_sB, gB_sAf, gB_sBf, Nat.reduceEqDiff, Nat.reduceMul, Nat.reduceAdd, false_and, true_and, and_true, and_false, if_true, if_false]
  rw [a2]
  have key : ∀ T : S1, (∀ f j, gI T f j = if f = 19462 ∧ j = tF s then 0 else gI s f j) → (∀ f j, gL T f j = if f = 19463 ∧ j = tF s then 0 else gL s f j) → T.2.2 = s.2.2 → Ix T n i w ∧ lw true s T ∧ (∀ f j, f ≠ 19462 → gI T f j = gI s f j) ∧ ∀ f j, f ≠ 19463 → gL T f j = gL s f j := fun T TI TL T2 => by
    have t6 : gI T 16396 0 = gI s 16396 0 := by rw [TI, if_neg (fun z => absurd z.1 (by decide))]
    obtain ⟨p, q⟩ := join_ix (kk := 0) (vv := 0) x (cV.lit (by decide)) (fun f j => by
      by_cases z : f = 16396 ∧ j = 0
      · rw [if_pos z, z.1, z.2]
      · rw [if_neg z, TI]) TL T2
    exact ⟨p, q, fun f j y => by rw [TI, if_neg (fun z => y z.1)], fun f j y => by rw [TL, if_neg (fun z => y z.1)]⟩
  refine ⟨pf, ⟨pf.1, by simp only [gI_sI, gI_sL, gI_sA, gI_sB, gI_sAf, gI_sBf, gL_sI, gL_sL, gL_sA, gL_sB, gL_sAf, gL_sBf, gA_sI, gA_sL, gA_sA, gA_sB, gA_sAf, gA_sBf, gB_sI, gB_sL, gB_sA, gB_sB, gB_sAf, gB_sBf, Nat.reduceEqDiff, Nat.reduceMul, Nat.reduceAdd, false_and, true_and, and_true, and_false, if_true, if_false]; exact pf.2⟩, key _ (fun f j => ?_) (fun f j => ?_) rfl⟩
  · simp only [gI_sI, gI_sL]
  · simp only [gL_sI, gL_sL]
def joP (i w : Int32) (e : (Int32 × (Nat × Nat)) ⊕ (Int32 × (Nat × Nat)) ⊕ (Nat × Nat)) (t : S1) : Prop := Sum.elim (fun y => jst t y.2 i w ∧ (dB w).toInt ≤ y.1.toInt ∧ y.1.toInt < (dC w).toInt) (Sum.elim (fun y => jst t y.2 i w) (fun m => jst t m i w)) e
def itQ (s : S1) (r : Int32) (t : S1) : Prop := t = s ∧ (r = 0 ∨ r = 1)
theorem isText_ok (k : Int32) (s : S1) : ok (M_St_isText k) s (itQ s) := by
  simp only [M_St_isText, M_St_isText_j10, ok_B, ok_C, ok_R, ok_L, ok_K, ok_GI, ok_GL, ok_PI, ok_PL, ok_AI, ok_AL, ok_SI, ok_SL, ok_CI, cmp_lt, cmp_le, cmp_gt, cmp_ge, cmp_eq, nar0, nar1, Sum.elim_inl, Sum.elim_inr, ok_PzT, ok_PzC, ok_PzP, ok_PrC, ok_PrP, ok_PrF, ok_PrN, ok_Ln, ok_CL, ok_Nw, ok_S, ok_Ks, ok_Nz]
  exact ⟨fun _ => ⟨rfl, .inr rfl⟩, fun _ => ⟨fun _ => ⟨rfl, .inr rfl⟩, fun _ => ⟨rfl, .inl rfl⟩⟩⟩
theorem jst.mk {s t : S1} {n m : Nat × Nat} {i w : Int32} (h : jst s n i w) (k : mkW s false m t) : jst t m i w := by
  obtain ⟨x, p, t6, r⟩ := h
  obtain ⟨o1, ⟨o2, o3, -⟩, -⟩ := k.oi x
  refine ⟨o1, o2.trans p, k.tu.trans t6, ?_⟩
  unfold jrg
  rw [o3]
  exact r
