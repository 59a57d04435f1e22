/-! The class: the loop of a joining. -/
theorem jr_step {a b c : Int} (h : ¬ a < b) (k : a < c) : b - 1 ≤ a - 1 ∧ a - 1 < c := by omega
theorem jr_le {a b : Int} (h : ¬ a < b) : b ≤ a := by omega
theorem jr_mu {a b : Int} (h : ¬ a < b) (b0 : 0 ≤ b) : (a - 1 + 1).toNat < (a + 1).toNat := by omega
theorem l_m1 {l : Int32} (h : -1000 ≤ l.toInt) : (l + -1).toInt = l.toInt - 1 := by
  have em : (-1 : Int32).toInt = -1 := rfl
  have := Int32.toInt_lt l
  rw [ktI_add] <;> omega
theorem jr_lo {a b : Int} (h : b - 1 ≤ a) (b0 : 0 ≤ b) : -1000 ≤ a := by omega
theorem joinL_ok {s : S1} {n : Nat × Nat} {i w l : Int32} (h : jst s n i w) (o : dO w = 29) (l0 : (dB w).toInt - 1 ≤ l.toInt) (l1 : l.toInt < (dC w).toInt) : ok (oW M_St_joinOn_L12 (l, n)) s (joP i w) := by
  have e0 : (0 : Int32).toInt = 0 := rfl
  have e1 : (1 : Int32).toInt = 1 := rfl
  have em : (-1 : Int32).toInt = -1 := rfl
  have o' := opI o
  have k29 : (29 : Int32).toInt = 29 := rfl
  have dBi := dB_in w
  have dCi := dC_in w
  refine ok_W (fun y t => jst t y.2 i w ∧ (dB w).toInt - 1 ≤ y.1.toInt ∧ y.1.toInt < (dC w).toInt) (fun y _ => (y.1.toInt + 1).toNat) ?_ (l, n) s ⟨h, l0, l1⟩
  rintro ⟨l, m⟩ t ⟨j, l0, l1⟩
  dsimp only at j l0 l1
  have x := j.1
  obtain ⟨a1, a2, a3, a4⟩ := x.2.2.2.2.2.1
  have pf := x.tp.2.2.2.2.1
  have wn := x.wn.2.2.2.2.2.2.2.2.2.2.2.2.1 (by omega)
  simp only [M_St_joinOn_L12, ok_B, ok_C, ok_R, ok_L, ok_K, ok_GI, ok_GL, ok_PI, ok_PL, ok_AI, ok_AL, ok_SI, ok_SL, ok_CI, cmp_lt, cmp_le, cmp_gt, cmp_ge, cmp_eq, nar0, nar1, Sum.elim_inl, Sum.elim_inr, ok_PzT, ok_PzC, ok_PzP, ok_PrC, ok_PrP, ok_PrF, ok_PrN, ok_Ln, ok_CL, ok_Nw, ok_S, ok_Ks, ok_Nz]
  rw [x.o.2.2.1]
  refine ⟨fun _ => j, fun c => ?_⟩
  rw [i32_lt] at c
  rw [a2]
  refine ⟨pf, ?_⟩
  have em1 : (l - 1).toInt = l.toInt - 1 := by rw [ktI_sub] <;> omega
  obtain ⟨lt1, x1⟩ := joinAt_ix x (l - 1)
  have g1 : ∀ f j, f ≠ 19464 → gI (sI t 19464 (tF t) (l - 1)) f j = gI t f j := fun f j q => by rw [gI_sI, if_neg (fun z => q z.1)]
  have g2 : gI (sI t 19464 (tF t) (l - 1)) 19464 (tF t) = l - 1 := by rw [gI_sI, if_pos ⟨rfl, rfl⟩]
  generalize sI t 19464 (tF t) (l - 1) = t1 at lt1 x1 g1 g2 ⊢
  have et := lt1.etF
  have j1 : jst t1 m i w := by
    refine ⟨x1, by rw [et, g1 _ _ (by decide)]; exact j.2.1, (g1 _ _ (by decide)).trans j.2.2.1, ?_⟩
    unfold jrg
    rw [et, g2, em1]
    exact jr_step c l1
  have wn1 := x1.wn.2.2.2.2.2.2.2.2.2.2.2.2.1 (by omega)
  have hx := x1.xr (r := l) (by omega) (by omega)
  have pf1 := x1.tp.2.2.2.2.1
  have a21 := x1.2.2.2.2.2.1.2.1
  rw [ok_kO x1 hx]
  refine ok_mono (isText_ok _ _) ?_
  rintro r u ⟨eu, -⟩
  subst eu
  refine ⟨fun _ => ⟨j1, jr_le c, l1⟩, fun _ => ?_⟩
  rw [a21]
  refine ⟨pf1, ?_⟩
  refine ok_mono (isText_ok _ _) ?_
  rintro r' u' ⟨eu, -⟩
  subst eu
  refine ⟨fun _ => ⟨j1, jr_le c, l1⟩, fun _ => ?_⟩
  rw [ok_kO x1 hx, ok_vO x1 hx]
  refine ok_mono (joined_ok x1 (x1.kv0 hx)) ?_
  rintro ⟨v, m2⟩ t2 ⟨mk, q⟩
  have j2 := j1.mk mk
  dsimp only at q j2 mk ⊢
  have x2 := j2.1
  have a22 := x2.2.2.2.2.2.1.2.1
  have pf2 := x2.tp.2.2.2.2.1
  simp only [gI_sI, gI_sL, gI_sA, gI_sB, gI_sAf, gI_sBf, gL_sI, gL_sL, gL_sA, gL_sB, gL_sAf, gL_sBf, gA_sI, gA_sL, gA_sA, gA_sB, gA_sAf, gA_sBf, gB_sI, gB_sL, gB_sA, gB_sB, gB_sAf, gB_sBf, Nat.reduceEqDiff, Nat.reduceMul, Nat.reduceAdd, false_and, true_and, and_true, and_false, if_true, if_false]
  rw [a22]
  refine ⟨fun v0 => ?_, fun _ => j2⟩
  have lv : cLv false t2 v 4 := by
    rcases q with q | q
    · rcases q with z | z <;> rw [z] at v0 <;> exact absurd v0 (by decide)
    · exact q.2
  have cv : cV (cLv false t2) 4 v.toInt64 := cV.obj (.inl rfl) v0 lv
  have key : ∀ T : S1, (∀ f j, gI T f j = if f = 19462 ∧ j = tF t2 then 4 else gI t2 f j) → (∀ f j, gL T f j = if f = 19463 ∧ j = tF t2 then v.toInt64 else gL t2 f j) → T.2.2 = t2.2.2 → jst T m2 i w := fun T TI TL T2 => by
    have t6 : gI T 16396 0 = gI t2 16396 0 := by rw [TI, if_neg (fun z => absurd z.1 (by decide))]
    obtain ⟨xT, lT⟩ := join_ix (kk := 4) (vv := v.toInt64) x2 cv (fun f j => by
      by_cases z : f = 16396 ∧ j = 0
      · rw [if_pos z, z.1, z.2]
      · rw [if_neg z, TI]) TL T2
    refine ⟨xT, ?_, t6.trans j2.2.2.1, ?_⟩
    · rw [lT.etF, TI, if_neg (fun z => absurd z.1 (by decide))]
      exact j2.2.1
    · unfold jrg
      rw [lT.etF, TI, if_neg (fun z => absurd z.1 (by decide))]
      exact j2.2.2.2
  have lm : (l + -1).toInt = l.toInt - 1 := l_m1 (jr_lo l0 dBi.1)
  refine ⟨pf2, ⟨pf2.1, by simp only [gI_sI, gI_sL, gI_sA, gI_sB, gI_sAf, gI_sBf, gL_sI, gL_sL, gL_sA, gL_sB, gL_sAf, gL_sBf, gA_sI, gA_sL, gA_sA, gA_sB, gA_sAf, gA_sBf, gB_sI, gB_sL, gB_sA, gB_sB, gB_sAf, gB_sBf, Nat.reduceEqDiff, Nat.reduceMul, Nat.reduceAdd, false_and, true_and, and_true, and_false, if_true, if_false]; exact pf2.2⟩, ⟨key _ (fun f j => ?_) (fun f j => ?_) rfl, by rw [lm]; exact (jr_step c l1).1, by rw [lm]; exact (jr_step c l1).2⟩, by rw [lm]; exact jr_mu c dBi.1⟩
  · simp only [gI_sI, gI_sL]
  · simp only [gL_sI, gL_sL]
