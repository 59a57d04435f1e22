/-! The class: a load: the main function. -/
/-- what is known before the heap is filled -/
def L0 (s0 : S1) : Prop := gI s0 14221 0 = 1 ∧ cSf s0 ∧ dPg s0 ∧ Vcs s0 ∧ (∀ c, pC s0 c → oSl s0 c = -1) ∧ (gI s0 16898 0 = 0 ∧ gI s0 17666 0 = 0 ∧ gI s0 18050 0 = 0)
theorem Kb.sf {s t : S1} (h : Kb s t) (S : cSf s) : cSf t := S.congr (fun f j q => h.1 f j (by unfold sfI at q; unfold kbX; omega))
theorem Kb.pk {s t : S1} (h : Kb s t) : cPk s t := ⟨fun f j q => h.1 f j (by unfold kbX; omega), fun a j k q => h.2.1 a j k (by unfold kbA; omega)⟩
def BU (s0 : S1) (v x : Int32) (n : Nat × Nat) (u : S1) : Prop := cHR u ∧ cRo u n (0, 0) ∧ Kb s0 u ∧ Bn v u ∧ (∀ i : Int32, 0 ≤ i.toInt → i.toInt < nCo s0 → Cn1 u i) ∧ cLv false u x 6 ∧ cLk u x = 0 ∧ ∀ y, cLv false u y 6 → y = x
/-- the state that enters the main function -/
def mnI (w : S1) (c : Int32) (T : S1) : Prop := (∀ f j, gI T f j = if f = 18952 ∧ j = c then 1 else if f = 18951 ∧ j = c then 1 else if f = 16395 ∧ j = 0 then c else if f = 14221 ∧ j = 0 then 0 else gI w f j) ∧ (∀ f j, gL T f j = if f = 18953 ∧ j = c then -1 else gL w f j) ∧ T.2.2 = w.2.2
theorem main_w {s0 u w T : S1} {n m : Nat × Nat} {v x y c : Int32} {fv : Int64} (l : L0 s0) (b : BU s0 v x n u) (hw : cHR w) (sw : cSf w) (rw_ : cRo w m (0, 0)) (nc : cNc y c u w) (ni : cNi y c fv u w) (h : mnI w c T) : cW T m ∧ qFr true T ∧ mCur T = c ∧ gI T 18951 c = 1 ∧ cLv false T x 6 ∧ cLk T x = 0 ∧ oD T c = 0 ∧ oU T c = 0 ∧ gI T 16898 0 = 0 := by
  obtain ⟨ld, sf, pg, vc, no, r1, r2, r3⟩ := l
  obtain ⟨hu, ru, kb, bn, cn, lx, kx, only⟩ := b
  obtain ⟨TI, TL, T2⟩ := h
  obtain ⟨n1, n2, nI, nL, nA, nB, nD⟩ := nc
  obtain ⟨c32, cno, c1, cl, d0, u0, sl, st0, bg0, fn, no', rs⟩ := ni
  have A : ∀ a j q, gA T a j q = gA w a j q := fun a j q => by
    show T.2.2.1 a j q = w.2.2.1 a j q
    rw [T2]
  have B : ∀ a j q, gB T a j q = gB w a j q := fun a j q => by
    show T.2.2.2 a j q = w.2.2.2 a j q
    rw [T2]
  have I : ∀ f j, f ≠ 18952 ∧ f ≠ 18951 ∧ f ≠ 16395 ∧ f ≠ 14221 → gI T f j = gI w f j := fun f j q => by
    rw [TI, if_neg (fun z => q.1 z.1), if_neg (fun z => q.2.1 z.1), if_neg (fun z => q.2.2.1 z.1), if_neg (fun z => q.2.2.2 z.1)]
  have IJ : ∀ f j, f / 128 = 148 → j ≠ c → gI T f j = gI s0 f j := fun f j q z => by
    rw [TI, if_neg (fun y => z y.2), if_neg (fun y => z y.2), if_neg (fun y => by omega), if_neg (fun y => by omega), nI f j (by omega) (fun y => by omega) (fun _ => z) (fun y => by omega)]
    exact kb.1 f j (by unfold kbX; omega)
  have IS : ∀ f j, f / 128 < 145 → f ≠ 14209 ∧ f ≠ 14211 ∧ f ≠ 16395 ∧ f ≠ 14221 → gI T f j = gI u f j := fun f j q z => by
    rw [I f j (by omega), nI f j (by omega) (fun y => by omega) (fun y => by omega) (fun y => by omega)]
  have AS : ∀ a j k, a < 145 → a ≠ 114 → gA T a j k = gA u a j k := fun a j k q z => by
    rw [A, nA a j k z (fun y => by omega)]
  have BS : ∀ a j k, a < 145 → gB T a j k = gB u a j k := fun a j k q => by
    rw [B, nB a j k (fun y => by omega)]
  have lvT : cLv false T = cLv false w := by
    funext p q
    rw [cLv_f, cLv_f, show cN T = cN w from I _ _ (by decide), show cTy T p = cTy w p from I _ _ (by decide)]
  have up : ∀ p q, q ≠ 0 → cLv false u p q → cLv false T p q := fun p q z k => by
    rw [lvT]
    exact (n2 p q z k).1
  have sy : ∀ p, cLv false u p 4 → cSy T p = cSy u p := fun p k => by
    rw [show cSy T p = cSy w p from I _ _ (by decide)]
    exact nI _ _ (by decide) (fun _ => (n2 p 4 (by decide) k).2) (fun z => absurd z (by decide)) (fun z => absurd z (by decide))
  have mc : mCur T = c := by
    unfold mCur
    rw [TI, if_neg (fun z => absurd z.1 (by decide)), if_neg (fun z => absurd z.1 (by decide)), if_pos ⟨rfl, rfl⟩]
  have s1 : gI T 18951 c = 1 := by rw [TI, if_neg (fun z => absurd z.1 (by decide)), if_pos ⟨rfl, rfl⟩]
  have s2 : gI T 18952 c = 1 := by rw [TI, if_pos ⟨rfl, rfl⟩]
  have tD : oD T c = 0 := (I _ _ (by decide)).trans d0
  have tU : oU T c = 0 := (I _ _ (by decide)).trans u0
  have pc : pC T c := ⟨c32, (I _ _ (by decide)).trans c1⟩
  have y0 : 0 ≤ y := n1.1.1
  have av : ∀ d, pC T d → 0 ≤ oSl T d → d = c := fun d p q => by
    refine Classical.byContradiction fun z => ?_
    have w1 : oSl T d = oSl s0 d := IJ _ _ (by decide) z
    have w2 : gI T 19071 d = gI s0 19071 d := IJ _ _ (by decide) z
    rw [w1, no d ⟨p.1, w2.symm.trans p.2⟩] at q
    exact absurd q (by decide)
  have nop : ∀ p, ¬ (cLv false w p 8 ∧ cLk w p = c) := fun p k => by
    have py : p ≠ y := fun z => by
      rw [z] at k
      exact absurd (k.1.2.1.symm.trans n1.2.1) (by decide)
    have k8 := nD p 8 (by decide) py k.1
    have kl : cLk u p = c := by
      rw [← k.2]
      exact (nI _ _ (by decide) (fun _ => py) (fun z => absurd z (by decide)) (fun z => absurd z (by decide))).symm
    have q := hu.1.2.2.2.2.1.2.1 p k8 (by rw [kl]; exact c32.1)
    rw [kl] at q
    have := cno q.1
    rw [i32_lt] at this
    have q2 := q.2
    rw [i32_le] at q2
    omega
  have Hi : cHI T := by
    refine hw.1.cow (c := c) ⟨fun f j q _ _ => I f j (by unfold hpI at q; omega), fun f j q z _ => ?_, fun a j k _ _ => A a j k, fun a j k _ _ => B a j k⟩ (fun _ _ => ⟨?_, ⟨?_, fun i i0 i1 => ?_⟩, ⟨?_, fun j j0 j1 => ?_⟩, fun p p1 p2 => ?_⟩) (fun p _ _ k => absurd k (nop p))
    · rw [TL, if_neg (fun y => z y.1 y.2)]
    · right
      right
      refine ⟨rfl, .inl ?_⟩
      unfold oFn
      rw [TL, if_pos ⟨rfl, rfl⟩]
      decide
    · rw [tU]
      decide
    · rw [tU, i32_lt] at i1
      rw [i32_le] at i0
      omega
    · rw [tD]
      decide
    · rw [tD, i32_lt] at j1
      rw [i32_le] at j0
      omega
    · rw [lvT] at p1
      exact p1
  have nco : (gI T 12938 0).toInt = nCo s0 := by
    rw [IS 12938 0 (by decide) (by decide), kb.1 12938 0 (by unfold kbX; decide)]
  have rz : ∀ f, f = 16898 ∨ f = 17666 ∨ f = 18050 → gI T f 0 = 0 := fun f q => by
    rw [IS f 0 (by omega) (by omega), kb.1 f 0 (by unfold kbX; omega)]
    rcases q with q | q | q <;> rw [q] <;> assumption
  have row : ∀ a k f, f = 16898 ∨ f = 17666 ∨ f = 18050 → cRw (cLv false T) T a k f := fun a k f q => by
    refine ⟨by rw [rz f q]; decide, fun i i0 i1 => ?_⟩
    rw [rz f q, i32_lt] at i1
    rw [i32_le] at i0
    omega
  have Rt : cRt T := by
    refine ⟨?_, ⟨?_, fun _ => 0, fun _ => ?_, fun p k => ⟨?_, Int.le_refl _⟩, fun p k q => ?_, fun p q k k' z => absurd z (Int.lt_irrefl _), fun p q k k' _ => ?_⟩, row _ _ _ (.inr (.inr rfl)), row _ _ _ (.inr (.inl rfl)), row _ _ _ (.inl rfl), fun i i0 i1 => ?_, fun i i0 i1 => ?_⟩
    · rw [IS 16394 0 (by decide) (by decide)]
      exact up _ 5 (by decide) bn.2.1
    · rw [mc]
      exact c32.1
    · rw [mc]
      refine ⟨pc, ?_, .inl s1⟩
      rw [show oSl T c = oSl w c from I _ _ (by decide), sl]
      exact y0
    · rw [mc]
      exact c32.1
    · rw [av p k.1 k.2.1, show oRs T c = oRs w c from I _ _ (by decide), rs] at q
      exact absurd q (by decide)
    · rw [av p k.1 k.2.1, av q k'.1 k'.2.1]
    · rw [AS 115 0 i (by decide) (by decide)]
      rw [i32_le] at i0
      rw [i32_lt] at i1
      have q := bn.1 i i0 i1
      exact ⟨up _ 4 (by decide) q.1, by rw [sy _ q.1]; exact q.2⟩
    · rw [AS 105 0 i (by decide) (by decide), BS 106 0 i (by decide)]
      rw [i32_le] at i0
      rw [i32_lt, nco] at i1
      have q := cn i i0 i1
      exact ⟨q.1, fun z => ⟨(q.2 z).1, up _ 4 (by decide) (q.2 z).2.1, by rw [sy _ (q.2 z).2.1]; exact (q.2 z).2.2⟩⟩
  have kxT : cLk T x = 0 := by
    rw [show cLk T x = cLk w x from I _ _ (by decide), ← kx]
    exact nI _ _ (by decide) (fun _ => (n2 x 6 (by decide) lx).2) (fun z => absurd z (by decide)) (fun z => absurd z (by decide))
  have pgT : dPg T := by
    refine cPk.pg (s := s0) ⟨fun f j q => ?_, fun a j k q => ?_⟩ pg
    · rw [IS f j (by omega) (by omega)]
      exact kb.1 f j (by unfold kbX; omega)
    · rw [AS a j k (by omega) (by omega)]
      exact kb.2.1 a j k (by unfold kbA; omega)
  refine ⟨⟨Hi, Rt, ?_, ?_, ?_, pgT, fun p k => ?_⟩, fun d a => ?_, mc, s1, up x 6 (by decide) lx, kxT, tD, tU, rz _ (.inl rfl)⟩
  · rw [TI, if_neg (fun z => absurd z.1 (by decide)), if_neg (fun z => absurd z.1 (by decide)), if_neg (fun z => absurd z.1 (by decide)), if_pos ⟨rfl, rfl⟩]
  · obtain ⟨f1, f2, f3, f4, f5, f6⟩ := sw
    have pC' : ∀ d, pC w d → pC T d := fun d q => ⟨q.1, (I _ _ (by decide)).trans q.2⟩
    have pP' : ∀ d, pP w d → pP T d := fun d q => ⟨q.1, (I _ _ (by decide)).trans q.2⟩
    refine ⟨fun d a b => ?_, .inr (by rw [show gI T 16395 0 = c from mc]; exact pc), ?_, ?_, ?_, fun f q => ?_⟩
    · unfold cFlg cNfl at f1 ⊢
      simp only [I 19071 _ (by decide), I 19199 _ (by decide), I 19327 _ (by decide), I 19455 _ (by decide), I 18947 _ (by decide), I 19583 _ (by decide)]
      exact f1 d a b
    · rw [I 16516 0 (by decide)]
      exact f3.imp id (pC' _)
    · rw [I 16517 0 (by decide)]
      exact f4.imp id (fun q => by unfold pF at q ⊢; rw [I 19583 _ (by decide)]; exact q)
    · rw [I 16518 0 (by decide)]
      exact f5.imp id (pP' _)
    · rw [I 19458 f (by decide)]
      exact (f6 f (by unfold pF at q ⊢; rw [I 19583 _ (by decide)] at q; exact q)).imp id (pP' _)
  · exact cRo.fi (x := 0) rw_ (fun f j q => I f j (by omega)) (fun j _ => A _ _ _)
  · have px : p = x := by
      rw [lvT] at k
      have py : p ≠ y := fun z => by
        rw [z] at k
        exact absurd (k.2.1.symm.trans n1.2.1) (by decide)
      exact only p (nD p 6 (by decide) py k)
    rw [px, kxT]
    have := pgT.1.1
    exact ⟨by decide, by show (0 : Int) < _; omega⟩
  · have dc := av d a.1 a.2
    rw [dc]
    refine ⟨⟨by rw [s1]; decide, fun _ => mc.symm, fun z => ?_, fun z => ?_, fun _ => tU, fun p k => ?_⟩, fun j j0 j1 => ?_⟩
    · rw [s1] at z
      exact absurd z (by decide)
    · rw [s2] at z
      exact absurd z (by decide)
    · unfold cOp at k
      rw [lvT, show cLk T p = cLk w p from I _ _ (by decide)] at k
      exact absurd k (nop p)
    · rw [tD, i32_lt] at j1
      rw [i32_le] at j0
      omega
/-- the main function fits -/
theorem push1 {s : S1} {c k x r : Int32} (d : gI s 18948 c = 0) (u : gI s 18949 c = 0) (hr : r.toInt ≤ 4000) : hu (M_Co_push c k x r) s (fun v _ => v = 1) := by
  simp only [M_Co_push, hu_B, hu_C, hu_GI, hu_PI, hu_PL, hu_R, hu_K, d, u]
  refine ⟨fun z => absurd z (by decide), fun _ => ⟨fun _ _ => trivial, fun z => absurd ?_ z⟩⟩
  rw [Int32.zero_add, i32_le]
  exact hr
theorem enterNF {s : S1} {x : Int32} (d : oD s (mCur s) = 0) (u : oU s (mCur s) = 0) (a : gI s 16898 0 = 0) (r : pNr s (cLk s x) ≤ 250) (p : 0 ≤ pNp s (cLk s x) ∧ pNp s (cLk s x) ≤ 250) : hu (M_Ma_enterClosure x) s (fun _ t => gI t 16396 0 = 0) := by
  have j54 : ∀ ex : Int32, ex = 0 → hu (M_Ma_enterClosure_j54 x (cLk s x) (mCur s) ex) s (fun _ t => gI t 16396 0 = 0) := fun ex e => by
    rw [e]
    unfold M_Ma_enterClosure_j54
    rw [hu_B, hu_GI, hu_B]
    refine hu_mono (push1 d u (by rw [Int32.add_zero]; show pNr s (cLk s x) ≤ 4000; omega)) ?_
    rintro v t e1
    rw [e1, hu_C]
    refine ⟨fun z => absurd z (by decide), fun _ => ?_⟩
    iterate 28 refine hu_S fun _ _ => ?_
    rw [hu_B, hu_PI, hu_R, gI_sI, if_pos ⟨rfl, rfl⟩]
  simp only [M_Ma_enterClosure, M_Mth_max, hu_B, hu_C, hu_GI, hu_R, hu_Pz, hu_Pr]
  refine fun _ _ _ => ⟨fun _ => ⟨fun z => ?_, fun _ => j54 0 rfl⟩, fun _ => j54 0 rfl⟩
  have e0 : (0 : Int32).toInt = 0 := rfl
  have es : ((0 : Int32) - gI s 18432 (gI s 18564 x)).toInt = 0 - pNp s (cLk s x) := ktI_sub (by show -2147483648 ≤ 0 - pNp s (cLk s x) ∧ 0 - pNp s (cLk s x) < 2147483648; omega)
  rw [a, i32_lt, es] at z
  omega
