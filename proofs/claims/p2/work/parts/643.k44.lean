/-! The class: handlers of either, upvalues, variables. -/
theorem Ix.gen {s t : S1} {n m : Nat × Nat} {i w : Int32} (h : Ix s n i w) (W : cW t m) (F : qFr false t) (I : ∀ f j, f = 16395 ∨ (16516 ≤ f ∧ f ≤ 16524) ∨ f = 18948 ∨ f = 18951 ∨ f = 19456 ∨ f = 19458 ∨ f = 19459 ∨ f = 18439 ∨ f = 18440 → gI t f j = gI s f j) (A : ∀ j k, gA t 104 j k = gA s 104 j k) : Ix t m i w := by
  obtain ⟨-, -, h1, h2, h3, h4, h5, h6, h7⟩ := h
  have ec : mCur t = mCur s := I _ _ (by decide)
  have eD : ∀ c, oD t c = oD s c := fun c => I _ _ (by decide)
  have et : tF t = tF s := by
    unfold tF
    rw [ec, eD]
  have ew : ∀ p i, dW t p i = dW s p i := fun p i => by
    unfold dW
    rw [I 18440 p (by decide), A]
  unfold Ix
  rw [et, ec, show fPr t (tF s) = fPr s (tF s) from I _ _ (by decide), ew, show fWh t (tF s) = fWh s (tF s) from I _ _ (by decide), eD]
  unfold pNi
  rw [I 16516 0 (by decide), I 16517 0 (by decide), I 16518 0 (by decide), I 16519 0 (by decide), I 16520 0 (by decide), I 16521 0 (by decide), I 16522 0 (by decide), I 16523 0 (by decide), I 16524 0 (by decide), I 19459 _ (by decide), I 18439 _ (by decide), I 18951 _ (by decide)]
  exact ⟨W, F, h1, h2, h3, h4, h5, h6, h7⟩
def eiQ (s : S1) (r : Int32) (t : S1) : Prop := (r = 0 ∧ t = s) ∨ (r = 1 ∧ ceQ s t ∧ (rwS t 132).toInt = 2)
theorem either_ok {s : S1} {ev k k' : Int32} {v v' : Int64} (H : cHI s) (he : 0 ≤ ev.toInt ∧ ev.toInt < 33) (hv : cV (cLv false s) k v) (hv' : cV (cLv false s) k' v') : ok (M_St_callsEither ev k v k' v') s (eiQ s) := by
  have j31 : ∀ p, (p = -1 ∨ 0 ≤ p ∧ inT s p ∧ cVk s p ≠ 0) → ok (M_St_callsEither_j31 k v k' v' p) s (eiQ s) := fun p hp => by
    simp only [M_St_callsEither_j31, M_St_callsEither_j51, ok_B, ok_C, ok_R, ok_L, ok_K, ok_GI, ok_GL, ok_PI, ok_PL, ok_AI, ok_AL, ok_SI, ok_SL, ok_CI, cmp_lt, cmp_le, cmp_gt, cmp_ge, cmp_eq, nar0, nar1, Sum.elim_inl, Sum.elim_inr, ok_PzT, ok_PzC, ok_PzP, ok_PrC, ok_PrP, ok_PrF, ok_PrN, ok_Ln, ok_CL, ok_Nw, ok_S, ok_Ks, ok_Nz]
    refine ⟨fun c => ⟨fun _ => .inl ⟨rfl, rfl⟩, fun d => absurd c d⟩, fun c => ?_⟩
    have it : inT s p := by
      rcases hp with rfl | z
      · exact absurd (show (-1 : Int32) < 0 by decide) c
      · exact z.2.1
    refine ok_mono (callEntry_ok H it hv hv') ?_
    rintro - t ⟨ce, n2⟩
    exact ⟨fun d => absurd d c, fun _ => .inr ⟨rfl, ce, n2⟩⟩
  simp only [M_St_callsEither, ok_B, ok_C, ok_R, ok_L, ok_K, ok_GI, ok_GL, ok_PI, ok_PL, ok_AI, ok_AL, ok_SI, ok_SL, ok_CI, cmp_lt, cmp_le, cmp_gt, cmp_ge, cmp_eq, nar0, nar1, Sum.elim_inl, Sum.elim_inr, ok_PzT, ok_PzC, ok_PzP, ok_PrC, ok_PrP, ok_PrF, ok_PrN, ok_Ln, ok_CL, ok_Nw, ok_S, ok_Ks, ok_Nz]
  refine ok_mono (findEvent_ok H k v ev (fun z => by rw [z] at hv; exact hv.at5) he) ?_
  rintro p u ⟨es, hp⟩
  subst es
  refine ⟨fun _ => j31 p hp, fun _ => ?_⟩
  refine ok_mono (findEvent_ok H k' v' ev (fun z => by rw [z] at hv'; exact hv'.at5) he) ?_
  rintro p' u' ⟨es, hp'⟩
  subst es
  exact j31 p' hp'
def uV (s : S1) (u : Int32) : Int32 := gA s 147 (gI s 19457 (gI s 16517 0)) u
theorem Ix.uv {s : S1} {n : Nat × Nat} {i w u : Int32} (x : Ix s n i w) (u0 : 0 ≤ u.toInt) (u1 : u.toInt < pNu s (fPr s (tF s))) : cLv false s (uV s u) 8 ∧ pF s (gI s 16517 0) ∧ pT s (gI s 19457 (gI s 16517 0)) ∧ gI s 18943 (gI s 19457 (gI s 16517 0)) = 1 ∧ 0 ≤ u ∧ u < Int32.ofNat (lnS s 147 (gI s 19457 (gI s 16517 0))) := by
  obtain ⟨t1, t2, t3, t4, t5, t6, t7⟩ := x.tp
  obtain ⟨a1, a2, a3, a4⟩ := x.2.2.2.2.2.1
  have e0 : (0 : Int32).toInt = 0 := rfl
  have H := x.w.hi
  have w := (H.2.1 _ t6.1.1 t6.1.2).2.1.2.2.1 t6.2.1
  rw [t7] at w
  have c0 := w.2.2.1
  rw [i32_le, i32_le] at c0
  have u1' : u.toInt < (cUc s (fPr s (tF s))).toInt := u1
  have ul : u < cUc s (fPr s (tF s)) := by
    rw [i32_lt]
    exact u1'
  unfold uV
  rw [a2]
  refine ⟨w.2.2.2 u (by rw [i32_le]; omega) ul, t5, H.1.2 _ t6.1.1 t6.1.2, w.2.1, by rw [i32_le]; omega, ?_⟩
  have el : lnS s 147 (mFn s (tF s)) = (cUl s (mFn s (tF s))).toNatClampNeg := rfl
  have eo : Int32.ofNat (cUl s (mFn s (tF s))).toNatClampNeg = cUl s (mFn s (tF s)) := ofNat_clamp (by rw [i32_le]; omega)
  rw [show lnS s 147 (gI s 19457 (tF s)) = lnS s 147 (mFn s (tF s)) from rfl, el, eo, i32_lt]
  omega
theorem ok_uV {s : S1} {n : Nat × Nat} {i w u : Int32} (x : Ix s n i w) (u0 : 0 ≤ u.toInt) (u1 : u.toInt < pNu s (fPr s (tF s))) (Q : Int32 → S1 → Prop) : ok (M_St_upvalue u) s Q ↔ Q (uV s u) s := by
  obtain ⟨-, b2, b3, b4, b5, b6⟩ := x.uv u0 u1
  simp only [M_St_upvalue, ok_B, ok_C, ok_R, ok_L, ok_K, ok_GI, ok_GL, ok_PI, ok_PL, ok_AI, ok_AL, ok_SI, ok_SL, ok_CI, cmp_lt, cmp_le, cmp_gt, cmp_ge, cmp_eq, nar0, nar1, Sum.elim_inl, Sum.elim_inr, ok_PzT, ok_PzC, ok_PzP, ok_PrC, ok_PrP, ok_PrF, ok_PrN, ok_Ln, ok_CL, ok_Nw, ok_S, ok_Ks, ok_Nz]
  exact ⟨fun z => z.2.2.2.2, fun z => ⟨b2, b3, b4, ⟨b5, b6⟩, z⟩⟩
def vKd (s : S1) (x : Int32) : Int32 := if 0 ≤ cLk s x then gA s 149 (cLk s x) (cPl s x) else cCk s x
def vVl (s : S1) (x : Int32) : Int64 := if 0 ≤ cLk s x then gB s 150 (cLk s x) (cPl s x) else cCv s x
theorem cHI.var_v {s : S1} (H : cHI s) {x : Int32} (hx : cLv false s x 8) : cV (cLv false s) (vKd s x) (vVl s x) ∧ (0 ≤ cLk s x → pC s (cLk s x) ∧ 0 ≤ cPl s x ∧ cPl s x < 4000) := by
  have w := (H.2.1 _ hx.1.1 hx.1.2).2.1.2.2.2.2.1 hx.2.1
  unfold vKd vVl
  rcases w with w | w
  · have n : ¬ 0 ≤ cLk s x := fun z => by
      have := w.1
      rw [i32_lt] at this
      rw [i32_le] at z
      omega
    rw [if_neg n, if_neg n]
    exact ⟨w.2, fun z => absurd z n⟩
  · rw [if_pos w.1.1.1, if_pos w.1.1.1]
    exact ⟨w.2.2, fun _ => ⟨w.1, w.2.1⟩⟩
theorem ok_vK {s : S1} {x : Int32} (H : cHI s) (hx : cLv false s x 8) (Q : Int32 → S1 → Prop) : ok (M_He_variableKind x) s Q ↔ Q (vKd s x) s := by
  have p := H.1.2 _ hx.1.1 hx.1.2
  have w := (H.var_v hx).2
  simp only [M_He_variableKind, ok_B, ok_C, ok_R, ok_L, ok_K, ok_GI, ok_GL, ok_PI, ok_PL, ok_AI, ok_AL, ok_SI, ok_SL, ok_CI, cmp_lt, cmp_le, cmp_gt, cmp_ge, cmp_eq, nar0, nar1, Sum.elim_inl, Sum.elim_inr, ok_PzT, ok_PzC, ok_PzP, ok_PrC, ok_PrP, ok_PrF, ok_PrN, ok_Ln, ok_CL, ok_Nw, ok_S, ok_Ks, ok_Nz]
  unfold vKd
  by_cases c : 0 ≤ cLk s x
  · rw [if_pos c]
    exact ⟨fun z => (z.2.1 c).2.2, fun z => ⟨p, fun _ => ⟨(w c).1, (w c).2, z⟩, fun d => absurd c d⟩⟩
  · rw [if_neg c]
    exact ⟨fun z => z.2.2 c, fun z => ⟨p, fun d => absurd d c, fun _ => z⟩⟩
theorem ok_vV {s : S1} {x : Int32} (H : cHI s) (hx : cLv false s x 8) (Q : Int64 → S1 → Prop) : ok (M_He_variableValue x) s Q ↔ Q (vVl s x) s := by
  have p := H.1.2 _ hx.1.1 hx.1.2
  have w := (H.var_v hx).2
  simp only [M_He_variableValue, ok_B, ok_C, ok_R, ok_L, ok_K, ok_GI, ok_GL, ok_PI, ok_PL, ok_AI, ok_AL, ok_SI, ok_SL, ok_CI, cmp_lt, cmp_le, cmp_gt, cmp_ge, cmp_eq, nar0, nar1, Sum.elim_inl, Sum.elim_inr, ok_PzT, ok_PzC, ok_PzP, ok_PrC, ok_PrP, ok_PrF, ok_PrN, ok_Ln, ok_CL, ok_Nw, ok_S, ok_Ks, ok_Nz]
  unfold vVl
  by_cases c : 0 ≤ cLk s x
  · rw [if_pos c]
    exact ⟨fun z => (z.2.1 c).2.2, fun z => ⟨p, fun _ => ⟨(w c).1, (w c).2, z⟩, fun d => absurd c d⟩⟩
  · rw [if_neg c]
    exact ⟨fun z => z.2.2 c, fun z => ⟨p, fun d => absurd d c, fun _ => z⟩⟩
/-- a closed variable is set -/
theorem cHI.cell {x k : Int32} {v : Int64} {s t : S1} (H : cHI s) (hx : cLv false s x 8) (lx : cLk s x < 0) (hv : cV (cLv false s) k v) (TI : ∀ f j, gI t f j = if f = 18567 ∧ j = x then k else gI s f j) (TL : ∀ f j, gL t f j = if f = 18568 ∧ j = x then v else gL s f j) (T2 : t.2.2 = s.2.2) : cHI t := by
  obtain ⟨h1, h2, h3, h4, h5, h6⟩ := H
  have I : ∀ f j, f ≠ 18567 → gI t f j = gI s f j := fun f j q => by rw [TI, if_neg (fun z => q z.1)]
  have L : ∀ f j, f ≠ 18568 → gL t f j = gL s f j := fun f j q => by rw [TL, if_neg (fun z => q z.1)]
  have A : ∀ a j q, gA t a j q = gA s a j q := fun a j q => by
    show t.2.2.1 a j q = s.2.2.1 a j q
    rw [T2]
  have B : ∀ a j q, gB t a j q = gB s a j q := fun a j q => by
    show t.2.2.2 a j q = s.2.2.2 a j q
    rw [T2]
  have lv : ∀ y u, cLv false t y u ↔ cLv false s y u := fun y u => by
    rw [cLv_f, cLv_f, show cN t = cN s from I _ _ (by decide), show cTy t y = cTy s y from I _ _ (by decide)]
  have lv' : cLv false t = cLv false s := by
    funext y u
    exact propext (lv y u)
  have eop : ∀ c y, cOp t c y ↔ cOp s c y := fun c y => by
    unfold cOp
    rw [lv, show cLk t y = cLk s y from I _ _ (by decide)]
  refine ⟨⟨by rw [show cN t = cN s from I _ _ (by decide)]; exact h1.1, fun y a b => ?_⟩, fun y a b => ?_, ?_, ?_, ⟨fun c p l => ?_, fun y a b => ?_, ?_⟩, ?_⟩
  · rw [show cN t = cN s from I _ _ (by decide)] at b
    have w := h1.2 y a b
    exact ⟨w.1, (I _ _ (by decide)).trans w.2⟩
  · rw [show cN t = cN s from I _ _ (by decide)] at b
    obtain ⟨g1, g2, g3, g4, g5, g6⟩ := h2 y a b
    refine ⟨?_, ?_, ?_, ?_, ?_, ?_⟩
    · rw [show cTy t y = cTy s y from I _ _ (by decide)]
      exact g1
    · rw [lv']
      by_cases q : y = x
      · rw [q]
        refine cPv.of8 ((I _ _ (by decide)).trans hx.2.1) (.inl ⟨?_, ?_⟩)
        · rw [show cLk t x = cLk s x from I _ _ (by decide)]
          exact lx
        · rw [show cCk t x = k from (TI _ _).trans (if_pos ⟨rfl, rfl⟩), show cCv t x = v from (TL _ _).trans (if_pos ⟨rfl, rfl⟩)]
          exact hv
      · have e1 : gI t 18567 y = gI s 18567 y := by rw [TI, if_neg (fun z => q z.2)]
        have e2 : gL t 18568 y = gL s 18568 y := by rw [TL, if_neg (fun z => q z.2)]
        simp only [cPv, cCo, pP, pC, lv, e1, e2, A, B, I 18560 _ (by decide), I 18815 _ (by decide), I 18564 _ (by decide), I 18559 _ (by decide), I 18943 _ (by decide), I 18942 _ (by decide), I 18435 _ (by decide), I 19071 _ (by decide), I 18950 _ (by decide), I 18948 _ (by decide), I 18949 _ (by decide), I 19457 _ (by decide), I 19462 _ (by decide), I 18566 _ (by decide), I 18574 _ (by decide), I 18573 _ (by decide), I 18571 _ (by decide), L 18953 _ (by decide), L 19463 _ (by decide)]
        exact g2
    · unfold cTs at g3 ⊢
      simp only [cTy, cS0, cR, cE, cTop, cHd, cCh, A, I 18560 _ (by decide), I 18571 _ (by decide), I 18572 _ (by decide), I 18573 _ (by decide), I 15367 _ (by decide)] at g3 ⊢
      exact g3
    · rw [show cSy t y = cSy s y from I _ _ (by decide)]
      exact g4
    · rw [show cSy t y = cSy s y from I _ _ (by decide), show cTy t y = cTy s y from I _ _ (by decide)]
      exact g5
    · rw [show cNu t y = cNu s y from I _ _ (by decide), show cTy t y = cTy s y from I _ _ (by decide), show cTl t 4 = cTl s 4 from A _ _ _]
      exact g6
  · exact h3.congr (fun y => lv y 4) (fun y _ => I _ _ (by decide)) (fun y _ => I _ _ (by decide)) (fun y _ => I _ _ (by decide)) (fun b => A _ _ _)
  · unfold cFl at h4 ⊢
    simp only [cFc, cTl, cN, cFr, cTy, A, I 14211 _ (by decide), I 14209 _ (by decide), I 18560 _ (by decide)] at h4 ⊢
    exact h4
  · have p' : pC s c := ⟨p.1, (I 19071 c (by decide)).symm.trans p.2⟩
    have es : oSl t c = oSl s c := I _ _ (by decide)
    rw [es] at l ⊢
    have w := h5.1 c p' l
    refine ⟨(lv _ _).2 w.1, (I _ _ (by decide)).trans w.2.1, w.2.2.1.congr (eop c) (fun y _ => ?_) (fun y _ => I _ _ (by decide)) (I _ _ (by decide)), fun y m => ?_⟩
    · rw [show cPl t y = cPl s y from I _ _ (by decide)]
    · rw [show cPl t y = cPl s y from I _ _ (by decide)]
      exact w.2.2.2 y ((eop c y).1 m)
  · have e : cLk t y = cLk s y := I _ _ (by decide)
    rw [e] at b ⊢
    have w := h5.2.1 y ((lv _ _).1 a) b
    refine ⟨⟨w.1.1, (I 19071 _ (by decide)).trans w.1.2⟩, ?_⟩
    rw [show oSl t (cLk s y) = oSl s (cLk s y) from I _ _ (by decide)]
    exact w.2
  · rw [show cTl t 11 = cTl s 11 from A _ _ _, h5.2.2]
    unfold cCm
    simp only [oSl, I 19071 _ (by decide), I 18950 _ (by decide)]
  · exact h6.congr (I _ _ (by decide)) (fun p => A _ _ _) (fun y => I _ _ (by decide)) (fun y => I _ _ (by decide)) (fun y => lv y 5) (A _ _ _)
/-- the world where only values in registers and cells have changed -/
theorem cW.val {s t : S1} {n : Nat × Nat} {τ : Bool} (W : cW s n) (F : qFr τ s) (H : cHI t) (I : ∀ f j, f ≠ 18567 → gI t f j = gI s f j) (A : ∀ a j k, a ≠ 149 → gA t a j k = gA s a j k) (B : ∀ a j k, a ≠ 150 → gB t a j k = gB s a j k) : cW t n ∧ qFr τ t := by
  have lv : ∀ y u, cLv false t y u ↔ cLv false s y u := fun y u => by
    rw [cLv_f, cLv_f, show cN t = cN s from I _ _ (by decide), show cTy t y = cTy s y from I _ _ (by decide)]
  have kp : cKp s t := by
    refine ⟨⟨fun f j q => I f j (by omega), fun a j k q => A a j k (by omega)⟩, I _ _ (by decide), fun c a => .inl ⟨⟨⟨a.1.1, (I 19071 c (by decide)).symm.trans a.1.2⟩, by rw [← show oSl t c = oSl s c from I _ _ (by decide)]; exact a.2⟩, fun f q => I f c (by omega), fun f j q _ _ => I f _ (by omega), fun j _ _ _ l => ⟨(lv _ _).2 l, I _ _ (by decide)⟩, fun y m => ⟨⟨(lv _ _).1 m.1, (I 18564 y (by decide)).symm.trans m.2⟩, I _ _ (by decide)⟩⟩⟩
  refine ⟨⟨H, W.rt.up (fun y u _ l => (lv y u).2 l) (fun f j q => I f j ?_) (fun a j k q => A a j k ?_) (fun a j k q => B a j k ?_) (fun y _ => I _ _ (by decide)), (I _ _ (by decide)).trans W.ld, W.sf.congr (fun f j q => I f j ?_), cRo.fi (x := 0) W.ro (fun f j q => I f j (by omega)) (fun j _ => A _ _ _ (by decide)), kp.1.pg W.pg, fun x l => ?_⟩, kp.fr F W.dd⟩
  · unfold rtI at q
    omega
  · unfold rtA at q
    omega
  · unfold rtB at q
    omega
  · unfold sfI at q
    omega
  · rw [show cLk t x = cLk s x from I _ _ (by decide)]
    unfold nPr
    rw [I 12937 _ (by decide)]
    exact W.kl x ((lv _ _).1 l)
theorem setVar_ok {s : S1} {n : Nat × Nat} {i w x k : Int32} {v : Int64} (h : Ix s n i w) (hx : cLv false s x 8) (hv : cV (cLv false s) k v) : ok (M_He_setVariable x k v) s (fun _ t => Oi s n i w t) := by
  have H := h.w.hi
  have px := H.1.2 _ hx.1.1 hx.1.2
  have wv := (H.var_v hx).2
  have fin : ∀ T : S1, cHI T → (∀ f j, f ≠ 18567 → gI T f j = gI s f j) → (∀ a j k, a ≠ 149 → gA T a j k = gA s a j k) → (∀ a j k, a ≠ 150 → gB T a j k = gB s a j k) → Oi s n i w T := fun T HT I A B => by
    obtain ⟨WT, FT⟩ := h.w.val h.fr HT I A B
    have et : tF T = tF s := by
      unfold tF
      rw [show mCur T = mCur s from I _ _ (by decide), show oD T (mCur s) = oD s (mCur s) from I _ _ (by decide)]
    refine ⟨h.gen WT FT (fun f j q => I f j (by omega)) (fun j k => A _ _ _ (by decide)), ?_, .inl (I _ _ (by decide))⟩
    rw [et]
    exact ⟨I _ _ (by decide), I _ _ (by decide), I _ _ (by decide)⟩
  simp only [M_He_setVariable, ok_B, ok_C, ok_R, ok_L, ok_K, ok_GI, ok_GL, ok_PI, ok_PL, ok_AI, ok_AL, ok_SI, ok_SL, ok_CI, cmp_lt, cmp_le, cmp_gt, cmp_ge, cmp_eq, nar0, nar1, Sum.elim_inl, Sum.elim_inr, ok_PzT, ok_PzC, ok_PzP, ok_PrC, ok_PrP, ok_PrF, ok_PrN, ok_Ln, ok_CL, ok_Nw, ok_S, ok_Ks, ok_Nz, n8 hv.kr]
  refine ⟨px, fun c => ?_, fun c => ?_⟩
  · obtain ⟨p1, p2⟩ := wv c
    refine ⟨p1, p2, p1, p2, ?_⟩
    have av := H.2.2.2.2.1.2.1 x hx c
    have key : ∀ T : S1, (∀ f j, gI T f j = gI s f j) → (∀ f j, gL T f j = gL s f j) → (∀ a j q, gA T a j q = if a = 149 ∧ j = cLk s x ∧ q = cPl s x then k else gA s a j q) → (∀ a j q, gB T a j q = if a = 150 ∧ j = cLk s x ∧ q = cPl s x then v else gB s a j q) → Oi s n i w T := fun T TI TL TA TB => by
      refine fin T ?_ (fun f j _ => TI f j) (fun a j q z => by rw [TA, if_neg (fun y => z y.1)]) (fun a j q z => by rw [TB, if_neg (fun y => z y.1)])
      have reg : ∀ j, oRk T (cLk s x) j = (if j = cPl s x then k else oRk s (cLk s x) j) ∧ oRv T (cLk s x) j = (if j = cPl s x then v else oRv s (cLk s x) j) := fun j => ⟨(TA _ _ _).trans (by simp), (TB _ _ _).trans (by simp)⟩
      refine H.cow (c := cLk s x) ⟨fun f j _ _ _ => TI f j, fun f j _ _ _ => TL f j, fun a j q _ z => ?_, fun a j q _ z => ?_⟩ (fun p l => ?_) (fun y p l m => ?_)
      · rw [TA, if_neg (fun y => z y.1 y.2.1)]
      · rw [TB, if_neg (fun y => z y.1 y.2.1)]
      · obtain ⟨⟨w1, ⟨w2, w3⟩, w4, w5⟩, -, -⟩ := H.dep ⟨p, l⟩
        unfold cCo oFn oU oD mFn mJk mJv
        simp only [TI, TL]
        refine ⟨w1, ⟨w2, fun j j0 j1 => ?_⟩, w4, fun y l _ => ?_⟩
        · rw [(reg j).1, (reg j).2]
          by_cases q : j = cPl s x
          · rw [if_pos q, if_pos q]
            exact hv
          · rw [if_neg q, if_neg q]
            exact w3 j j0 j1
        · rw [cLv_f] at l ⊢
          rw [show cN T = cN s from TI _ _, show cTy T y = cTy s y from TI _ _] at l
          exact l
      · rw [(reg _).1, (reg _).2]
        by_cases q : cPl s y = cPl s x
        · rw [if_pos q, if_pos q]
          exact hv
        · rw [if_neg q, if_neg q]
          have z := (H.var_v m.1).1
          unfold vKd vVl at z
          rw [m.2, if_pos c, if_pos c] at z
          exact z
    exact key _ (fun _ _ => rfl) (fun _ _ => rfl) (fun a j q => by simp only [gI_sI, gI_sL, gI_sA, gI_sB, gI_sAf, gI_sBf, gL_sI, gL_sL, gL_sA, gL_sB, gL_sAf, gL_sBf, gA_sI, gA_sL, gA_sA, gA_sB, gA_sAf, gA_sBf, gB_sI, gB_sL, gB_sA, gB_sB, gB_sAf, gB_sBf, Nat.reduceEqDiff, Nat.reduceMul, Nat.reduceAdd, false_and, true_and, and_true, and_false, if_true, if_false]) (fun a j q => by simp only [gI_sI, gI_sL, gI_sA, gI_sB, gI_sAf, gI_sBf, gL_sI, gL_sL, gL_sA, gL_sB, gL_sAf, gL_sBf, gA_sI, gA_sL, gA_sA, gA_sB, gA_sAf, gA_sBf, gB_sI, gB_sL, gB_sA, gB_sB, gB_sAf, gB_sBf, Nat.reduceEqDiff, Nat.reduceMul, Nat.reduceAdd, false_and, true_and, and_true, and_false, if_true, if_false])
  · have lx : cLk s x < 0 := by
      rw [i32_lt]
      rw [i32_le] at c
      change ¬ _ ≤ (cLk s x).toInt at c
      omega
    refine fin _ (H.cell hx lx hv (fun f j => ?_) (fun f j => ?_) rfl) (fun f j q => ?_) (fun _ _ _ _ => rfl) (fun _ _ _ _ => rfl)
    · simp only [gI_sL, gI_sI]
    · simp only [gL_sL, gL_sI]
    · simp only [gI_sL, gI_sI]
      rw [if_neg (fun z => q z.1)]
