/-! The class: variables are closed. -/
theorem cHI.cl {s t : S1} {c r : Int32} (H : cHI s) (av : cAv s c) (h : cCl (fun y => cLv false s y 8) c r s t) : cHI t := by
  obtain ⟨h1, h2, h3, h4, h5, h6⟩ := H
  obtain ⟨I, L, A, B, no, vr, ls⟩ := h
  have em : (-1 : Int32) < 0 := by decide
  have lv : ∀ y u, cLv false t y u ↔ cLv false s y u := fun y u => by
    rw [cLv_f, cLv_f, show cN t = cN s from I _ _ (by decide), show cTy t y = cTy s y from I _ _ (by decide)]
  have lv' : cLv false t = cLv false s := by
    funext y u
    exact propext (lv y u)
  have same : ∀ y, cTy s y ≠ 8 → cLk t y = cLk s y := fun y q => by
    rcases vr y with w | w
    · exact w.1
    · exact absurd w.1.2.1 q
  have ety : ∀ y, cTy t y = cTy s y := fun y => I _ _ (by decide)
  have epl : ∀ y, cPl t y = cPl s y := fun y => I _ _ (by decide)
  have epc : ∀ d, pC t d ↔ pC s d := fun d => by
    unfold pC
    rw [I 19071 d (by decide)]
  have esl : ∀ d, oSl t d = oSl s d := fun d => I _ _ (by decide)
  have sub : ∀ d y, 0 ≤ d → cOp t d y → cOp s d y := fun d y d0 m => by
    have l := (lv y 8).1 m.1
    rcases vr y with w | w
    · exact ⟨l, w.1.symm.trans m.2⟩
    · have := m.2
      rw [w.2.2.2.1] at this
      rw [← this] at d0
      exact absurd d0 (by decide)
  have oth : ∀ d y, 0 ≤ d → d ≠ c → (cOp t d y ↔ cOp s d y) := fun d y d0 q => by
    refine ⟨sub d y d0, fun m => ⟨(lv y 8).2 m.1, ?_⟩⟩
    rcases vr y with w | w
    · exact w.1.trans m.2
    · exact absurd (m.2.symm.trans w.2.1) q
  refine ⟨⟨by rw [show cN t = cN s from I _ _ (by decide)]; exact h1.1, fun y a b => ?_⟩, fun y a b => ?_, ?_, ?_, ⟨fun d p l => ?_, fun y a b => ?_, ?_⟩, ?_⟩
  · rw [show cN t = cN s from I _ _ (by decide)] at b
    have w := h1.2 y a b
    exact ⟨w.1, (I _ _ (by decide)).trans w.2⟩
  · rw [show cN t = cN s from I _ _ (by decide)] at b
    obtain ⟨g1, g2, g3, g4, g5, g6⟩ := h2 y a b
    refine ⟨by rw [ety]; exact g1, ?_, ?_, ?_, ?_, ?_⟩
    · rw [lv']
      by_cases q : cTy s y = 8
      · have l8 : cLv false s y 8 := ⟨⟨a, b⟩, q, fun z => absurd z (by decide)⟩
        have w := g2.2.2.2.2.1 q
        refine cPv.of8 ((ety y).trans q) ?_
        rcases vr y with v | v
        · rw [v.1, v.2.1, v.2.2.1, epl]
          rcases w with w | w
          · exact .inl w
          · right
            refine ⟨(epc _).2 w.1, w.2.1, ?_⟩
            rw [show oRk t (cLk s y) (cPl s y) = oRk s (cLk s y) (cPl s y) from A _ _ _, show oRv t (cLk s y) (cPl s y) = oRv s (cLk s y) (cPl s y) from B _ _ _]
            exact w.2.2
        · left
          rw [v.2.2.2.1, v.2.2.2.2.1, v.2.2.2.2.2]
          refine ⟨em, ?_⟩
          rcases w with w | w
          · rw [v.2.1] at w
            exact absurd w.1 (by
              have := av.1.1.1
              rw [i32_lt]
              rw [i32_le] at this
              omega)
          · rw [v.2.1] at w
            exact w.2.2
      · have e1 : gI t 18564 y = gI s 18564 y := same y q
        simp only [cPv, cCo, pP, pC, lv, e1, A, B, I 18560 _ (by decide), I 18815 _ (by decide), I 18559 _ (by decide), I 18943 _ (by decide), I 18942 _ (by decide), I 18435 _ (by decide), I 19071 _ (by decide), I 18950 _ (by decide), I 18948 _ (by decide), I 18949 _ (by decide), I 19457 _ (by decide), I 19462 _ (by decide), I 18566 _ (by decide), I 18574 _ (by decide), I 18573 _ (by decide), I 18571 _ (by decide), L 18953 _ (by decide), L 19463 _ (by decide)]
        refine ⟨g2.1, g2.2.1, g2.2.2.1, fun z => ?_, fun z => absurd z q, g2.2.2.2.2.2⟩
        have w := g2.2.2.2.1 z
        exact ⟨w.1, w.2.1, w.2.2.1, w.2.2.2.1, w.2.2.2.2.1, fun y' l _ => l⟩
    · unfold cTs at g3 ⊢
      simp only [cTy, cS0, cR, cE, cTop, cHd, cCh, A, I 18560 _ (by decide), I 18571 _ (by decide), I 18572 _ (by decide), I 18573 _ (by decide), I 15367 _ (by decide)] at g3 ⊢
      exact g3
    · rw [show cSy t y = cSy s y from I _ _ (by decide)]
      exact g4
    · rw [show cSy t y = cSy s y from I _ _ (by decide), ety]
      exact g5
    · rw [show cNu t y = cNu s y from I _ _ (by decide), ety, show cTl t 4 = cTl s 4 from A _ _ _]
      exact g6
  · exact h3.congr (fun y => lv y 4) (fun y _ => epl y) (fun y _ => I _ _ (by decide)) (fun y _ => I _ _ (by decide)) (fun b => A _ _ _)
  · unfold cFl at h4 ⊢
    simp only [cFc, cTl, cN, cFr, cTy, A, I 14211 _ (by decide), I 14209 _ (by decide), I 18560 _ (by decide)] at h4 ⊢
    exact h4
  · rw [esl] at l ⊢
    have p' := (epc d).1 p
    have w := h5.1 d p' l
    refine ⟨(lv _ _).2 w.1, (same _ (by rw [w.1.2.1]; decide)).trans w.2.1, ?_, fun y m => ?_⟩
    · by_cases q : d = c
      · rw [q]
        refine ls.congr (fun y => ?_) (fun y _ => by rw [epl]) (fun y _ => I _ _ (by decide)) rfl
        unfold cOp
        rw [lv]
      · exact w.2.2.1.congr (fun y => oth d y p'.1.1 q) (fun y _ => by rw [epl]) (fun y _ => I _ _ (by decide)) (no d q)
    · rw [epl]
      exact w.2.2.2 y (sub d y p'.1.1 m)
  · have l := (lv _ _).1 a
    have e : cLk t y = cLk s y := by
      rcases vr y with w | w
      · exact w.1
      · rw [w.2.2.2.1] at b
        exact absurd b (by decide)
    rw [e] at b ⊢
    have w := h5.2.1 y l b
    exact ⟨(epc _).2 w.1, by rw [esl]; exact w.2⟩
  · rw [show cTl t 11 = cTl s 11 from A _ _ _, h5.2.2]
    unfold cCm
    simp only [esl, I 19071 _ (by decide)]
  · exact h6.congr (I _ _ (by decide)) (fun p => A _ _ _) (fun y => I _ _ (by decide)) (fun y => I _ _ (by decide)) (fun y => lv y 5) (A _ _ _)
def clQ (s : S1) (τ : Bool) (n : Nat × Nat) (c r : Int32) (t : S1) : Prop := mkW s τ n t ∧ (∀ f j, f ≠ 18564 ∧ f ≠ 18567 ∧ f ≠ 18954 → gI t f j = gI s f j) ∧ (∀ f j, f ≠ 18568 → gL t f j = gL s f j) ∧ (∀ a j k, gA t a j k = gA s a j k) ∧ (∀ a j k, gB t a j k = gB s a j k) ∧ ∀ y, cOp t c y → (cPl t y).toInt < r.toInt
theorem close_ok {s : S1} {n : Nat × Nat} {τ : Bool} {c : Int32} (r : Int32) (W : cW s n) (F : qFr τ s) (av : cAv s c) : ok (M_He_closeFrom c r) s (fun _ t => clQ s τ n c r t) := by
  have H := W.hi
  have e0 : (0 : Int32).toInt = 0 := rfl
  have e4 : (4000 : Int32).toInt = 4000 := rfl
  have cn := (H.2.2.2.2.1.1 c av.1 av.2).2.2
  refine ok_mono (closeFrom_ok (fun y => cLv false s y 8) (r := r) av.1.1.1 (fun y l => H.1.2 y l.1.1 l.1.2) cn.1 (fun y l k => ?_)) ?_
  · have := cn.2 y ⟨l, k⟩
    rw [i32_le, i32_lt] at this
    omega
  · rintro - t hc
    have Ht := H.cl av hc
    obtain ⟨I, L, A, B, no, vr, ls⟩ := hc
    have lv : ∀ y u, cLv false t y u ↔ cLv false s y u := fun y u => by
      rw [cLv_f, cLv_f, show cN t = cN s from I _ _ (by decide), show cTy t y = cTy s y from I _ _ (by decide)]
    have same : ∀ y, cTy s y ≠ 8 → cLk t y = cLk s y := fun y q => by
      rcases vr y with w | w
      · exact w.1
      · exact absurd w.1.2.1 q
    have sub : ∀ d y, 0 ≤ d → cOp t d y → cOp s d y := fun d y d0 m => by
      have l := (lv y 8).1 m.1
      rcases vr y with w | w
      · exact ⟨l, w.1.symm.trans m.2⟩
      · have := m.2
        rw [w.2.2.2.1] at this
        rw [← this] at d0
        exact absurd d0 (by decide)
    have kp : cKp s t := by
      refine ⟨⟨fun f j q => I f j (by omega), fun a j k _ => A a j k⟩, I _ _ (by decide), fun d a => .inl ⟨⟨⟨a.1.1, (I 19071 d (by decide)).symm.trans a.1.2⟩, by rw [← show oSl t d = oSl s d from I _ _ (by decide)]; exact a.2⟩, fun f q => I f d (by omega), fun f j q _ _ => I f _ (by omega), fun j _ _ _ l => ⟨(lv _ _).2 l, same _ (by rw [l.2.1]; decide)⟩, fun y m => ⟨sub d y a.1.1.1 m, I _ _ (by decide)⟩⟩⟩
    have km : cKm s t := ⟨fun f j q => I f j (by omega), fun f j q => L f j (by omega), fun a j k _ => A a j k, fun a j k _ => B a j k⟩
    refine ⟨⟨⟨Ht, W.rt.up (fun y u _ l => (lv y u).2 l) (fun f j q => I f j ?_) (fun a j k _ => A a j k) (fun a j k _ => B a j k) (fun y _ => I _ _ (by decide)), (I _ _ (by decide)).trans W.ld, W.sf.congr (fun f j q => I f j ?_), cRo.fi (x := 0) W.ro (fun f j q => I f j (by omega)) (fun j _ => A _ _ _), kp.1.pg W.pg, fun x l => ?_⟩, kp.fr F W.dd, km⟩, I, L, A, B, fun y m => ?_⟩
    · unfold rtI at q
      omega
    · unfold sfI at q
      omega
    · have l6 := (lv _ _).1 l
      rw [same x (by rw [l6.2.1]; decide)]
      unfold nPr
      rw [I 12937 _ (by decide)]
      exact W.kl x l6
    · rw [show cPl t y = cPl s y from I _ _ (by decide)]
      have ms := sub c y av.1.1.1 m
      rcases vr y with w | w
      · have z := w.2.2.2
        refine Decidable.byContradiction fun g => z ⟨ms.1, ms.2, ?_⟩
        omega
      · have := m.2
        rw [w.2.2.2.1] at this
        have c0 := av.1.1.1
        rw [← this] at c0
        exact absurd c0 (by decide)
theorem mkW.oi {s t : S1} {n m : Nat × Nat} {i w : Int32} (k : mkW s false m t) (x : Ix s n i w) : Oi s m i w t := by
  have km := k.2.2
  obtain ⟨j, j0, j1, j2, j3, e⟩ := tF_of x.w x.2.2.2.1
  have ofc : ofC s (tF s) := ⟨j, j0, j2, e⟩
  have et : tF t = tF s := by
    unfold tF
    rw [km.cur, show oD t (mCur s) = oD s (mCur s) from km.1 _ _ (.inr (.inr (.inl ⟨by decide, by decide, rfl⟩)))]
  refine ⟨x.mk k, ?_, .inl (km.1 _ _ (.inl (by decide)))⟩
  rw [et]
  exact ⟨km.1 _ _ (.inr (.inl ⟨by decide, ofc⟩)), km.1 _ _ (.inr (.inl ⟨by decide, ofc⟩)), km.1 _ _ (.inl (by decide))⟩
theorem mkW.tu {s t : S1} {τ : Bool} {m : Nat × Nat} (k : mkW s τ m t) : gI t 16396 0 = gI s 16396 0 := k.2.2.1 _ _ (.inl (by decide))
theorem jump_ok {s : S1} {n : Nat × Nat} {i w : Int32} (x : Ix s n i w) (hp : gI s 19461 (tF s) = i + 1) (g : dGs s (fPr s (tF s)) (i + 1 + (dX w - 131071))) : ok M_St_jump s (fun _ t => Os s n i w t) := by
  obtain ⟨a1, a2, a3, a4⟩ := x.2.2.2.2.2.1
  simp only [M_St_jump, ok_B, ok_C, ok_R, ok_L, ok_K, ok_GI, ok_GL, ok_PI, ok_PL, ok_AI, ok_AL, ok_SI, ok_SL, ok_CI, cmp_lt, cmp_le, cmp_gt, cmp_ge, cmp_eq, nar0, nar1, Sum.elim_inl, Sum.elim_inr, ok_PzT, ok_PzC, ok_PzP, ok_PrC, ok_PrP, ok_PrF, ok_PrN, ok_Ln, ok_CL, ok_Nw, ok_S, ok_Ks, ok_Nz]
  rw [a2, hp, x.o.2.2.2.2]
  exact ⟨x.tp.2.2.2.2.1, skip_os x g⟩
theorem branch_ok {s : S1} {n : Nat × Nat} {i w : Int32} (x : Ix s n i w) (hp : gI s 19461 (tF s) = i + 1) (ho : 30 ≤ (dO w).toInt ∧ (dO w).toInt ≤ 35) : ok M_St_branch s (fun _ t => Os s n i w t) := by
  have dAi := dA_in w
  obtain ⟨o1, o2, o3, o4, o5⟩ := x.o
  obtain ⟨a1, a2, a3, a4⟩ := x.2.2.2.2.2.1
  have wn := x.wn
  have wf := x.wf.2.2.2.1
  rw [x.2.2.2.2.2.2.2.2] at wf
  have e30 : (30 : Int32).toInt = 30 := rfl
  have e31 : (31 : Int32).toInt = 31 := rfl
  have e34 : (34 : Int32).toInt = 34 := rfl
  have e35 : (35 : Int32).toInt = 35 := rfl
  have pf := x.tp.2.2.2.2.1
  simp only [M_St_branch, ok_B, ok_C, ok_R, ok_L, ok_K, ok_GI, ok_GL, ok_PI, ok_PL, ok_AI, ok_AL, ok_SI, ok_SL, ok_CI, cmp_lt, cmp_le, cmp_gt, cmp_ge, cmp_eq, nar0, nar1, Sum.elim_inl, Sum.elim_inr, ok_PzT, ok_PzC, ok_PzP, ok_PrC, ok_PrP, ok_PrF, ok_PrN, ok_Ln, ok_CL, ok_Nw, ok_S, ok_Ks, ok_Nz]
  rw [o1]
  refine ⟨fun o => ?_, fun n0 => ⟨fun o => ?_, fun n1 => ⟨fun o => ?_, fun n4 => ⟨fun o => ?_, fun n5 => ?_⟩⟩⟩⟩
  · have g := wn.2.2.2.2.2.2.2.2.2.2.2.2.2.1 ((opI o).trans e30)
    have j73 : ∀ t, Oi s n i w t → gI t 16396 0 = gI s 16396 0 → gI t 19461 (tF t) = i + 1 → ok M_St_branch_j73 t (fun _ t => Os s n i w t) := fun t ot tt pt => by
      simp only [M_St_branch_j73, ok_B, ok_C, ok_R, ok_L, ok_K, ok_GI, ok_GL, ok_PI, ok_PL, ok_AI, ok_AL, ok_SI, ok_SL, ok_CI, cmp_lt, cmp_le, cmp_gt, cmp_ge, cmp_eq, nar0, nar1, Sum.elim_inl, Sum.elim_inr, ok_PzT, ok_PzC, ok_PzP, ok_PrC, ok_PrP, ok_PrF, ok_PrN, ok_Ln, ok_CL, ok_Nw, ok_S, ok_Ks, ok_Nz]
      have gt := ot.1.wn.2.2.2.2.2.2.2.2.2.2.2.2.2.1 ((opI o).trans e30)
      refine ok_mono (jump_ok ot.1 pt gt) ?_
      rintro - u ou
      exact Os.trans ot tt ou
    refine ⟨fun _ => j73 s (Oi.refl x) rfl hp, fun _ => ⟨by rw [a1]; exact x.w.cur.1, ?_⟩⟩
    rw [a1]
    refine ok_mono (close_ok _ x.w x.fr x.w.cur) ?_
    rintro - t cl
    have ot := cl.1.oi x
    exact j73 t ot cl.1.tu (ot.2.1.1.trans hp)
  · have h := wn.2.2.2.2.2.2.2.2.2.2.2.2.2.2.1 (.inl ((opI o).trans e31))
    have g := wf (by rw [opI o]; decide)
    exact equal_ok x (dCl_of o (by unfold dCl; decide)) hp g h.1 h.2
  · have h := wn.2.2.2.2.2.2.2.2.2.2.2.2.2.2.2.1 ((opI o).trans e34)
    have g := wf (by rw [opI o]; decide)
    rw [a2, hp, ok_iT x (x.xA h)]
    simp only [M_St_branch_j115, M_St_branch_j123, ok_B, ok_C, ok_R, ok_L, ok_K, ok_GI, ok_GL, ok_PI, ok_PL, ok_AI, ok_AL, ok_SI, ok_SL, ok_CI, cmp_lt, cmp_le, cmp_gt, cmp_ge, cmp_eq, nar0, nar1, Sum.elim_inl, Sum.elim_inr, ok_PzT, ok_PzC, ok_PzP, ok_PrC, ok_PrP, ok_PrF, ok_PrN, ok_Ln, ok_CL, ok_Nw, ok_S, ok_Ks, ok_Nz]
    exact ⟨pf, fun _ => ⟨fun _ => pc_os x hp (.inr rfl) g, fun _ => pc_os x hp (.inl rfl) g⟩, fun _ => ⟨fun _ => pc_os x hp (.inr rfl) g, fun _ => pc_os x hp (.inl rfl) g⟩⟩
  · have h := wn.2.2.2.2.2.2.2.2.2.2.2.2.2.2.2.2.1 ((opI o).trans e35)
    have g := wf (by rw [opI o]; decide)
    rw [ok_iT x (x.xB h.2)]
    have j151 : ∀ k l, ok (M_St_branch_j151 k l) s (fun _ t => Os s n i w t) := fun k l => by
      simp only [M_St_branch_j151, ok_B, ok_C, ok_R, ok_L, ok_K, ok_GI, ok_GL, ok_PI, ok_PL, ok_AI, ok_AL, ok_SI, ok_SL, ok_CI, cmp_lt, cmp_le, cmp_gt, cmp_ge, cmp_eq, nar0, nar1, Sum.elim_inl, Sum.elim_inr, ok_PzT, ok_PzC, ok_PzP, ok_PrC, ok_PrP, ok_PrF, ok_PrN, ok_Ln, ok_CL, ok_Nw, ok_S, ok_Ks, ok_Nz]
      refine ⟨fun _ => ?_, fun _ => ?_⟩
      · rw [ok_kO x (x.xB h.2), ok_vO x (x.xB h.2), o2]
        refine ok_mono (set_ok x dAi.1 h.1 (x.kv0 (x.xB h.2))) ?_
        rintro - t st
        exact .inl st.oi
      · rw [a2, hp]
        exact ⟨pf, pc_os x hp (.inr rfl) g⟩
    exact ⟨fun _ => j151 _ _, fun _ => j151 _ _⟩
  · have h32 : (dO w).toInt = 32 ∨ (dO w).toInt = 33 := by
      have m0 : (dO w).toInt ≠ 30 := fun z => n0 (toInt_inj z)
      have m1 : (dO w).toInt ≠ 31 := fun z => n1 (toInt_inj z)
      have m4 : (dO w).toInt ≠ 34 := fun z => n4 (toInt_inj z)
      have m5 : (dO w).toInt ≠ 35 := fun z => n5 (toInt_inj z)
      omega
    have h := wn.2.2.2.2.2.2.2.2.2.2.2.2.2.2.1 (.inr h32)
    have g := wf (by omega)
    exact order_ok x hp g h.1 h.2 h32
