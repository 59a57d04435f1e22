/-! The class: a function's upvalues; makeClosure. -/
def scI (x : Int32) (s0 s1 : S1) (p : Int32) (k : Int) (v : S1) : Prop := cFi x s1 v ∧ cLk v x = p ∧ cUf v x = 1 ∧ pNu s0 p ≤ (cUl v x).toInt ∧ ∀ j : Int32, 0 ≤ j.toInt → j.toInt < k → cLv false s0 (cUp v x j) 8
def scP (x : Int32) (s0 s1 : S1) (p : Int32) (m : Nat × Nat) (e : Int32 × (Nat × Nat)) (v : S1) : Prop := e = (x, m) ∧ scI x s0 s1 p (pNu s0 p) v ∧ cRo v m (0, 0)
theorem secondVars_ok {s0 s1 v0 : S1} {n m : Nat × Nat} {i w p x : Int32} (y : Ix s0 n i w) (md : cMd x 6 (gI s0 18435 p) 0 s0 s1) (pu : 0 ≤ pNu s0 p ∧ pNu s0 p ≤ 60) (ps : 0 ≤ pUs s0 p ∧ pUs s0 p + pNu s0 p ≤ 15000)
    (hu : ∀ j : Int32, 0 ≤ j.toInt → j.toInt < pNu s0 p → ((upF s0 p j).toInt < 0 → -1 - (upF s0 p j).toInt < pNu s0 (fPr s0 (tF s0)))) (hv : ∀ j : Int32, 0 ≤ j.toInt → j.toInt < pNu s0 p → 0 ≤ upF s0 p j → hasV s0 (mCur s0) (gI s0 16519 0 + upF s0 p j)) (h0 : scI x s0 s1 p 0 v0) (R0 : cRo v0 m (0, 0)) :
    ok (oW M_St_makeClosure_L152 (p, x, x, 0, m)) v0 (scP x s0 s1 p m) := by
  have e0 : (0 : Int32).toInt = 0 := rfl
  have e1 : (1 : Int32).toInt = 1 := rfl
  have em : (-1 : Int32).toInt = -1 := rfl
  have e15 : (15000 : Int32).toInt = 15000 := rfl
  have H := y.w.hi
  obtain ⟨a1, a2, a3, a4⟩ := y.2.2.2.2.2.1
  refine ok_W (fun q v => (q.1 = p ∧ q.2.1 = x ∧ q.2.2.1 = x ∧ q.2.2.2.2 = m) ∧ (0 ≤ q.2.2.2.1.toInt ∧ q.2.2.2.1.toInt ≤ pNu s0 p) ∧ scI x s0 s1 p q.2.2.2.1.toInt v ∧ cRo v m (0, 0)) (fun q _ => (pNu s0 p - q.2.2.2.1.toInt).toNat) ?_ (p, x, x, 0, m) v0 ⟨⟨rfl, rfl, rfl, rfl⟩, ⟨Int.le_refl _, pu.1⟩, h0, R0⟩
  rintro ⟨p', x1, x2, k, m'⟩ v ⟨⟨q1, q2, q3, q4⟩, ⟨k0, k1⟩, hs, R⟩
  dsimp only at q1 q2 q3 q4 k0 k1 hs
  subst q1 q2 q4
  subst q3
  obtain ⟨fi, c2, c3, c4, c5⟩ := hs
  have nt := md.nt H fi (by decide)
  have km := nt.km
  have ek : (k + 1).toInt = k.toInt + 1 := by rw [ktI_add] <;> omega
  have g : ∀ f j, 128 ≤ f / 128 ∧ f / 128 ≤ 144 → gI v f j = gI s0 f j := fun f j q => km.1 _ _ (.inl q)
  have fin : ∀ r : Int32, k.toInt < pNu s0 p' → cLv false s0 r 8 → ok (M_St_makeClosure_j216 p' x2 x2 k m' r k x2) v (fun q v' => Sum.elim (fun z => ((z.1 = p' ∧ z.2.1 = x2 ∧ z.2.2.1 = x2 ∧ z.2.2.2.2 = m') ∧ (0 ≤ z.2.2.2.1.toInt ∧ z.2.2.2.1.toInt ≤ pNu s0 p') ∧ scI x2 s0 s1 p' z.2.2.2.1.toInt v' ∧ cRo v' m' (0, 0)) ∧ (pNu s0 p' - z.2.2.2.1.toInt).toNat < (pNu s0 p' - k.toInt).toNat) (fun e => scP x2 s0 s1 p' m' e v') q) := fun r kl lr => by
    simp only [M_St_makeClosure_j216, ok_B, ok_C, ok_R, ok_L, ok_K, ok_GI, ok_GL, ok_PI, ok_PL, ok_AI, ok_AL, ok_SI, ok_SL, ok_CI, cmp_lt, cmp_le, cmp_gt, cmp_ge, cmp_eq, nar0, nar1, Sum.elim_inl, Sum.elim_inr, ok_PzT, ok_PzC, ok_PzP, ok_PrC, ok_PrP, ok_PrF, ok_PrN, ok_Ln, ok_CL, ok_Nw, ok_S, ok_Ks, ok_Nz]
    have el : Int32.ofNat (lnS v 147 x2) = cUl v x2 := by
      have : lnS v 147 x2 = (cUl v x2).toNatClampNeg := rfl
      rw [this]
      exact ofNat_clamp (by rw [i32_le]; omega)
    refine ⟨⟨by rw [i32_le]; omega, by rw [el, i32_lt]; omega⟩, ⟨⟨by trivial, by trivial, by trivial, by trivial⟩, ⟨by omega, by omega⟩, ⟨⟨fi.1, fi.2.1, fun a j q b d => ?_, fi.2.2.2.1, fi.2.2.2.2⟩, c2, c3, c4, fun j a b => ?_⟩, ?_⟩, by omega⟩
    · rw [gA_sA, if_neg (fun z => d (.inr z.1) z.2.1)]
      exact fi.2.2.1 a j q b d
    · show cLv false s0 (gA (sA v 147 x2 k r) 147 x2 j) 8
      rw [gA_sA]
      by_cases z : j = k
      · rw [if_pos ⟨rfl, rfl, z⟩]
        exact lr
      · rw [if_neg (fun y => z y.2.2)]
        have : j.toInt ≠ k.toInt := fun y => z (toInt_inj y)
        exact c5 j a (by omega)
    · exact cRo.fi (x := 0) R (fun _ _ _ => rfl) (fun j _ => by
        show gA (sA v 147 x2 k r) 114 0 j = _
        rw [gA_sA, if_neg (fun z => absurd z.1 (by decide))])
  simp only [M_St_makeClosure_L152, ok_B, ok_C, ok_R, ok_L, ok_K, ok_GI, ok_GL, ok_PI, ok_PL, ok_AI, ok_AL, ok_SI, ok_SL, ok_CI, cmp_lt, cmp_le, cmp_gt, cmp_ge, cmp_eq, nar0, nar1, Sum.elim_inl, Sum.elim_inr, ok_PzT, ok_PzC, ok_PzP, ok_PrC, ok_PrP, ok_PrF, ok_PrN, ok_Ln, ok_CL, ok_Nw, ok_S, ok_Ks, ok_Nz]
  rw [g 18435 _ (by decide)]
  refine ⟨fun c => ⟨by trivial, ⟨fi, c2, c3, c4, fun j a b => c5 j a ?_⟩, R⟩, fun c => ?_⟩
  · rw [i32_le] at c
    change pNu s0 p' ≤ _ at c
    omega
  · rw [i32_le] at c
    change ¬ pNu s0 p' ≤ _ at c
    have eix : (gI v 18436 p' + k).toInt = pUs s0 p' + k.toInt := by
      rw [g 18436 _ (by decide)]
      exact ktI_add (by show -2147483648 ≤ pUs s0 p' + k.toInt ∧ pUs s0 p' + k.toInt < 2147483648; omega)
    have eu : gA v 107 0 (gI v 18436 p' + k) = upF s0 p' k := upF_km km p' k
    refine ⟨⟨by rw [i32_le]; omega, by rw [i32_lt]; omega⟩, ?_⟩
    rw [eu]
    refine ⟨fun f0 => ?_, fun f0 => ?_⟩
    · rw [g 16516 _ (by decide), g 16519 _ (by decide), a1]
      have ac := y.w.cur
      have cn := (H.2.2.2.2.1.1 _ ac.1 ac.2).2.2
      have nx : ∀ z, cLv false v z 8 → z ≠ x2 := fun z l e => by
        rw [e] at l
        have := l.2.1
        rw [nt.1.2.1] at this
        exact absurd this (by decide)
      have eop : ∀ z, cOp v (mCur s0) z ↔ cOp s0 (mCur s0) z := fun z => by
        constructor
        · intro o
          have q := nx z o.1
          exact ⟨nt.2.2.2.2.2.2 z 8 (by decide) q o.1, (nt.2.2.1 18564 z (by decide) (fun _ => q)).symm.trans o.2⟩
        · intro o
          have q := nt.2.1 z 8 (by decide) o.1
          exact ⟨q.1, (nt.2.2.1 18564 z (by decide) (fun _ => q.2)).trans o.2⟩
      have cnv : cCn v (mCur s0) := by
        refine ⟨cn.1.congr eop (fun z o => ?_) (fun z o => ?_) (nt.2.2.1 _ _ (by decide) (fun q => absurd q (by decide))), fun z o => ?_⟩
        · rw [show cPl v z = cPl s0 z from nt.2.2.1 _ _ (by decide) (fun _ => (nt.2.1 z 8 (by decide) o.1).2)]
        · exact nt.2.2.1 _ _ (by decide) (fun _ => (nt.2.1 z 8 (by decide) o.1).2)
        · have os := (eop z).1 o
          rw [show cPl v z = cPl s0 z from nt.2.2.1 _ _ (by decide) (fun _ => nx z o.1)]
          exact cn.2 z os
      have pts : ∀ z, cOp v (mCur s0) z → pT v z := fun z o => by
        have os := (eop z).1 o
        have p := H.1.2 z os.1.1.1 os.1.1.2
        exact ⟨p.1, (nt.2.2.1 18687 z (by decide) (fun _ => nx z o.1)).trans p.2⟩
      have hvv : hasV v (mCur s0) (gI s0 16519 0 + upF s0 p' k) := by
        obtain ⟨z, oz, pz⟩ := hv k k0 (by omega) f0
        exact ⟨z, (eop z).2 oz, (nt.2.2.1 18566 z (by decide) (fun _ => (nt.2.1 z 8 (by decide) oz.1).2)).trans pz⟩
      refine ⟨⟨ac.1.1, (nt.2.2.1 19071 _ (by decide) (fun q => absurd q (by decide))).trans ac.1.2⟩, ?_⟩
      refine ok_mono (ovFound_ok m' cnv pts hvv) ?_
      rintro q u ⟨es, eq, oq⟩
      subst es
      rw [eq]
      exact fin q.1 (by omega) ((eop _).1 oq).1
    · rw [i32_le] at f0
      have lt := hu k k0 (by omega) (by omega)
      generalize hb : (-1 : Int32) - upF s0 p' k = ub
      have eb : ub.toInt = -1 - (upF s0 p' k).toInt := by
        have := Int32.le_toInt (upF s0 p' k)
        rw [← hb, ktI_sub] <;> omega
      clear hb
      obtain ⟨l8, b2, b3, b4, b5, b6⟩ := y.uv (u := ub) (by omega) (by omega)
      obtain ⟨-, -, -, -, -, l6, -⟩ := y.tp
      have fx : gI s0 19457 (tF s0) ≠ x2 := (nt.2.1 _ 6 (by decide) l6).2
      have eF : gI v 16517 0 = gI s0 16517 0 := g _ _ (by decide)
      have en : gI v 19457 (gI s0 16517 0) = gI s0 19457 (gI s0 16517 0) := nt.2.2.1 _ _ (by decide) (fun q => absurd q (by decide))
      have fx' : gI s0 19457 (gI s0 16517 0) ≠ x2 := by
        rw [a2]
        exact fx
      simp only [M_St_upvalue, ok_B, ok_C, ok_R, ok_L, ok_K, ok_GI, ok_GL, ok_PI, ok_PL, ok_AI, ok_AL, ok_SI, ok_SL, ok_CI, cmp_lt, cmp_le, cmp_gt, cmp_ge, cmp_eq, nar0, nar1, Sum.elim_inl, Sum.elim_inr, ok_PzT, ok_PzC, ok_PzP, ok_PrC, ok_PrP, ok_PrF, ok_PrN, ok_Ln, ok_CL, ok_Nw, ok_S, ok_Ks, ok_Nz]
      rw [eF, en]
      refine ⟨⟨b2.1, (nt.2.2.1 19583 _ (by decide) (fun q => absurd q (by decide))).trans b2.2⟩, ⟨b3.1, (nt.2.2.1 18687 _ (by decide) (fun _ => fx')).trans b3.2⟩, (nt.2.2.1 18943 _ (by decide) (fun _ => fx')).trans b4, ⟨b5, ?_⟩, ?_⟩
      · have : lnS v 147 (gI s0 19457 (gI s0 16517 0)) = lnS s0 147 (gI s0 19457 (gI s0 16517 0)) := by
          show (gI v 18942 _).toNatClampNeg = (gI s0 18942 _).toNatClampNeg
          rw [nt.2.2.1 18942 _ (by decide) (fun _ => fx')]
        rw [this]
        exact b6
      · have er : gA v 147 (gI s0 19457 (gI s0 16517 0)) ub = uV s0 ub := nt.2.2.2.2.1 _ _ _ (by decide) (fun _ => fx')
        rw [er]
        exact fin _ (by omega) l8
theorem stClosure_ok {s : S1} {n : Nat × Nat} {i w : Int32} (x : Ix s n i w) (o : (dO w).toInt = 44) : ok (M_St_makeClosure n) s (fun r t => Oi s r.2 i w t) := by
  obtain ⟨t1, t2, t3, t4, -⟩ := x.tp
  obtain ⟨a1, a2, a3, a4⟩ := x.2.2.2.2.2.1
  obtain ⟨o1, o2, o3, o4, o5⟩ := x.o
  have e0 : (0 : Int32).toInt = 0 := rfl
  have e25 : (250 : Int32).toInt = 250 := rfl
  have dXi := dX_in w
  have h := x.wn.2.2.2.2.2.2.2.2.2.2.2.2.2.2.2.2.2.2.2.2.2.2.2.2.2.1 o
  have ph := t3.2.2.2.2.2.2.2.1
  have ch := t3.2.2.2.2.2.2.2.2.2 (dX w) dXi.1 h.2
  have ek : (gI s 18443 (fPr s (tF s)) + dX w).toInt = pHs s (fPr s (tF s)) + (dX w).toInt := ktI_add (by show -2147483648 ≤ pHs s (fPr s (tF s)) + (dX w).toInt ∧ pHs s (fPr s (tF s)) + (dX w).toInt < 2147483648; omega)
  simp only [M_St_makeClosure, ok_B, ok_C, ok_R, ok_L, ok_K, ok_GI, ok_GL, ok_PI, ok_PL, ok_AI, ok_AL, ok_SI, ok_SL, ok_CI, cmp_lt, cmp_le, cmp_gt, cmp_ge, cmp_eq, nar0, nar1, Sum.elim_inl, Sum.elim_inr, ok_PzT, ok_PzC, ok_PzP, ok_PrC, ok_PrP, ok_PrF, ok_PrN, ok_Ln, ok_CL, ok_Nw, ok_S, ok_Ks, ok_Nz]
  rw [a3, o5]
  refine ⟨t4, ⟨by rw [i32_le]; omega, by rw [i32_lt]; omega⟩, ?_⟩
  obtain ⟨ch1, ch2⟩ := ch
  generalize hp : gA s 103 0 (gI s 18443 (fPr s (tF s)) + dX w) = p at ch1 ch2 ⊢
  have pp := x.w.pg.2.2.1 p ch1.1 ch1.2
  have pg2 := x.w.pg.1.2
  have ppP : pP s p := ⟨⟨by rw [i32_le]; exact ch1.1, by rw [i32_lt]; show _ < (250 : Int); omega⟩, pp.1⟩
  refine ⟨ppP, ?_⟩
  have pu := pp.2.2.2.1
  have ps := pp.2.2.2.2.1
  refine ok_mono (firstVars_ok x pu ps (fun j a b c => (ch2 j a b).1 c)) ?_
  rintro e t ⟨f1, f2⟩
  rcases e with y | y
  · simp only [Sum.elim_inl, ok_B, ok_C, ok_R, ok_L, ok_K, ok_GI, ok_GL, ok_PI, ok_PL, ok_AI, ok_AL, ok_SI, ok_SL, ok_CI, cmp_lt, cmp_le, cmp_gt, cmp_ge, cmp_eq, nar0, nar1, Sum.elim_inl, Sum.elim_inr, ok_PzT, ok_PzC, ok_PzP, ok_PrC, ok_PrP, ok_PrF, ok_PrN, ok_Ln, ok_CL, ok_Nw, ok_S, ok_Ks, ok_Nz]
    exact fail2_ok _ x (f1 y rfl)
  · obtain ⟨r1, r2, mk, hv⟩ := f2 y rfl
    simp only [Sum.elim_inr, ok_B, ok_C, ok_R, ok_L, ok_K, ok_GI, ok_GL, ok_PI, ok_PL, ok_AI, ok_AL, ok_SI, ok_SL, ok_CI, cmp_lt, cmp_le, cmp_gt, cmp_ge, cmp_eq, nar0, nar1, Sum.elim_inl, Sum.elim_inr, ok_PzT, ok_PzC, ok_PzP, ok_PrC, ok_PrP, ok_PrF, ok_PrN, ok_Ln, ok_CL, ok_Nw, ok_S, ok_Ks, ok_Nz]
    rw [r1, r2]
    have xt := x.mk mk
    have en : gI t 18435 p = gI s 18435 p := mk.2.2.1 _ _ (.inl (by decide))
    rw [en]
    refine ok_mono (makeClosure_ok xt.w.hr xt.w.ro p (gI s 18435 p) ⟨pu.1, by show pNu s p ≤ 1000; omega⟩) ?_
    rintro ⟨r, m⟩ u ⟨s0, g, h0, tl4, R, q⟩
    dsimp only at R q ⊢
    have m0 := xt.w.mg xt.fr g h0
    rcases q with q | ⟨r0, s1, md, fi, q1, q2, q3⟩
    · refine ⟨fun c => absurd (neg_not q.1) (by rw [i32_lt]; rw [i32_le] at c; omega), fun _ => ?_⟩
      rw [q.2] at R ⊢
      exact fail2_ok _ x (mk.trans ⟨m0.1.ron R, m0.2⟩)
    · refine ⟨fun _ => ?_, fun c => absurd r0 c⟩
      have y0 := xt.mk m0
      have k0 := mk.trans m0
      have km := k0.2.2
      have nt := md.nt h0.1 fi (by decide)
      have pu0 : pNu s0 p = pNu s p := by
        unfold pNu
        rw [km.1 18435 p (.inl (by decide))]
      have eu0 : gI s 18435 p = gI s0 18435 p := (km.1 18435 p (.inl (by decide))).symm
      rw [eu0] at md
      have et0 : tF s0 = tF s := by
        unfold tF
        rw [km.cur, show oD s0 (mCur s) = oD s (mCur s) from km.1 _ _ (.inr (.inr (.inl ⟨by decide, by decide, rfl⟩)))]
      have fp0 : fPr s0 (tF s) = fPr s (tF s) := by
        obtain ⟨j, j0, j1, j2, j3, e⟩ := tF_of x.w x.2.2.2.1
        exact km.1 _ _ (.inr (.inl ⟨by decide, j, j0, j2, e⟩))
      have px := md.nw.2.1
      have pxu : pT u r := ⟨px.1, fi.2.2.2.2.2.2.2.trans px.2⟩
      have g19 : gI s0 16519 0 = gI s 16519 0 := km.1 _ _ (.inl (by decide))
      refine ⟨pxu, q2, ?_⟩
      refine ok_mono (secondVars_ok y0 md (by rw [pu0]; exact pu) ?_ (fun j a b c => ?_) (fun j a b c => ?_) ⟨fi, q1, q2, ?_, fun j a b => by omega⟩ R) ?_
      · unfold pUs
        rw [km.1 18436 p (.inl (by decide)), pu0]
        exact ps
      · rw [upF_km km] at c ⊢
        rw [pu0] at b
        rw [et0, fp0]
        unfold pNu
        rw [km.1 18435 _ (.inl (by decide))]
        exact (ch2 j a b).2 c
      · rw [upF_km km] at c ⊢
        rw [pu0] at b
        rw [km.cur, g19]
        have ac := m0.1.cur
        rw [m0.2.2.cur] at ac
        have hc := xt.w.cur.1
        have ecur := mk.2.2.cur
        rw [ecur] at ac hc
        exact (hv j a b c).mg g hc ac.2
      · rw [pu0]
        exact q3
      · rintro e v ⟨ee, ⟨f1', f2', f3', f4', f5'⟩, Rv⟩
        rw [ee]
        dsimp only
        have ty : cTy v r = 6 := f1'.2.2.2.2.1.trans md.ty
        have ntv := md.nt h0.1 f1' (by decide)
        have lvn : ∀ z, cLv false s0 z 8 → cLv false v z 8 := fun z l => (ntv.2.1 z 8 (by decide) l).1
        have pl := md.plain h0 tl4 f1' (.inr (.inl rfl)) ⟨cPv.of6 ty ⟨?_, f3', ?_, fun j j0 j1 => ?_⟩, fun z => absurd (ty.symm.trans z) (by decide)⟩ (fun z => absurd z (by decide)) (fun z => absurd z (by decide))
        · have kv := m0.1.nt m0.2.1 pl.2 pl.1 Rv (fun z => absurd z (by decide)) (fun _ => by
            rw [f2']
            have : nPr s0 = nPr s := by
              unfold nPr
              rw [km.1 12937 0 (.inr (.inr (.inr (.inl rfl))))]
            rw [this]
            exact ch1)
          have kk := k0.trans kv
          have ov := kk.oi x
          have hA := (ov.1.wn.2.2.2.2.2.2.2.2.2.2.2.2.2.2.2.2.2.2.2.2.2.2.2.2.2.1 o).1
          rw [ov.1.o.2.1]
          refine ok_mono (set_ok ov.1 (dA_in w).1 hA (cV.fun_ r0 (.inl pl.2.1))) ?_
          rintro - z st
          exact ov.trans kk.tu st.oi
        · rw [f2']
          exact ⟨ppP.1, by
            rw [ntv.2.2.1 18559 p (by decide) (fun q => absurd q (by decide)), km.1 18559 p (.inl (by decide))]
            exact ppP.2⟩
        · rw [f2', i32_le, i32_le]
          have : cUc v p = gI s0 18435 p := ntv.2.2.1 18435 p (by decide) (fun q => absurd q (by decide))
          rw [this]
          exact ⟨by show 0 ≤ pNu s0 p; rw [pu0]; exact pu.1, f4'⟩
        · rw [f2'] at j1
          rw [show cUc v p = gI s0 18435 p from ntv.2.2.1 18435 p (by decide) (fun q => absurd q (by decide)), i32_lt] at j1
          rw [i32_le] at j0
          exact lvn _ (f5' j j0 j1)
