/-! The class: a function is made by an instruction. -/
theorem osE.has {s : S1} {c r a z : Int32} (cn : cCn s c) (h : hasV s c r) (e : osE s c r a z) : 0 ≤ z ∧ cOp s c z ∧ cPl s z = r := by
  obtain ⟨y, hy, py⟩ := h
  obtain ⟨⟨l1, l2, l3, l4, l5⟩, -⟩ := cn
  have z0 : 0 ≤ z ∧ (cPl s y).toInt ≤ (cPl s z).toInt := by
    rcases e.1 with ⟨-, rfl⟩ | ⟨-, ha, ra, rfl⟩
    · exact l2 y hy
    · exact l4 y a hy ha (by show (cPl s y).toInt < (cPl s a).toInt; rw [py]; exact ra)
  rcases e.2 with w | w
  · have := z0.1
    rw [i32_lt] at w
    rw [i32_le] at this
    omega
  · refine ⟨z0.1, w.1, toInt_inj ?_⟩
    rw [py] at z0
    omega
def ofQ (t : S1) (n : Nat × Nat) (c : Int32) (q : Int32 × (Nat × Nat)) (t' : S1) : Prop := t' = t ∧ q.2 = n ∧ cOp t c q.1
theorem ovFound_ok {t : S1} (n : Nat × Nat) {c r : Int32} (cn : cCn t c) (pts : ∀ y, cOp t c y → pT t y) (h : hasV t c r) : ok (M_He_openVariable n c r) t (ofQ t n c) := by
  simp only [M_He_openVariable, ok_B, ok_C, ok_R, ok_L, ok_K, ok_GI, ok_GL, ok_PI, ok_PL, ok_AI, ok_AL, ok_SI, ok_SL, ok_CI, cmp_lt, cmp_le, cmp_gt, cmp_ge, cmp_eq, nar0, nar1, Sum.elim_inl, Sum.elim_inr, ok_PzT, ok_PzC, ok_PzP, ok_PrC, ok_PrP, ok_PrF, ok_PrN, ok_Ln, ok_CL, ok_Nw, ok_S, ok_Ks, ok_Nz]
  refine ok_mono (opSearch_ok n cn pts) ?_
  rintro e t' ⟨es, a, z, rfl, oe⟩
  subst es
  obtain ⟨z0, oz, pz⟩ := oe.has cn h
  simp only [M_He_openVariable_j59, ok_B, ok_C, ok_R, ok_L, ok_K, ok_GI, ok_GL, ok_PI, ok_PL, ok_AI, ok_AL, ok_SI, ok_SL, ok_CI, cmp_lt, cmp_le, cmp_gt, cmp_ge, cmp_eq, nar0, nar1, Sum.elim_inl, Sum.elim_inr, ok_PzT, ok_PzC, ok_PzP, ok_PrC, ok_PrP, ok_PrF, ok_PrN, ok_Ln, ok_CL, ok_Nw, ok_S, ok_Ks, ok_Nz]
  refine ⟨fun c => absurd z0 (by rw [i32_le]; rw [i32_lt] at c; omega), fun _ => ⟨pts z oz, fun _ => ⟨rfl, rfl, oz⟩, fun d => absurd pz d⟩⟩
/-- a variable stays where something is made beside it -/
theorem hasV.no {s t : S1} {x c r : Int32} (h : cNo x s t) (v : hasV s c r) : hasV t c r := by
  obtain ⟨y, hy, py⟩ := v
  have w := h.2.1 y 8 (by decide) hy.1
  exact ⟨y, ⟨w.1, (h.2.2.1 _ _ (by decide) (fun _ => w.2)).trans hy.2⟩, (h.2.2.1 _ _ (by decide) (fun _ => w.2)).trans py⟩
theorem cW.ron {s : S1} {n m : Nat × Nat} (W : cW s n) (R : cRo s m (0, 0)) : cW s m := ⟨W.1, W.2.1, W.2.2.1, W.2.2.2.1, R, W.2.2.2.2.2⟩
/-- where the machine took a variable of its own -/
theorem ovQ.w {s t : S1} {n : Nat × Nat} {r : Int32} {q : Int32 × (Nat × Nat)} (W : cW s n) (F : qFr false s) (hr : r.toInt < (oU s (mCur s)).toInt) (h : ovQ s (0, 0) (mCur s) r q t) : mkW s false q.2 t ∧ (∀ r', hasV s (mCur s) r' → hasV t (mCur s) r') ∧ ((q.1 = -10 ∨ q.1 = -11) ∨ (0 ≤ q.1 ∧ hasV t (mCur s) r)) := by
  rcases h with ⟨e, h1, h2, h3⟩ | ⟨s0, g, h0, R, w⟩
  · rw [e]
    exact ⟨⟨W.ron h3, F, cKm.refl s⟩, fun _ z => z, .inr ⟨h1.1.1.1, q.1, h1, h2⟩⟩
  · have m := W.mg F g h0
    have ac := m.1.cur
    rw [m.2.2.cur] at ac
    rcases w with w | w
    · rw [w.2]
      rw [w.2] at R
      exact ⟨⟨m.1.ron R, m.2⟩, fun r' z => z.mg g W.cur.1 ac.2, .inl w.1⟩
    · have oU0 : oU s0 (mCur s) = oU s (mCur s) := m.2.2.1 _ _ (.inr (.inr (.inl ⟨by decide, by decide, rfl⟩)))
      have k := m.1.no m.2.1 w.2.2.1 w.2.1 R w.2.2.2.1 (by rw [w.2.2.2.2, oU0]; exact hr)
      exact ⟨m.trans k, fun r' z => (z.mg g W.cur.1 ac.2).no w.2.2.1, .inr ⟨w.1, q.1, w.2.2.2.1, w.2.2.2.2⟩⟩
/-- the upvalues of a prototype, as the one around it has them -/
def upF (s : S1) (p j : Int32) : Int32 := gA s 107 0 (gI s 18436 p + j)
theorem upF_km {s t : S1} (km : cKm s t) (p j : Int32) : upF t p j = upF s p j := by
  unfold upF
  rw [km.1 18436 p (.inl (by decide)), km.2.2.1 107 _ _ (.inr (.inr (.inr (.inl rfl))))]
def fvP (s : S1) (p : Int32) (e : (Int32 × (Nat × Nat)) ⊕ (Int32 × Int32 × (Nat × Nat))) (t : S1) : Prop := (∀ y, e = .inl y → mkW s false y.2 t) ∧ ∀ y, e = .inr y → y.1 = p ∧ y.2.1 = p ∧ mkW s false y.2.2 t ∧ ∀ j : Int32, 0 ≤ j.toInt → j.toInt < pNu s p → 0 ≤ upF s p j → hasV t (mCur s) (gI s 16519 0 + upF s p j)
theorem firstVars_ok {s : S1} {n : Nat × Nat} {i w p : Int32} (x : Ix s n i w) (pu : 0 ≤ pNu s p ∧ pNu s p ≤ 60) (ps : 0 ≤ pUs s p ∧ pUs s p + pNu s p ≤ 15000) (hu : ∀ j : Int32, 0 ≤ j.toInt → j.toInt < pNu s p → 0 ≤ (upF s p j).toInt → (upF s p j).toInt < pNr s (fPr s (tF s))) : ok (oW M_St_makeClosure_L33 (p, p, 0, n)) s (fvP s p) := by
  have e0 : (0 : Int32).toInt = 0 := rfl
  have e1 : (1 : Int32).toInt = 1 := rfl
  have e15 : (15000 : Int32).toInt = 15000 := rfl
  have e4 : (4000 : Int32).toInt = 4000 := rfl
  obtain ⟨t1, -⟩ := x.tp
  obtain ⟨a1, a2, a3, a4⟩ := x.2.2.2.2.2.1
  refine ok_W (fun y t => (y.1 = p ∧ y.2.1 = p) ∧ (0 ≤ y.2.2.1.toInt ∧ y.2.2.1.toInt ≤ pNu s p) ∧ mkW s false y.2.2.2 t ∧ ∀ j : Int32, 0 ≤ j.toInt → j.toInt < y.2.2.1.toInt → 0 ≤ upF s p j → hasV t (mCur s) (gI s 16519 0 + upF s p j)) (fun y _ => (pNu s p - y.2.2.1.toInt).toNat) ?_ (p, p, 0, n) s ⟨⟨rfl, rfl⟩, ⟨Int.le_refl _, pu.1⟩, ⟨x.w, x.fr, cKm.refl s⟩, fun j a b => by dsimp only at b; omega⟩
  rintro ⟨p1, p2, k, m⟩ t ⟨⟨q1, q2⟩, ⟨k0, k1⟩, mk, hv⟩
  dsimp only at q1 q2 k0 k1 mk hv
  subst q1 q2
  have km := mk.2.2
  have xt := x.mk mk
  have en : gI t 18435 p2 = gI s 18435 p2 := km.1 _ _ (.inl (by decide))
  have ek : (k + 1).toInt = k.toInt + 1 := by rw [ktI_add] <;> omega
  have j84 : ∀ (u : S1) (m' : Nat × Nat) (r : Int32), k.toInt < pNu s p2 → mkW s false m' u → (0 ≤ r → ∀ j : Int32, 0 ≤ j.toInt → j.toInt < k.toInt + 1 → 0 ≤ upF s p2 j → hasV u (mCur s) (gI s 16519 0 + upF s p2 j)) → ok (M_St_makeClosure_j84 p2 p2 k m' r) u (fun y s' => Sum.elim (fun z => ((z.1 = p2 ∧ z.2.1 = p2) ∧ (0 ≤ z.2.2.1.toInt ∧ z.2.2.1.toInt ≤ pNu s p2) ∧ mkW s false z.2.2.2 s' ∧ ∀ j : Int32, 0 ≤ j.toInt → j.toInt < z.2.2.1.toInt → 0 ≤ upF s p2 j → hasV s' (mCur s) (gI s 16519 0 + upF s p2 j)) ∧ (pNu s p2 - z.2.2.1.toInt).toNat < (pNu s p2 - k.toInt).toNat) (fun e => fvP s p2 e s') y) := fun u m' r kl mu hr => by
    simp only [M_St_makeClosure_j84, ok_B, ok_C, ok_R, ok_L, ok_K, ok_GI, ok_GL, ok_PI, ok_PL, ok_AI, ok_AL, ok_SI, ok_SL, ok_CI, cmp_lt, cmp_le, cmp_gt, cmp_ge, cmp_eq, nar0, nar1, Sum.elim_inl, Sum.elim_inr, ok_PzT, ok_PzC, ok_PzP, ok_PrC, ok_PrP, ok_PrF, ok_PrN, ok_Ln, ok_CL, ok_Nw, ok_S, ok_Ks, ok_Nz]
    refine ⟨fun c => ⟨⟨⟨by trivial, by trivial⟩, ⟨by omega, by omega⟩, mu, fun j a b d => hr c j a (by omega) d⟩, by omega⟩, fun c => ⟨fun y z => ?_, fun y z => by simp at z⟩⟩
    simp only [Sum.inl.injEq] at z
    subst z
    exact mu
  simp only [M_St_makeClosure_L33, ok_B, ok_C, ok_R, ok_L, ok_K, ok_GI, ok_GL, ok_PI, ok_PL, ok_AI, ok_AL, ok_SI, ok_SL, ok_CI, cmp_lt, cmp_le, cmp_gt, cmp_ge, cmp_eq, nar0, nar1, Sum.elim_inl, Sum.elim_inr, ok_PzT, ok_PzC, ok_PzP, ok_PrC, ok_PrP, ok_PrF, ok_PrN, ok_Ln, ok_CL, ok_Nw, ok_S, ok_Ks, ok_Nz]
  rw [en]
  refine ⟨fun c => ⟨fun y z => by simp at z, fun y z => ?_⟩, fun c => ?_⟩
  · simp only [Sum.inr.injEq] at z
    subst z
    rw [i32_le] at c
    change pNu s p2 ≤ _ at c
    exact ⟨rfl, rfl, mk, fun j a b d => hv j a (by omega) d⟩
  · rw [i32_le] at c
    change ¬ pNu s p2 ≤ _ at c
    have es : gI t 18436 p2 = gI s 18436 p2 := km.1 _ _ (.inl (by decide))
    have eu : gA t 107 0 (gI t 18436 p2 + k) = upF s p2 k := upF_km km p2 k
    have eix : (gI t 18436 p2 + k).toInt = pUs s p2 + k.toInt := by
      rw [es]
      exact ktI_add (by show -2147483648 ≤ pUs s p2 + k.toInt ∧ pUs s p2 + k.toInt < 2147483648; omega)
    refine ⟨⟨by rw [i32_le]; omega, by rw [i32_lt]; omega⟩, ?_⟩
    rw [eu]
    refine ⟨fun f0 => ?_, fun f0 => ?_⟩
    · have f0' := f0
      rw [i32_le] at f0'
      have fl := hu k k0 (by omega) (by omega)
      obtain ⟨b1, b2, b3, b4⟩ := xt.2.2.2.2.2.1
      have e19 : gI t 16519 0 = gI s 16519 0 := km.1 _ _ (.inl (by decide))
      have ecur : mCur t = mCur s := km.cur
      rw [b1, e19]
      refine ⟨xt.w.cur.1, ?_⟩
      have er : (gI s 16519 0 + upF s p2 k).toInt = fBs s (tF s) + (upF s p2 k).toInt := by
        rw [a4]
        exact ktI_add (by show -2147483648 ≤ fBs s (tF s) + (upF s p2 k).toInt ∧ fBs s (tF s) + (upF s p2 k).toInt < 2147483648; omega)
      have eU : oU t (mCur t) = oU s (mCur s) := by
        rw [ecur]
        exact km.1 _ _ (.inr (.inr (.inl ⟨by decide, by decide, rfl⟩)))
      have rU : (gI s 16519 0 + upF s p2 k).toInt < (oU t (mCur t)).toInt := by
        rw [eU, er]
        omega
      have ixc : gI t 18947 (mCur t) = mCur t := ((xt.w.sf.1 _ xt.w.cur.1.1.1 xt.w.cur.1.1.2).1 xt.w.cur.1.2).2.2.2.1
      refine ok_mono (openVar_ok xt.w.hr xt.w.ro xt.w.cur.1 xt.w.cur.2 ixc ⟨by rw [i32_le]; omega, by rw [i32_lt]; omega⟩ (fun s0 g h0 => ?_)) ?_
      · have m0 := xt.w.mg xt.fr g h0
        have ac := m0.1.cur
        have cu := m0.2.2.cur
        rw [cu] at ac
        refine ⟨ac.2, ?_⟩
        obtain ⟨co, -, -⟩ := m0.1.hi.dep ac
        exact co.2.1.2 _ (by rw [i32_le]; omega) (by rw [show oU s0 (mCur t) = oU t (mCur t) from m0.2.2.1 _ _ (.inr (.inr (.inl ⟨by decide, by decide, rfl⟩))), i32_lt]; exact rU)
      · rintro q u ov
        obtain ⟨mu, keep, res⟩ := ovQ.w xt.w xt.fr rU ov
        rw [ecur] at keep res
        refine j84 u q.2 q.1 (by omega) (mk.trans mu) (fun q0 j a b d => ?_)
        by_cases z : j = k
        · rw [z]
          rcases res with r' | r'
          · exact absurd (neg_not r') (by rw [i32_lt]; rw [i32_le] at q0; omega)
          · exact r'.2
        · have : j.toInt ≠ k.toInt := fun y => z (toInt_inj y)
          exact keep _ (hv j a (by omega) d)
    · refine j84 t m 0 (by omega) mk (fun _ j a b d => ?_)
      by_cases z : j = k
      · rw [z] at d
        exact absurd d f0
      · have : j.toInt ≠ k.toInt := fun y => z (toInt_inj y)
        exact hv j a (by omega) d
