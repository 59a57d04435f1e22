/-! The class: enterClosure. -/
theorem new_st0 {s t : S1} {n : Nat × Nat} (W : cW s n) (F : qFr true s) (h1 : gI s 18951 (mCur s) = 1) (h : pushed s t 0) (t0 : gI t 16396 0 = 0) (p0 : gI t 19461 (mCur s * 200 + oD s (mCur s)) = 0) : St0 t n := by
  obtain ⟨Wt, Ft, -, cur, lv, etF⟩ := h.w W F h1
  obtain ⟨I, Ic, If, L, A, B, rg, rn, ⟨d2, tD, u1, u2⟩, ⟨f1, f2, f3, f4, f5⟩, fk, f0, ra⟩ := h
  have e0 : (0 : Int32).toInt = 0 := rfl
  have e1 : (1 : Int32).toInt = 1 := rfl
  obtain ⟨-, dD, -⟩ := W.hi.dep W.cur
  have oDt : 1 ≤ (oD t (mCur t)).toInt := by
    rw [cur, tD, ktI_add] <;> omega
  have fw : fWh t (tF t) = 0 := by
    rw [etF]
    exact f1
  have tp := Wt.tp Ft oDt fw
  have pp := tp.2.2.1
  have pn := pp.2.2.2.2.2.2.1
  refine ⟨Wt, Ft, ?_, t0, oDt, fw, ?_, fun u => ?_⟩
  · rw [cur, I 18951 _ (by unfold miI; decide)]
    exact h1
  · rw [etF, p0]
    rw [etF] at pn
    exact ⟨Int.le_refl _, by rw [e0]; exact pn.2.1⟩
  · have wf := pp.2.2.2.2.2.2.2.2.1 (gI t 19461 (tF t)) (by rw [etF, p0]; exact Int.le_refl _) (by rw [etF, p0, e0]; rw [etF] at pn; exact pn.2.1)
    have := (wf.2.2.1 u).1
    rw [etF, p0, e0] at this
    omega
theorem fail_st5 {s : S1} {n : Nat × Nat} {τ : Bool} (e : Int32) (W : cW s n) (F : qFr τ s) (h1 : gI s 18951 (mCur s) = 1) : ok (M_Ma_fail e) s (fun _ t => St5 t n) := by
  refine ok_mono (fail_ok e s) ?_
  rintro - t ⟨f, k⟩
  obtain ⟨Wt, Ft⟩ := f.w W F
  have F0 : qFr false t := by
    cases τ with
    | true => exact Ft.weak
    | false => exact Ft
  refine ⟨Wt, F0, ?_, f.2.2.2, ?_⟩
  · rw [show mCur t = mCur s from f.1 _ _ (by decide), f.1 18951 _ (by decide)]
    exact h1
  · rw [k]
    exact cV.lit (by decide)
theorem enter54_ok {s : S1} {n : Nat × Nat} {x ex : Int32} (W : cW s n) (F : qFr true s) (h1 : gI s 18951 (mCur s) = 1) (hx : cLv false s x 6) (hex : 0 ≤ ex.toInt ∧ (ex.toInt = 0 ∨ pNp s (cLk s x) + ex.toInt = (rwS s 132).toInt)) : ok (M_Ma_enterClosure_j54 x (cLk s x) (mCur s) ex) s (fun _ t => St0 t n ∨ St5 t n) := by
  have kl := W.kl x hx
  have pp := W.pg.2.2.1 _ kl.1 kl.2
  have pg2 := W.pg.1.2
  have prs_ := pp.2.1
  have prr := pp.2.2.1
  have hn := W.args.n
  have ac := W.cur
  obtain ⟨co, dD, dU⟩ := W.hi.dep ac
  have e0 : (0 : Int32).toInt = 0 := rfl
  have e1 : (1 : Int32).toInt = 1 := rfl
  have e200 : (200 : Int32).toInt = 200 := rfl
  have e4 : (4000 : Int32).toInt = 4000 := rfl
  have e5 : (512 : Int32).toInt = 512 := rfl
  have ppP : pP s (cLk s x) := ⟨⟨by rw [i32_le]; exact kl.1, by rw [i32_lt]; show _ < (250 : Int); omega⟩, pp.1⟩
  generalize hpn : cLk s x = p at *
  have er : (gI s 18434 p + ex).toInt = pNr s p + ex.toInt := ktI_add (by show -2147483648 ≤ pNr s p + ex.toInt ∧ pNr s p + ex.toInt < 2147483648; omega)
  simp only [M_Ma_enterClosure_j54, ok_B, ok_C, ok_R, ok_L, ok_K, ok_GI, ok_GL, ok_PI, ok_PL, ok_AI, ok_AL, ok_SI, ok_SL, ok_CI, cmp_lt, cmp_le, cmp_gt, cmp_ge, cmp_eq, nar0, nar1, Sum.elim_inl, Sum.elim_inr, ok_PzT, ok_PzC, ok_PzP, ok_PrC, ok_PrP, ok_PrF, ok_PrN, ok_Ln, ok_CL, ok_Nw, ok_S, ok_Ks, ok_Nz]
  refine ok_mono (coPush_ok (s := s) (c := mCur s) 0 x (gI s 18434 p + ex) dD.1 dU ⟨by omega, by omega⟩) ?_
  rintro q s1 pu
  refine ⟨fun q0 => ?_, fun q0 => ?_⟩
  · rcases pu with pu | pu
    · rw [pu.2]
      refine ok_mono (fail_st5 4 W F h1) ?_
      rintro - t h
      exact .inr h
    · rw [pu.1] at q0
      exact absurd q0 (by decide)
  · rcases pu with pu | ⟨-, ⟨c1, c2⟩, P1, P2, P3⟩
    · exact absurd pu.1 q0
    · rw [er] at c2
      have dr : 0 ≤ oD s (mCur s) ∧ oD s (mCur s) < 200 := by
        rw [i32_le, i32_lt]
        omega
      have tD1 : gI s1 18948 (mCur s) = oD s (mCur s) + 1 := (P1 _ _).trans (if_pos ⟨rfl, rfl⟩)
      have fr := fm_int ac.1.1 dr
      have pf : pF s (mCur s * 200 + oD s (mCur s)) := ⟨⟨by rw [i32_le]; show (0 : Int) ≤ _; omega, by rw [i32_lt]; show _ < (6400 : Int); omega⟩, ((W.sf.1 _ ac.1.1.1 ac.1.1.2).1 ac.1.2).2.2.2.2 _ dr.1 dr.2⟩
      have fl := (W.sf.1 _ ac.1.1.1 ac.1.1.2).1 ac.1.2
      simp only [M_Co_top, ok_B, ok_C, ok_R, ok_L, ok_K, ok_GI, ok_GL, ok_PI, ok_PL, ok_AI, ok_AL, ok_SI, ok_SL, ok_CI, cmp_lt, cmp_le, cmp_gt, cmp_ge, cmp_eq, nar0, nar1, Sum.elim_inl, Sum.elim_inr, ok_PzT, ok_PzC, ok_PzP, ok_PrC, ok_PrP, ok_PrF, ok_PrN, ok_Ln, ok_CL, ok_Nw, ok_S, ok_Ks, ok_Nz]
      rw [tD1, Int32.add_sub_cancel]
      generalize hF : mCur s * 200 + oD s (mCur s) = Fx at *
      have s1f : gI s1 19583 Fx = 1 := by
        rw [P1]
        simp only [Nat.reduceEqDiff, false_and, if_false]
        exact pf.2
      refine ⟨dr, ⟨pf.1, s1f⟩, ?_⟩
      -- the frame's fields
      have G2 : ∀ f j, gI (sI (sI s1 19458 Fx p) 19460 Fx ex) f j = if f = 19460 ∧ j = Fx then ex else if f = 19458 ∧ j = Fx then p else gI s1 f j := fun f j => by rw [gI_sI, gI_sI]
      have G2L : ∀ f j, gL (sI (sI s1 19458 Fx p) 19460 Fx ex) f j = gL s1 f j := fun _ _ => rfl
      have G2R : (sI (sI s1 19458 Fx p) 19460 Fx ex).2.2 = s.2.2 := P3
      generalize sI (sI s1 19458 Fx p) 19460 Fx ex = s2 at G2 G2L G2R ⊢
      have GI : ∀ f j, f ≠ 18948 ∧ f ≠ 18949 ∧ f / 128 ≠ 152 → gI s2 f j = gI s f j := fun f j q => by
        rw [G2, if_neg (fun z => by omega), if_neg (fun z => by omega), P1, if_neg (fun z => by omega), if_neg (fun z => by omega), if_neg (fun z => by omega), if_neg (fun z => by omega), if_neg (fun z => by omega), if_neg (fun z => by omega), if_neg (fun z => by omega), if_neg (fun z => by omega)]
      have GA : ∀ a j q, gA s2 a j q = gA s a j q := fun a j q => by
        show s2.2.2.1 a j q = s.2.2.1 a j q
        rw [G2R]
      have GB : ∀ a j q, gB s2 a j q = gB s a j q := fun a j q => by
        show s2.2.2.2 a j q = s.2.2.2 a j q
        rw [G2R]
      have bU : gI s2 19459 Fx = oU s (mCur s) := by
        rw [G2, P1]
        simp
      have z2 : gI s2 16898 0 = rwS s 132 := GI _ _ (by decide)
      have np2 : gI s2 18432 p = gI s 18432 p := GI _ _ (by decide)
      have nr2 : gI s2 18434 p = gI s 18434 p := GI _ _ (by decide)
      refine ok_mono (kmin_ok _ _ s2) ?_
      rintro g s2' ⟨es, hg, g1, g2⟩
      subst es
      rw [z2] at g1 hg
      rw [np2] at g2 hg
      change g.toInt ≤ pNp s p at g2
      have g0 : 0 ≤ g.toInt := by
        rcases hg with z | z
        · rw [z]
          exact hn.1
        · rw [z]
          exact prs_.1
      simp only [gI_sI, gI_sL, gI_sA, gI_sB, gI_sAf, gI_sBf, gL_sI, gL_sL, gL_sA, gL_sB, gL_sAf, gL_sBf, gA_sI, gA_sL, gA_sA, gA_sB, gA_sAf, gA_sBf, gB_sI, gB_sL, gB_sA, gB_sB, gB_sAf, gB_sBf, Nat.reduceEqDiff, Nat.reduceMul, Nat.reduceAdd, false_and, true_and, and_true, and_false, if_true, if_false]
      rw [bU, nr2]
      generalize hU : oU s (mCur s) = U at *
      have eUg : (U + g).toInt = U.toInt + g.toInt := by rw [ktI_add] <;> omega
      have eUr : (U + gI s 18434 p).toInt = U.toInt + pNr s p := ktI_add (by show -2147483648 ≤ U.toInt + pNr s p ∧ U.toInt + pNr s p < 2147483648; omega)
      have k1 : ((512 : Int32) - 0).toInt = 512 := rfl
      have k2 : ((4000 : Int32) - U).toInt = 4000 - U.toInt := by rw [ktI_sub] <;> omega
      have cc : (0 : Int32) ≤ 0 ∧ 0 ≤ U ∧ 0 ≤ g ∧ (0 : Int32) ≤ 512 ∧ g ≤ 512 - 0 ∧ U ≤ 4000 ∧ g ≤ 4000 - U := by
        refine ⟨by decide, ?_, ?_, by decide, ?_, ?_, ?_⟩
        · rw [i32_le]; omega
        · rw [i32_le]; omega
        · rw [i32_le, k1]; omega
        · rw [i32_le]; omega
        · rw [i32_le, k2]; omega
      refine ⟨cc, cc, ?_⟩
      -- the copied arguments
      have C3A : ∀ a j q, gA (sBf (sAf s2' 149 (mCur s) (cpI s2' 133 0 149 (mCur s) 0 U g)) 150 (mCur s) (cpL (sAf s2' 149 (mCur s) (cpI s2' 133 0 149 (mCur s) 0 U g)) 134 0 150 (mCur s) 0 U g)) a j q = if a = 149 ∧ j = mCur s then (if U ≤ q ∧ q < U + g then gA s 133 0 (0 + (q - U)) else gA s 149 (mCur s) q) else gA s a j q := fun a j q => by
        rw [gA_sBf, gA_sAf]
        unfold cpI
        simp only [GA]
      have C3B : ∀ a j q, gB (sBf (sAf s2' 149 (mCur s) (cpI s2' 133 0 149 (mCur s) 0 U g)) 150 (mCur s) (cpL (sAf s2' 149 (mCur s) (cpI s2' 133 0 149 (mCur s) 0 U g)) 134 0 150 (mCur s) 0 U g)) a j q = if a = 150 ∧ j = mCur s then (if U ≤ q ∧ q < U + g then gB s 134 0 (0 + (q - U)) else gB s 150 (mCur s) q) else gB s a j q := fun a j q => by
        rw [gB_sBf]
        unfold cpL
        simp only [gB_sAf, GB]
      have C3I : ∀ f j, gI (sBf (sAf s2' 149 (mCur s) (cpI s2' 133 0 149 (mCur s) 0 U g)) 150 (mCur s) (cpL (sAf s2' 149 (mCur s) (cpI s2' 133 0 149 (mCur s) 0 U g)) 134 0 150 (mCur s) 0 U g)) f j = gI s2' f j := fun _ _ => rfl
      have C3L : ∀ f j, gL (sBf (sAf s2' 149 (mCur s) (cpI s2' 133 0 149 (mCur s) 0 U g)) 150 (mCur s) (cpL (sAf s2' 149 (mCur s) (cpI s2' 133 0 149 (mCur s) 0 U g)) 134 0 150 (mCur s) 0 U g)) f j = gL s2' f j := fun _ _ => rfl
      generalize sBf (sAf s2' 149 (mCur s) (cpI s2' 133 0 149 (mCur s) 0 U g)) 150 (mCur s) (cpL (sAf s2' 149 (mCur s) (cpI s2' 133 0 149 (mCur s) 0 U g)) 134 0 150 (mCur s) 0 U g) = s3 at C3A C3B C3I C3L ⊢
      have cl : (mCur s).toNatClampNeg < 32 := clamp_ltN (n := 32) ac.1.1.2 (by decide)
      have l49 : (lnI 149).toInt = 4000 := rfl
      have l50 : (lnI 150).toInt = 4000 := rfl
      refine ok_mono (cfillB_ok s3 149 (mCur s) (U + g) (U + gI s 18434 p) ⟨fun _ => by show gI s3 19199 _ = 1; rw [C3I, GI _ _ (by decide)]; exact fl.1, ac.1.1.1, cl⟩ ⟨by omega, by omega, by omega⟩ (by omega)) ?_
      rintro - s4 ⟨i4, l4, b4, a4⟩
      have r4 : gI s4 19459 Fx = U := by rw [i4, C3I]; exact bU
      have n4 : gI s4 18434 p = gI s 18434 p := by rw [i4, C3I]; exact nr2
      rw [r4, n4]
      refine ok_mono (cfillL_ok s4 150 (mCur s) (U + g) (U + gI s 18434 p) ⟨fun _ => by show gI s4 19327 _ = 1; rw [i4, C3I, GI _ _ (by decide)]; exact fl.2.1, ac.1.1.1, cl⟩ ⟨by omega, by omega, by omega⟩ (by omega)) ?_
      rintro - s5 ⟨i5, l5, a5, b5⟩
      have I5 : ∀ f j, gI s5 f j = gI s2' f j := fun f j => by rw [i5, i4, C3I]
      rw [I5 18432 p, I5 19459 Fx, I5 18434 p, np2, nr2, bU]
      have k3 : ((512 : Int32) - gI s 18432 p).toInt = 512 - pNp s p := ktI_sub (by show -2147483648 ≤ 512 - pNp s p ∧ 512 - pNp s p < 2147483648; omega)
      have k4 : ((4000 : Int32) - (U + gI s 18434 p)).toInt = 4000 - (U.toInt + pNr s p) := by rw [ktI_sub, eUr] <;> omega
      have c6 : 0 ≤ gI s 18432 p ∧ 0 ≤ U + gI s 18434 p ∧ 0 ≤ ex ∧ gI s 18432 p ≤ 512 ∧ ex ≤ 512 - gI s 18432 p ∧ U + gI s 18434 p ≤ 4000 ∧ ex ≤ 4000 - (U + gI s 18434 p) := by
        refine ⟨?_, ?_, ?_, ?_, ?_, ?_, ?_⟩
        · rw [i32_le]; show _ ≤ pNp s p; omega
        · rw [i32_le]; omega
        · rw [i32_le]; omega
        · rw [i32_le]; show pNp s p ≤ _; omega
        · rw [i32_le, k3]; omega
        · rw [i32_le]; omega
        · rw [i32_le, k4]; omega
      refine ⟨c6, c6, ?_⟩
      have C6A : ∀ a j q, gA (sBf (sAf s5 149 (mCur s) (cpI s5 133 0 149 (mCur s) (gI s 18432 p) (U + gI s 18434 p) ex)) 150 (mCur s) (cpL (sAf s5 149 (mCur s) (cpI s5 133 0 149 (mCur s) (gI s 18432 p) (U + gI s 18434 p) ex)) 134 0 150 (mCur s) (gI s 18432 p) (U + gI s 18434 p) ex)) a j q = if a = 149 ∧ j = mCur s then (if U + gI s 18434 p ≤ q ∧ q < U + gI s 18434 p + ex then gA s5 133 0 (gI s 18432 p + (q - (U + gI s 18434 p))) else gA s5 149 (mCur s) q) else gA s5 a j q := fun a j q => by
        rw [gA_sBf, gA_sAf]
        rfl
      have C6B : ∀ a j q, gB (sBf (sAf s5 149 (mCur s) (cpI s5 133 0 149 (mCur s) (gI s 18432 p) (U + gI s 18434 p) ex)) 150 (mCur s) (cpL (sAf s5 149 (mCur s) (cpI s5 133 0 149 (mCur s) (gI s 18432 p) (U + gI s 18434 p) ex)) 134 0 150 (mCur s) (gI s 18432 p) (U + gI s 18434 p) ex)) a j q = if a = 150 ∧ j = mCur s then (if U + gI s 18434 p ≤ q ∧ q < U + gI s 18434 p + ex then gB s5 134 0 (gI s 18432 p + (q - (U + gI s 18434 p))) else gB s5 150 (mCur s) q) else gB s5 a j q := fun a j q => by
        rw [gB_sBf]
        unfold cpL
        simp only [gB_sAf]
      have C6I : ∀ f j, gI (sBf (sAf s5 149 (mCur s) (cpI s5 133 0 149 (mCur s) (gI s 18432 p) (U + gI s 18434 p) ex)) 150 (mCur s) (cpL (sAf s5 149 (mCur s) (cpI s5 133 0 149 (mCur s) (gI s 18432 p) (U + gI s 18434 p) ex)) 134 0 150 (mCur s) (gI s 18432 p) (U + gI s 18434 p) ex)) f j = gI s5 f j := fun _ _ => rfl
      have C6L : ∀ f j, gL (sBf (sAf s5 149 (mCur s) (cpI s5 133 0 149 (mCur s) (gI s 18432 p) (U + gI s 18434 p) ex)) 150 (mCur s) (cpL (sAf s5 149 (mCur s) (cpI s5 133 0 149 (mCur s) (gI s 18432 p) (U + gI s 18434 p) ex)) 134 0 150 (mCur s) (gI s 18432 p) (U + gI s 18434 p) ex)) f j = gL s5 f j := fun _ _ => rfl
      generalize sBf (sAf s5 149 (mCur s) (cpI s5 133 0 149 (mCur s) (gI s 18432 p) (U + gI s 18434 p) ex)) 150 (mCur s) (cpL (sAf s5 149 (mCur s) (cpI s5 133 0 149 (mCur s) (gI s 18432 p) (U + gI s 18434 p) ex)) 134 0 150 (mCur s) (gI s 18432 p) (U + gI s 18434 p) ex) = s6 at C6A C6B C6I C6L ⊢
      refine ok_mono (rClear_ok 132 s6) ?_
      rintro - s7 ⟨x7, z7⟩
      have TI : ∀ f j, gI (sI s7 16396 0 0) f j = if f = 16396 ∧ j = 0 then 0 else gI s7 f j := fun f j => by rw [gI_sI]
      have TR : (sI s7 16396 0 0).2 = s7.2 := rfl
      generalize sI s7 16396 0 0 = t at TI TR ⊢
      have tI : ∀ f j, f ≠ 16396 ∧ f ≠ 16898 → gI t f j = gI s2' f j := fun f j q => by
        rw [TI, if_neg (fun z => q.1 z.1), x7.1 f j q.2, C6I]
        exact I5 f j
      have tL : ∀ f j, gL t f j = gL s1 f j := fun f j => by
        have : gL t f j = gL s7 f j := by
          show t.2.1 f j = s7.2.1 f j
          rw [TR]
        rw [this, x7.2.1, C6L, l5, l4, C3L, G2L]
      have tA : ∀ a j q, gA t a j q = gA s7 a j q := fun a j q => by
        show t.2.2.1 a j q = s7.2.2.1 a j q
        rw [TR]
      have tB : ∀ a j q, gB t a j q = gB s7 a j q := fun a j q => by
        show t.2.2.2 a j q = s7.2.2.2 a j q
        rw [TR]
      have a133 : ∀ q, gA s5 133 0 q = gA s 133 0 q := fun q => by
        rw [a5, a4, if_neg (fun z => absurd z.1 (by decide)), C3A, if_neg (fun z => absurd z.1 (by decide))]
      have b134 : ∀ q, gB s5 134 0 q = gB s 134 0 q := fun q => by
        rw [b5, if_neg (fun z => absurd z.1 (by decide)), b4, C3B, if_neg (fun z => absurd z.1 (by decide))]
      have RK : ∀ i, gA t 149 (mCur s) i = if U + gI s 18434 p ≤ i ∧ i < U + gI s 18434 p + ex then gA s 133 0 (gI s 18432 p + (i - (U + gI s 18434 p))) else if (U + g).toInt ≤ i.toInt ∧ i.toInt < (U + gI s 18434 p).toInt then 0 else if U ≤ i ∧ i < U + g then gA s 133 0 (0 + (i - U)) else gA s 149 (mCur s) i := fun i => by
        rw [tA, x7.2.2.1 _ _ _ (by decide), C6A, if_pos ⟨rfl, rfl⟩, a133, a5, a4, C3A]
        simp only [true_and, and_self, if_true]
      have RV : ∀ i, gB t 150 (mCur s) i = if U + gI s 18434 p ≤ i ∧ i < U + gI s 18434 p + ex then gB s 134 0 (gI s 18432 p + (i - (U + gI s 18434 p))) else if (U + g).toInt ≤ i.toInt ∧ i.toInt < (U + gI s 18434 p).toInt then 0 else if U ≤ i ∧ i < U + g then gB s 134 0 (0 + (i - U)) else gB s 150 (mCur s) i := fun i => by
        rw [tB, x7.2.2.2 _ _ _ (by decide), C6B, if_pos ⟨rfl, rfl⟩, b134, b5, b4, C3B]
        simp only [true_and, and_self, if_true]
      have eUe : (U + gI s 18434 p + ex).toInt = U.toInt + pNr s p + ex.toInt := by rw [ktI_add, eUr] <;> omega
      have tU : gI t 18949 (mCur s) = U + (gI s 18434 p + ex) := by
        rw [tI _ _ (by decide), G2, if_neg (fun z => absurd z.1 (by decide)), if_neg (fun z => absurd z.1 (by decide)), P1, if_neg (fun z => absurd z.1 (by decide)), if_pos ⟨rfl, rfl⟩]
      have tUi : (U + (gI s 18434 p + ex)).toInt = U.toInt + pNr s p + ex.toInt := by rw [ktI_add, er] <;> omega
      have tD : gI t 18948 (mCur s) = oD s (mCur s) + 1 := by
        rw [tI _ _ (by decide), G2, if_neg (fun z => absurd z.1 (by decide)), if_neg (fun z => absurd z.1 (by decide)), P1, if_pos ⟨rfl, rfl⟩]
      have F58 : gI t 19458 Fx = p := by
        rw [tI _ _ (by decide), G2, if_neg (fun z => absurd z.1 (by decide)), if_pos ⟨rfl, rfl⟩]
      have F60 : gI t 19460 Fx = ex := by
        rw [tI _ _ (by decide), G2, if_pos ⟨rfl, rfl⟩]
      have F57 : gI t 19457 Fx = x := by
        rw [tI _ _ (by decide), G2, P1]
        simp
      have F56 : gI t 19456 Fx = 0 := by
        rw [tI _ _ (by decide), G2, P1]
        simp
      have F59 : gI t 19459 Fx = U := by
        rw [tI _ _ (by decide)]
        exact bU
      have F61 : gI t 19461 Fx = 0 := by
        rw [tI _ _ (by decide), G2, P1]
        simp
      have F62 : gI t 19462 Fx = 0 := by
        rw [tI _ _ (by decide), G2, P1]
        simp
      have zt : rwS t 132 = 0 := by
        show gI t (128 * 132 + 2) 0 = 0
        rw [TI, if_neg (fun z => absurd z.1 (by decide))]
        exact z7
      left
      refine new_st0 W F h1 ?_ ?_ ?_
      · unfold pushed
        rw [hF, hU]
        have hUt : oU t (mCur s) = U + (gI s 18434 p + ex) := tU
        rw [hUt]
        refine ⟨fun f j q => ?_, fun f j q z => ?_, fun f j q z => ?_, fun f j q z => ?_, fun a j q z w => ?_, fun a j q z w => ?_, fun i il => ⟨?_, ?_⟩, fun i i0 i1 => ?_, ⟨by omega, tD, by omega, by omega⟩, ⟨F56, ⟨by decide, by decide⟩, F59, F62, .inr (by rw [F58]; exact ppP)⟩, fun z => absurd rfl z, fun _ => ⟨by rw [show mFn t Fx = x from F57]; exact hx, by rw [show mFn t Fx = x from F57, show fPr t Fx = p from F58]; exact hpn, ?_, ?_⟩, cRow.nil zt⟩
        · unfold miI at q
          rw [tI f j (by omega)]
          exact GI f j (by omega)
        · rw [tI f j (by omega), G2, if_neg (fun y => by omega), if_neg (fun y => by omega), P1, if_neg (fun y => z y.2), if_neg (fun y => z y.2), if_neg (fun y => by omega), if_neg (fun y => by omega), if_neg (fun y => by omega), if_neg (fun y => by omega), if_neg (fun y => by omega), if_neg (fun y => by omega)]
        · have ne : ∀ k : Nat, k ≠ 19583 → ¬ (f = k ∧ j = Fx) := fun k hk y => by
            rcases z with z | z
            · exact z y.2
            · exact hk (y.1.symm.trans z)
          rw [tI f j (by omega), G2, if_neg (ne _ (by decide)), if_neg (ne _ (by decide)), P1, if_neg (fun y => by omega), if_neg (fun y => by omega), if_neg (ne _ (by decide)), if_neg (ne _ (by decide)), if_neg (ne _ (by decide)), if_neg (ne _ (by decide)), if_neg (ne _ (by decide)), if_neg (ne _ (by decide))]
        · rw [tL, P2, if_neg (fun y => z y.1 y.2)]
        · rw [tA, x7.2.2.1 _ _ _ z, C6A, if_neg (fun y => w y.1 y.2), a5, a4, if_neg (fun y => w y.1 y.2.1), C3A, if_neg (fun y => w y.1 y.2)]
        · rw [tB, x7.2.2.2 _ _ _ z, C6B, if_neg (fun y => w y.1 y.2), b5, if_neg (fun y => w y.1 y.2.1), b4, C3B, if_neg (fun y => w y.1 y.2)]
        · show gA t 149 (mCur s) i = _
          rw [RK, if_neg (fun y => by have := y.1; rw [i32_le] at this; omega), if_neg (fun y => by omega), if_neg (fun y => by have := y.1; rw [i32_le] at this; omega)]
        · show gB t 150 (mCur s) i = _
          rw [RV, if_neg (fun y => by have := y.1; rw [i32_le] at this; omega), if_neg (fun y => by omega), if_neg (fun y => by have := y.1; rw [i32_le] at this; omega)]
        · show cV (cLv false s) (gA t 149 (mCur s) i) (gB t 150 (mCur s) i)
          rw [tUi] at i1
          by_cases y1 : U + gI s 18434 p ≤ i ∧ i < U + gI s 18434 p + ex
          · rw [RK, RV, if_pos y1, if_pos y1]
            have y1' := y1
            rw [i32_le, i32_lt, eUr, eUe] at y1'
            have m1 : (i - (U + gI s 18434 p)).toInt = i.toInt - (U.toInt + pNr s p) := by rw [ktI_sub, eUr] <;> omega
            have m2 : (gI s 18432 p + (i - (U + gI s 18434 p))).toInt = pNp s p + (i.toInt - (U.toInt + pNr s p)) := by
              rw [← m1]
              exact ktI_add (by show -2147483648 ≤ pNp s p + (i - (U + gI s 18434 p)).toInt ∧ pNp s p + (i - (U + gI s 18434 p)).toInt < 2147483648; omega)
            exact W.args.2 _ (by rw [i32_le, m2]; omega) (by show _ < rwS s 132; rw [i32_lt, m2]; omega)
          · by_cases y2 : (U + g).toInt ≤ i.toInt ∧ i.toInt < (U + gI s 18434 p).toInt
            · rw [RK, RV, if_neg y1, if_neg y1, if_pos y2, if_pos y2]
              exact cV.lit (by decide)
            · have y3 : U ≤ i ∧ i < U + g := by
                rw [i32_le, i32_lt, eUr, eUe] at y1
                rw [i32_le, i32_lt]
                omega
              rw [RK, RV, if_neg y1, if_neg y1, if_neg y2, if_neg y2, if_pos y3, if_pos y3]
              rw [i32_le, i32_lt, eUg] at y3
              have m1 : (i - U).toInt = i.toInt - U.toInt := by rw [ktI_sub] <;> omega
              have m2 : (0 + (i - U)).toInt = i.toInt - U.toInt := by rw [ktI_add, m1] <;> omega
              exact W.args.2 _ (by rw [i32_le, m2]; omega) (by show _ < rwS s 132; rw [i32_lt, m2]; omega)
        · unfold fEx
          rw [F60]
          omega
        · unfold fEx
          rw [F60, show fPr t Fx = p from F58, tUi]
      · rw [TI, if_pos ⟨rfl, rfl⟩]
      · rw [hF]
        exact F61
theorem enterClosure_ok {s : S1} {n : Nat × Nat} {x : Int32} (W : cW s n) (F : qFr true s) (h1 : gI s 18951 (mCur s) = 1) (hx : cLv false s x 6) : ok (M_Ma_enterClosure x) s (fun _ t => St0 t n ∨ St5 t n) := by
  have kl := W.kl x hx
  have pp := W.pg.2.2.1 _ kl.1 kl.2
  have pg2 := W.pg.1.2
  have hn := W.args.n
  have e0 : (0 : Int32).toInt = 0 := rfl
  have ppP : pP s (cLk s x) := ⟨⟨by rw [i32_le]; exact kl.1, by rw [i32_lt]; show _ < (250 : Int); omega⟩, pp.1⟩
  simp only [M_Ma_enterClosure, ok_B, ok_C, ok_R, ok_L, ok_K, ok_GI, ok_GL, ok_PI, ok_PL, ok_AI, ok_AL, ok_SI, ok_SL, ok_CI, cmp_lt, cmp_le, cmp_gt, cmp_ge, cmp_eq, nar0, nar1, Sum.elim_inl, Sum.elim_inr, ok_PzT, ok_PzC, ok_PzP, ok_PrC, ok_PrP, ok_PrF, ok_PrN, ok_Ln, ok_CL, ok_Nw, ok_S, ok_Ks, ok_Nz]
  refine ⟨W.hi.1.2 _ hx.1.1 hx.1.2, ppP, W.cur.1, fun _ => ?_, fun _ => enter54_ok W F h1 hx ⟨Int.le_refl _, .inl rfl⟩⟩
  refine ok_mono (kmax_ok _ _ s) ?_
  rintro ex s2 ⟨es, he, x0, x1⟩
  subst es
  refine enter54_ok W F h1 hx ⟨by omega, ?_⟩
  have pq := pp.2.1
  have pr := pp.2.2.1
  have ed : (gI s2 16898 0 - gI s2 18432 (gI s2 18564 x)).toInt = (rwS s2 132).toInt - pNp s2 (cLk s2 x) := ktI_sub (by show -2147483648 ≤ (rwS s2 132).toInt - pNp s2 (cLk s2 x) ∧ (rwS s2 132).toInt - pNp s2 (cLk s2 x) < 2147483648; omega)
  rcases he with z | z
  · left
    rw [z]
    rfl
  · right
    rw [z, ed]
    omega
