/-! The class: further arguments; loops and takings. -/
/-- an open row begins -/
def Oo (s : S1) (n : Nat × Nat) (i w : Int32) (t : S1) : Prop := Ix t n i w ∧ gI t 19461 (tF t) = gI s 19461 (tF s) ∧ gI t 16396 0 = gI s 16396 0 ∧ gI t 16390 0 = dA w
theorem tF_eq {s t : S1} (h : ∀ f j, f = 16395 ∨ f = 18948 → gI t f j = gI s f j) : tF t = tF s := by
  unfold tF
  rw [show mCur t = mCur s from h _ _ (.inl rfl), show oD t (mCur s) = oD s (mCur s) from h _ _ (.inr rfl)]
theorem further_ok {s : S1} {n : Nat × Nat} {i w : Int32} (x : Ix s n i w) (o : (dO w).toInt = 45) : ok M_St_takeFurther s (fun _ t => ((dB w ≠ 0) ∧ Oi s n i w t) ∨ (dB w = 0 ∧ Oo s n i w t)) := by
  obtain ⟨t1, t2, t3, t4, t5, t6, t7⟩ := x.tp
  obtain ⟨a1, a2, a3, a4⟩ := x.2.2.2.2.2.1
  obtain ⟨o1, o2, o3, o4, o5⟩ := x.o
  have dAi := dA_in w
  have dBi := dB_in w
  have e0 : (0 : Int32).toInt = 0 := rfl
  have e1 : (1 : Int32).toInt = 1 := rfl
  have e4 : (4000 : Int32).toInt = 4000 := rfl
  have pr := t3.2.2.1
  have ef : (gI s 19459 (tF s) + gI s 18434 (fPr s (tF s))).toInt = fBs s (tF s) + pNr s (fPr s (tF s)) := ktI_add (by show -2147483648 ≤ fBs s (tF s) + pNr s (fPr s (tF s)) ∧ fBs s (tF s) + pNr s (fPr s (tF s)) < 2147483648; omega)
  simp only [M_St_takeFurther, ok_B, ok_C, ok_R, ok_L, ok_K, ok_GI, ok_GL, ok_PI, ok_PL, ok_AI, ok_AL, ok_SI, ok_SL, ok_CI, cmp_lt, cmp_le, cmp_gt, cmp_ge, cmp_eq, nar0, nar1, Sum.elim_inl, Sum.elim_inr, ok_PzT, ok_PzC, ok_PzP, ok_PrC, ok_PrP, ok_PrF, ok_PrN, ok_Ln, ok_CL, ok_Nw, ok_S, ok_Ks, ok_Nz]
  rw [a3, a4, o3]
  refine ⟨t4, fun b0 => ?_, fun b0 => ?_⟩
  · rw [o2]
    have l1 : lw true s (sI s 16390 0 (dA w)) := by
      have g : ∀ f j, f ≠ 16390 → gI (sI s 16390 0 (dA w)) f j = gI s f j := fun f j q => by rw [gI_sI, if_neg (fun z => q z.1)]
      exact ⟨fun f j q => g f j (fun z => q (by rw [z]; unfold lwX; decide)), fun j _ => ⟨g _ _ (by decide), g _ _ (by decide)⟩, fun j _ => ⟨g _ _ (by decide), rfl⟩, fun _ _ _ => rfl, fun _ _ _ _ => rfl, fun _ _ _ => rfl, fun _ _ _ _ => rfl, fun _ _ _ => rfl⟩
    have x1 : Ix (sI s 16390 0 (dA w)) n i w := by
      obtain ⟨p1, p2, p3, p4⟩ := l1.pure x.w rfl (fun f j q => by rw [gI_sI, if_neg (fun z => by omega)]) (fun _ => rfl)
      exact x.lw l1 p1 p2 p3 p4
    refine ok_mono (rClear_ok 138 _) ?_
    rintro - s2 ⟨c2, z2⟩
    have x2 : Ix s2 n i w := cRx.ix (by decide) c2 x1 (fun _ => cRow.nil z2)
    have g2 : ∀ f j, f ≠ 16390 ∧ f ≠ 17666 → gI s2 f j = gI s f j := fun f j q => by
      rw [c2.1 f j q.2, gI_sI, if_neg (fun z => q.1 z.1)]
    have z90 : gI s2 16390 0 = dA w := by
      rw [c2.1 _ _ (by decide), gI_sI, if_pos ⟨rfl, rfl⟩]
    refine ok_W (fun y t => y.1 = gI s 19459 (tF s) + gI s 18434 (fPr s (tF s)) ∧ (0 ≤ y.2.toInt ∧ y.2.toInt ≤ fEx s (tF s)) ∧ Ix t n i w ∧ (∀ f j, f ≠ 16390 ∧ f ≠ 17666 → gI t f j = gI s f j) ∧ gI t 16390 0 = dA w) (fun y _ => (fEx s (tF s) - y.2.toInt).toNat) ?_ (_, 0) s2 ⟨rfl, ⟨Int.le_refl _, by dsimp only; omega⟩, x2, g2, z90⟩
    rintro ⟨f, k⟩ t ⟨ef', ⟨k0, k1⟩, xt, gt, zt⟩
    dsimp only at ef' k0 k1
    subst ef'
    have et : tF t = tF s := tF_eq (fun f j q => gt f j (by omega))
    obtain ⟨b1, b2, b3, b4⟩ := xt.2.2.2.2.2.1
    simp only [M_St_takeFurther_L43, ok_B, ok_C, ok_R, ok_L, ok_K, ok_GI, ok_GL, ok_PI, ok_PL, ok_AI, ok_AL, ok_SI, ok_SL, ok_CI, cmp_lt, cmp_le, cmp_gt, cmp_ge, cmp_eq, nar0, nar1, Sum.elim_inl, Sum.elim_inr, ok_PzT, ok_PzC, ok_PzP, ok_PrC, ok_PrP, ok_PrF, ok_PrN, ok_Ln, ok_CL, ok_Nw, ok_S, ok_Ks, ok_Nz]
    rw [b2, b1, et, gt 19460 _ (by decide)]
    have pt := xt.tp.2.2.2.2.1
    rw [et] at pt
    refine ⟨pt, fun _ => .inr ⟨b0, xt, ?_, gt _ _ (by decide), zt⟩, fun c => ?_⟩
    · rw [et]
      exact gt _ _ (by decide)
    · rw [i32_le] at c
      change ¬ fEx s (tF s) ≤ _ at c
      have ek : (gI s 19459 (tF s) + gI s 18434 (fPr s (tF s)) + k).toInt = fBs s (tF s) + pNr s (fPr s (tF s)) + k.toInt := by rw [ktI_add, ef] <;> omega
      have hi : 0 ≤ gI s 19459 (tF s) + gI s 18434 (fPr s (tF s)) + k ∧ gI s 19459 (tF s) + gI s 18434 (fPr s (tF s)) + k < 4000 := by
        rw [i32_le, i32_lt]
        omega
      have co := (xt.w.hi.dep xt.w.cur).1
      have v := co.2.1.2 (gI s 19459 (tF s) + gI s 18434 (fPr s (tF s)) + k) hi.1 (by
        rw [show oU t (mCur t) = oU s (mCur s) from by rw [show mCur t = mCur s from gt _ _ (by decide)]; exact gt _ _ (by decide), i32_lt, ek]
        omega)
      refine ⟨xt.w.cur.1, hi, xt.w.cur.1, hi, ?_⟩
      refine ok_mono (rAdd_ok xt.w.opn v) ?_
      rintro - u ⟨cu, ru, -, -⟩
      have xu := cRx.ix (by decide) cu xt (fun _ => ru)
      have ekk : (k + 1).toInt = k.toInt + 1 := by rw [ktI_add] <;> omega
      exact ⟨⟨trivial, ⟨by omega, by omega⟩, xu, fun f j q => (cu.1 f j q.2).trans (gt f j q), (cu.1 _ _ (by decide)).trans zt⟩, by omega⟩
  · have h45 := x.wn.2.2.2.2.2.2.2.2.2.2.2.2.2.2.2.2.2.2.2.2.2.2.2.2.2.2.1 o
    have bp : 1 ≤ (dB w).toInt := by
      have : (dB w).toInt ≠ 0 := fun z => b0 (toInt_inj z)
      omega
    have eb : (dB w - 1).toInt = (dB w).toInt - 1 := by rw [ktI_sub] <;> omega
    refine ok_W (fun y t => y.1 = gI s 19459 (tF s) + gI s 18434 (fPr s (tF s)) ∧ (0 ≤ y.2.toInt ∧ y.2.toInt ≤ (dB w).toInt - 1) ∧ Oi s n i w t ∧ ∀ f j, gI t f j = gI s f j) (fun y _ => ((dB w).toInt - 1 - y.2.toInt).toNat) ?_ (_, 0) s ⟨rfl, ⟨Int.le_refl _, by dsimp only; omega⟩, Oi.refl x, fun _ _ => rfl⟩
    rintro ⟨f, k⟩ t ⟨ef', ⟨k0, k1⟩, ot, gt⟩
    dsimp only at ef' k0 k1
    subst ef'
    have xt := ot.1
    have et : tF t = tF s := tF_eq (fun f j _ => gt f j)
    obtain ⟨b1, b2, b3, b4⟩ := xt.2.2.2.2.2.1
    have pt := xt.tp.2.2.2.2.1
    simp only [M_St_takeFurther_L95, ok_B, ok_C, ok_R, ok_L, ok_K, ok_GI, ok_GL, ok_PI, ok_PL, ok_AI, ok_AL, ok_SI, ok_SL, ok_CI, cmp_lt, cmp_le, cmp_gt, cmp_ge, cmp_eq, nar0, nar1, Sum.elim_inl, Sum.elim_inr, ok_PzT, ok_PzC, ok_PzP, ok_PrC, ok_PrP, ok_PrF, ok_PrN, ok_Ln, ok_CL, ok_Nw, ok_S, ok_Ks, ok_Nz]
    rw [xt.o.2.2.1, b2]
    refine ⟨fun _ => .inl ⟨b0, ot⟩, fun c => ⟨pt, ?_⟩⟩
    rw [i32_le, eb] at c
    have eak : (dA w + k).toInt = (dA w).toInt + k.toInt := by rw [ktI_add] <;> omega
    have ekk : (k + 1).toInt = k.toInt + 1 := by rw [ktI_add] <;> omega
    have setk : ∀ kk vv, cV (cLv false t) kk vv → ok (M_St_set (dA w + k) kk vv) t (fun _ u => (True ∧ (0 ≤ (k + 1).toInt ∧ (k + 1).toInt ≤ (dB w).toInt - 1) ∧ Oi s n i w u ∧ ∀ f j, gI u f j = gI s f j) ∧ ((dB w).toInt - 1 - (k + 1).toInt).toNat < ((dB w).toInt - 1 - k.toInt).toNat) := fun kk vv hv => by
      refine ok_mono (set_ok xt (by omega) ?_ hv) ?_
      · rw [et]
        show (dA w + k).toInt < (gI t 18434 (gI t 19458 (tF s))).toInt
        rw [gt, gt]
        show (dA w + k).toInt < pNr s (fPr s (tF s))
        omega
      · rintro - u st
        exact ⟨⟨trivial, ⟨by omega, by omega⟩, ot.trans (gt _ _) st.oi, fun f j => (st.2.1 f j).trans (gt f j)⟩, by omega⟩
    rw [et, gt]
    refine ⟨fun _ => ?_, fun d => ?_⟩
    · simp only [M_St_takeFurther_j121, M_St_takeFurther_j148, M_St_takeFurther_j167, ok_B, ok_C, ok_R, ok_L, ok_K, ok_GI, ok_GL, ok_PI, ok_PL, ok_AI, ok_AL, ok_SI, ok_SL, ok_CI, cmp_lt, cmp_le, cmp_gt, cmp_ge, cmp_eq, nar0, nar1, Sum.elim_inl, Sum.elim_inr, ok_PzT, ok_PzC, ok_PzP, ok_PrC, ok_PrP, ok_PrF, ok_PrN, ok_Ln, ok_CL, ok_Nw, ok_S, ok_Ks, ok_Nz]
      rw [xt.o.2.1]
      refine ⟨fun _ => ⟨fun _ => setk 0 0 (cV.lit (by decide)), fun z => absurd trivial z⟩, fun z => absurd trivial z⟩
    · rw [i32_le] at d
      change ¬ fEx s (tF s) ≤ _ at d
      have ek : (gI s 19459 (tF s) + gI s 18434 (fPr s (tF s)) + k).toInt = fBs s (tF s) + pNr s (fPr s (tF s)) + k.toInt := by rw [ktI_add, ef] <;> omega
      have hi : 0 ≤ gI s 19459 (tF s) + gI s 18434 (fPr s (tF s)) + k ∧ gI s 19459 (tF s) + gI s 18434 (fPr s (tF s)) + k < 4000 := by
        rw [i32_le, i32_lt]
        omega
      have co := (xt.w.hi.dep xt.w.cur).1
      have v := co.2.1.2 (gI s 19459 (tF s) + gI s 18434 (fPr s (tF s)) + k) hi.1 (by
        rw [show oU t (mCur t) = oU s (mCur s) from by rw [show mCur t = mCur s from gt _ _]; exact gt _ _, i32_lt, ek]
        omega)
      simp only [M_St_takeFurther_j121, M_St_takeFurther_j148, M_St_takeFurther_j167, ok_B, ok_C, ok_R, ok_L, ok_K, ok_GI, ok_GL, ok_PI, ok_PL, ok_AI, ok_AL, ok_SI, ok_SL, ok_CI, cmp_lt, cmp_le, cmp_gt, cmp_ge, cmp_eq, nar0, nar1, Sum.elim_inl, Sum.elim_inr, ok_PzT, ok_PzC, ok_PzP, ok_PrC, ok_PrP, ok_PrF, ok_PrN, ok_Ln, ok_CL, ok_Nw, ok_S, ok_Ks, ok_Nz]
      rw [xt.o.2.1, b1]
      exact ⟨fun z => absurd z (by decide), fun _ => ⟨xt.w.cur.1, hi, fun z => absurd z (by decide), fun _ => ⟨xt.w.cur.1, hi, setk _ _ v⟩⟩⟩
theorem loopTake_ok {s : S1} {n : Nat × Nat} {i w : Int32} (x : Ix s n i w) (hp : gI s 19461 (tF s) = i + 1) (ho : (dO w).toInt = 39 ∨ (dO w).toInt = 40 ∨ (dO w).toInt = 42 ∨ (dO w).toInt = 45) : ok M_St_loopOrTake s (fun _ t => ((dO w).toInt ≠ 45 ∧ Os s n i w t) ∨ ((dO w).toInt = 45 ∧ (((dB w ≠ 0) ∧ Oi s n i w t) ∨ (dB w = 0 ∧ Oo s n i w t)))) := by
  have dAi := dA_in w
  have e1 : (1 : Int32).toInt = 1 := rfl
  have e2 : (2 : Int32).toInt = 2 := rfl
  have a1 : (dA w + 1).toInt = (dA w).toInt + 1 := by rw [ktI_add] <;> omega
  have a2 : (dA w + 2).toInt = (dA w).toInt + 2 := by rw [ktI_add] <;> omega
  obtain ⟨o1, o2, o3, o4, o5⟩ := x.o
  simp only [M_St_loopOrTake, ok_B, ok_C, ok_R, ok_L, ok_K, ok_GI, ok_GL, ok_PI, ok_PL, ok_AI, ok_AL, ok_SI, ok_SL, ok_CI, cmp_lt, cmp_le, cmp_gt, cmp_ge, cmp_eq, nar0, nar1, Sum.elim_inl, Sum.elim_inr, ok_PzT, ok_PzC, ok_PzP, ok_PrC, ok_PrP, ok_PrF, ok_PrN, ok_Ln, ok_CL, ok_Nw, ok_S, ok_Ks, ok_Nz]
  rw [o1]
  refine ⟨fun o => ?_, fun n9 => ⟨fun o => ?_, fun n0 => ⟨fun o => ?_, fun n2 => ?_⟩⟩⟩
  · have o' := opI o
    refine ok_mono (loop_ok x hp o') ?_
    rintro - t ot
    exact .inl ⟨by rw [o']; decide, ot⟩
  · have o' := opI o
    have h := x.wn.2.2.2.2.2.2.2.2.2.2.2.2.2.2.2.2.2.2.2.2.2.1 o'
    refine ok_mono (hasLoop_ok x h.1) ?_
    rintro r t q
    refine ⟨fun r0 => ?_, fun r0 => ?_⟩
    · rcases q with q | q
      · rw [q.1] at r0
        exact absurd r0 (by decide)
      · exact .inl ⟨by rw [o']; decide, .inl q.2⟩
    · have et : t = s := by
        rcases q with q | q
        · exact q.2
        · exact absurd q.1 r0
      subst et
      rw [x.o.2.1, ok_vO x (x.xr dAi.1 (by omega)), x.o.2.1, ok_vO x (x.xr (by omega) (by omega))]
      refine ok_mono (set_ok x dAi.1 (by omega) (cV.lit (by decide))) ?_
      rintro - u st
      have xu := st.1
      have hu := xu.wn.2.2.2.2.2.2.2.2.2.2.2.2.2.2.2.2.2.2.2.2.2.1 o'
      have eu := tF_eq (fun f j _ => st.2.1 f j)
      refine ok_mono (jump_ok xu (by rw [eu, st.2.1]; exact hp) hu.2) ?_
      rintro - u2 ou
      exact .inl ⟨by rw [o']; decide, Os.trans st.oi (st.2.1 _ _) ou⟩
  · have o' := opI o
    have h := x.wn.2.2.2.2.2.2.2.2.2.2.2.2.2.2.2.2.2.2.2.2.2.2.2.1 o'
    have hx := x.xr (r := dA w + 1) (by omega) (by omega)
    rw [x.o.2.1, ok_kO x hx]
    refine ⟨fun _ => .inl ⟨by rw [o']; decide, .inl (Oi.refl x)⟩, fun _ => ?_⟩
    rw [x.o.2.1, ok_kO x hx, x.o.2.1, ok_vO x hx]
    refine ok_mono (set_ok x dAi.1 (by omega) (x.kv0 hx)) ?_
    rintro - u st
    have xu := st.1
    have hu := xu.wn.2.2.2.2.2.2.2.2.2.2.2.2.2.2.2.2.2.2.2.2.2.2.2.1 o'
    have eu := tF_eq (fun f j _ => st.2.1 f j)
    refine ok_mono (jump_ok xu (by rw [eu, st.2.1]; exact hp) hu.2) ?_
    rintro - u2 ou
    exact .inl ⟨by rw [o']; decide, Os.trans st.oi (st.2.1 _ _) ou⟩
  · have o' : (dO w).toInt = 45 := by
      have m9 : (dO w).toInt ≠ 39 := fun z => n9 (toInt_inj z)
      have m0 : (dO w).toInt ≠ 40 := fun z => n0 (toInt_inj z)
      have m2 : (dO w).toInt ≠ 42 := fun z => n2 (toInt_inj z)
      omega
    refine ok_mono (further_ok x o') ?_
    rintro - t ot
    exact .inr ⟨o', ot⟩
