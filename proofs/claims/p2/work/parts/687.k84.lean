/-! The class: enter, and the number. -/
theorem failM {s : S1} {n : Nat × Nat} {τ : Bool} (e : Int32) (W : cW s n) (F : qFr τ s) (h1 : gI s 18951 (mCur s) = 1) : ok (M_Ma_fail e) s (fun _ t => St5 t n ∧ Om t ≤ Om s) := (fail_st5 e W F h1).wh (hu_mono ((ko_Ma_fail e).h s) fun _ _ k => k.oM)
theorem goOnM {s : S1} {n : Nat × Nat} {c : Int32} (W : cW s n) (F : qFr true s) (h1 : gI s 18951 (mCur s) = 1) (d1 : 1 ≤ (oD s (mCur s)).toInt) (top : fWh s (tF s) ≠ 0) (ac : cAv s c) (s0 : gI s 18951 c = 0) : ok (M_Ma_goOnWith c) s (fun _ t => (St1 t n ∧ Om t + 1200 ≤ Om s) ∨ (St3 t n ∧ Om t ≤ Om s)) := by
  refine ok_mono (((goOn_ok W F h1 d1 top ac s0).wh (goOn_hu c s)).wh ((ko_Ma_goOnWith c).h s)) ?_
  rintro - t ⟨⟨q, g⟩, k⟩
  rcases q with q | q
  · obtain ⟨b, d, -⟩ := g q.2.2.2.1
    exact .inl ⟨q, k.begin ac.1.1 ⟨ac.1.2, ac.2⟩ b (by rw [d]; decide)⟩
  · exact .inr ⟨q, k.oM⟩
/-- how a call of a coroutine may end -/
def Rw (s : S1) (n : Nat × Nat) (t : S1) : Prop := (St1 t n ∧ Om t + 1196 ≤ Om s ∧ (oD s (mCur s)).toInt < 200) ∨ (St3 t n ∧ Om t ≤ Om s + 4 ∧ (oD s (mCur s)).toInt < 200) ∨ (St5 t n ∧ Om t ≤ Om s)
theorem callWrapperM {s : S1} {n : Nat × Nat} {x : Int32} (W : cW s n) (F : qFr true s) (h1 : gI s 18951 (mCur s) = 1) (hx : cLv false s x 9) : ok (M_Ma_callWrapper x) s (fun _ t => Rw s n t) := by
  have H := W.hi
  have l7 := (H.2.1 _ hx.1.1 hx.1.2).2.1.2.2.2.2.2 hx.2.1
  obtain ⟨p1, p2, p3⟩ := (H.2.1 _ l7.1.1 l7.1.2).2.1.2.2.2.1 l7.2.1
  have av : cAv s (cLk s (cLk s x)) := ⟨p1, by rw [p2]; exact l7.1.1⟩
  have fl : ∀ e, ok (M_Ma_fail e) s (fun _ t => Rw s n t) := fun e => ok_mono (failM e W F h1) fun _ t q => .inr (.inr q)
  simp only [M_Ma_callWrapper, M_Ma_coroutineOf, ok_B, ok_C, ok_R, ok_L, ok_K, ok_GI, ok_GL, ok_PI, ok_PL, ok_AI, ok_AL, ok_SI, ok_SL, ok_CI, cmp_lt, cmp_le, cmp_gt, cmp_ge, cmp_eq, nar0, nar1, Sum.elim_inl, Sum.elim_inr, ok_PzT, ok_PzC, ok_PzP, ok_PrC, ok_PrP, ok_PrF, ok_PrN, ok_Ln, ok_CL, ok_Nw, ok_S, ok_Ks, ok_Nz]
  refine ⟨H.1.2 _ hx.1.1 hx.1.2, H.1.2 _ l7.1.1 l7.1.2, p1, p1, fun s0 => ?_, fun _ => fl 9⟩
  refine ⟨W.cur.1, ?_⟩
  refine pushK_ok W F h1 (by decide) (by decide) (.inr hx) ⟨fun _ => fl 4, fun z => absurd rfl z⟩ (fun t Wt Ft pd ps cur lv d1 top st => ⟨fun z => absurd z (by decide), fun _ => ?_⟩)
  have i1 : ∀ f j, f = 19071 ∨ f = 18950 ∨ f = 18951 → gI t f j = gI s f j := fun f j q => pd.1 f j (by unfold miI; omega)
  have om := ps.oM W (by decide)
  have dl := ps.1.1
  refine ok_mono (goOnM (c := cLk s (cLk s x)) Wt Ft st d1 (by rw [top]; decide) ⟨⟨av.1.1, (i1 19071 _ (by decide)).trans av.1.2⟩, by rw [show oSl t (cLk s (cLk s x)) = oSl s (cLk s (cLk s x)) from i1 _ _ (by decide)]; exact av.2⟩ ((i1 _ _ (by decide)).trans s0)) ?_
  rintro - u (⟨h, q⟩ | ⟨h, q⟩)
  · exact .inl ⟨h, by omega, dl⟩
  · exact .inr (.inl ⟨h, by omega, dl⟩)
/-- how enter ends -/
def Re0 (s : S1) (n : Nat × Nat) (t : S1) : Prop := St0 t n ∨ (St2 t n ∧ Om t ≤ Om s ∧ oD t (mCur t) = oD s (mCur s)) ∨ Rw s n t
theorem enterM {s : S1} {n : Nat × Nat} (h : St1 s n) : ok M_Ma_enter s (fun _ t => Re0 s n t) := by
  obtain ⟨W, F, h1, t1, cv⟩ := h
  simp only [M_Ma_enter, ok_B, ok_C, ok_R, ok_L, ok_K, ok_GI, ok_GL, ok_PI, ok_PL, ok_AI, ok_AL, ok_SI, ok_SL, ok_CI, cmp_lt, cmp_le, cmp_gt, cmp_ge, cmp_eq, nar0, nar1, Sum.elim_inl, Sum.elim_inr, ok_PzT, ok_PzC, ok_PzP, ok_PrC, ok_PrP, ok_PrF, ok_PrN, ok_Ln, ok_CL, ok_Nw, ok_S, ok_Ks, ok_Nz]
  refine ok_mono ((enterLoop_ok ⟨W, F, h1, cv⟩).wh ((ko_W ko_Ma_enter_L2 1).h s)) ?_
  rintro e t ⟨⟨⟨Wt, Ft, st, cvt⟩, k6⟩, ko⟩
  have ol := ko.oM
  have ec : mCur t = mCur s := ko.2.2.2.2.1 rfl
  have ed : oD t (mCur t) = oD s (mCur s) := by rw [ec, ko.od]
  have fl : ∀ e, ok (M_Ma_fail e) t (fun _ t => Re0 s n t) := fun e => ok_mono (failM e Wt Ft st) fun _ u q => .inr (.inr (.inr (.inr ⟨q.1, by omega⟩)))
  rcases e with u | u | u
  · simp only [Sum.elim_inl, ok_B, ok_C, ok_R, ok_L, ok_K, ok_GI, ok_GL, ok_PI, ok_PL, ok_AI, ok_AL, ok_SI, ok_SL, ok_CI, cmp_lt, cmp_le, cmp_gt, cmp_ge, cmp_eq, nar0, nar1, Sum.elim_inl, Sum.elim_inr, ok_PzT, ok_PzC, ok_PzP, ok_PrC, ok_PrP, ok_PrF, ok_PrN, ok_Ln, ok_CL, ok_Nw, ok_S, ok_Ks, ok_Nz]
    exact fl 1
  · simp only [Sum.elim_inl, Sum.elim_inr, ok_B, ok_C, ok_R, ok_L, ok_K, ok_GI, ok_GL, ok_PI, ok_PL, ok_AI, ok_AL, ok_SI, ok_SL, ok_CI, cmp_lt, cmp_le, cmp_gt, cmp_ge, cmp_eq, nar0, nar1, Sum.elim_inl, Sum.elim_inr, ok_PzT, ok_PzC, ok_PzP, ok_PrC, ok_PrP, ok_PrF, ok_PrN, ok_Ln, ok_CL, ok_Nw, ok_S, ok_Ks, ok_Nz]
    exact fl 4
  · simp only [Sum.elim_inl, Sum.elim_inr, M_Ma_enter_j103, ok_B, ok_C, ok_R, ok_L, ok_K, ok_GI, ok_GL, ok_PI, ok_PL, ok_AI, ok_AL, ok_SI, ok_SL, ok_CI, cmp_lt, cmp_le, cmp_gt, cmp_ge, cmp_eq, nar0, nar1, Sum.elim_inl, Sum.elim_inr, ok_PzT, ok_PzC, ok_PzP, ok_PrC, ok_PrP, ok_PrF, ok_PrN, ok_Ln, ok_CL, ok_Nw, ok_S, ok_Ks, ok_Nz]
    have kk := k6 u rfl
    rw [kk] at cvt
    refine ⟨fun c => ⟨fun c2 => ?_, fun c2 => ?_⟩, fun _ => fl 7⟩
    · have fv : cLv false t (gL t 16398 0).toInt32 6 ∨ cLv false t (gL t 16398 0).toInt32 9 := by
        rcases cvt with z | z | z
        · exact absurd z.2 (by decide)
        · exact absurd z.1 (by decide)
        · rcases z.2 with y | y
          · exfalso
            rw [Int64.le_iff_toInt_le] at c2
            rw [Int64.lt_iff_toInt_lt] at y
            omega
          · exact y.2
      have pt : pT t (gL t 16398 0).toInt32 := by
        rcases fv with z | z
        · exact Wt.hi.1.2 _ z.1.1 z.1.2
        · exact Wt.hi.1.2 _ z.1.1 z.1.2
      refine ⟨pt, fun t9 => ?_, fun n9 => ?_⟩
      · have l9 : cLv false t (gL t 16398 0).toInt32 9 := by
          rcases fv with z | z
          · have := z.2.1
            rw [show cTy t (gL t 16398 0).toInt32 = 9 from t9] at this
            exact absurd this (by decide)
          · exact z
        refine ok_mono (callWrapperM Wt Ft st l9) ?_
        rintro - v (⟨q, a, b⟩ | ⟨q, a, b⟩ | ⟨q, a⟩)
        · exact .inr (.inr (.inl ⟨q, by omega, by rw [← ed]; exact b⟩))
        · exact .inr (.inr (.inr (.inl ⟨q, by omega, by rw [← ed]; exact b⟩)))
        · exact .inr (.inr (.inr (.inr ⟨q, by omega⟩)))
      · have l6 : cLv false t (gL t 16398 0).toInt32 6 := by
          rcases fv with z | z
          · exact z
          · exact absurd z.2.1 n9
        refine ok_mono ((enterClosure_ok Wt Ft st l6).wh (enterClosure_hu _ t)) ?_
        rintro - v ⟨q | q, d⟩
        · exact .inl q
        · rcases d with d | d
          · have := q.2.2.2.1
            rw [d] at this
            exact absurd this (by decide)
          · have := d.oM
            exact .inr (.inr (.inr (.inr ⟨q, by omega⟩)))
    · obtain ⟨m1, m2, m3⟩ := misc_w (t := sI t 16396 0 2) Wt Ft (fun f j q => by rw [gI_sI, if_neg (fun z => q (by rw [z.1]; unfold miI; decide))]) (fun _ _ _ => rfl) rfl
      have ec2 : mCur (sI t 16396 0 2) = mCur t := by
        show gI (sI t 16396 0 2) 16395 0 = _
        rw [gI_sI, if_neg (fun z => absurd z.1 (by decide))]
      have k2 : Kor true false t (sI t 16396 0 2) := ko_PI5 t () _ rfl
      have := k2.oM
      refine .inr (.inl ⟨⟨m1, m2, ?_, ?_, ?_⟩, by omega, by rw [ec2, k2.od]; exact ed⟩)
      · rw [ec2, gI_sI, if_neg (fun z => absurd z.1 (by decide))]
        exact st
      · rw [gI_sI, if_pos ⟨rfl, rfl⟩]
      · show (gI (sI t 16396 0 2) (128 * 132 + 2) 0).toInt ≤ 250
        rw [gI_sI, if_neg (fun z => absurd z.1 (by decide))]
        rw [i32_le] at c
        exact c
