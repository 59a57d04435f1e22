/-! The class: values are gathered; frames are cut off. -/
def gaQ (s : S1) (n : Nat × Nat) (i w : Int32) (r : Nat) (q : Int32) (t : S1) : Prop := (q = 0 ∧ Oi s n i w t ∧ gI t 16396 0 = 5) ∨ (q = 1 ∧ Oi s n i w t ∧ gI t 16396 0 = gI s 16396 0 ∧ cRow (cLv false t) t r)
theorem gather37_ok {s : S1} {n : Nat × Nat} {i w a e fu : Int32} {r : Nat} (x : Ix s n i w) (hr : r = 132 ∨ r = 135) (a0 : 0 ≤ a.toInt ∧ a.toInt ≤ 1000) (e1 : -10 ≤ e.toInt ∧ e.toInt ≤ pNr s (fPr s (tF s))) (hf : 0 ≤ fu.toInt ∧ fu.toInt ≤ (rwS s 138).toInt) : ok (M_St_gather_j37 r 0 a e fu) s (gaQ s n i w r) := by
  have nr := x.nr
  have c0 : (0 : Int32).toInt = 0 := rfl
  have c1 : (1 : Int32).toInt = 1 := rfl
  have hn := x.w.opn.n
  simp only [M_St_gather_j37, ok_B, ok_C, ok_R, ok_L, ok_K, ok_GI, ok_GL, ok_PI, ok_PL, ok_AI, ok_AL, ok_SI, ok_SL, ok_CI, cmp_lt, cmp_le, cmp_gt, cmp_ge, cmp_eq, nar0, nar1, Sum.elim_inl, Sum.elim_inr, ok_PzT, ok_PzC, ok_PzP, ok_PrC, ok_PrP, ok_PrF, ok_PrN, ok_Ln, ok_CL, ok_Nw, ok_S, ok_Ks, ok_Nz]
  refine ⟨fun _ => ?_, fun _ => ?_⟩
  · refine ok_mono (rClear_ok r s) ?_
    rintro - s2 ⟨k2, z2⟩
    have hr4 : r = 132 ∨ r = 135 ∨ r = 138 ∨ r = 141 := by omega
    refine ok_mono (P := fun (y : Nat × Int32 × Int32) t => (y = (r, 0, fu)) ∧ cRx r s t ∧ cRow (cLv false s) t r) (ok_W (fun y t => (y.1 = r ∧ y.2.1 = 0 ∧ y.2.2.1 = e ∧ y.2.2.2.1 = fu) ∧ (a.toInt ≤ y.2.2.2.2.toInt ∧ y.2.2.2.2.toInt ≤ 1000) ∧ cRx r s t ∧ cRow (cLv false s) t r) (fun y _ => (e.toInt - y.2.2.2.2.toInt).toNat) ?_ (r, 0, e, fu, a) s2 ⟨⟨rfl, rfl, rfl, rfl⟩, ⟨Int.le_refl _, a0.2⟩, k2, cRow.nil z2⟩) ?_
    · rintro ⟨r', u, e', fu', k⟩ t ⟨⟨q1, q2, q3, q4⟩, ⟨b1, b2⟩, kx, rw_⟩
      dsimp only at q1 q2 q3 q4 b1 b2
      subst q1 q2 q3 q4
      simp only [M_St_gather_L70, ok_B, ok_C, ok_R, ok_L, ok_K, ok_GI, ok_GL, ok_PI, ok_PL, ok_AI, ok_AL, ok_SI, ok_SL, ok_CI, cmp_lt, cmp_le, cmp_gt, cmp_ge, cmp_eq, nar0, nar1, Sum.elim_inl, Sum.elim_inr, ok_PzT, ok_PzC, ok_PzP, ok_PrC, ok_PrP, ok_PrF, ok_PrN, ok_Ln, ok_CL, ok_Nw, ok_S, ok_Ks, ok_Nz]
      refine ⟨fun _ => ⟨by trivial, kx, rw_⟩, fun c => ?_⟩
      rw [i32_le] at c
      have xt := cRx.ix hr4 kx x (fun _ => rw_)
      have lw' := cRx.lw hr4 kx
      have hk : xOk t k := by
        refine xt.xr (by omega) ?_
        rw [lw'.etF]
        show k.toInt < (gI t 18434 (gI t 19458 (tF s))).toInt
        rw [kx.1 _ _ (by omega), kx.1 _ _ (by omega)]
        show k.toInt < pNr s (fPr s (tF s))
        omega
      rw [ok_kO xt hk, ok_vO xt hk]
      have kv := xt.kv0 hk
      rw [lw'.lv'] at kv
      refine ok_mono (rAdd_ok (L := cLv false s) rw_ kv) ?_
      rintro - u ⟨ku, ru, -, -⟩
      have ek : (k + 1).toInt = k.toInt + 1 := by rw [ktI_add] <;> omega
      exact ⟨⟨⟨trivial, trivial, trivial, trivial⟩, ⟨by omega, by omega⟩, kx.trans ku, ru⟩, by omega⟩
    · rintro y t ⟨ey, kx, rw_⟩
      subst ey
      dsimp only
      refine ok_mono (P := fun (_ : Unit) u => cRx r s u ∧ cRow (cLv false s) u r) (ok_W (fun y u => (y.1 = r ∧ y.2.1 = 0 ∧ y.2.2.1 = fu) ∧ (0 ≤ y.2.2.2.toInt ∧ y.2.2.2.toInt ≤ fu.toInt) ∧ cRx r s u ∧ cRow (cLv false s) u r) (fun y _ => (fu.toInt - y.2.2.2.toInt).toNat) ?_ (r, 0, fu, 0) t ⟨⟨rfl, rfl, rfl⟩, ⟨Int.le_refl _, by dsimp only; omega⟩, kx, rw_⟩) ?_
      · rintro ⟨r', u0, fu', k⟩ u ⟨⟨q1, q2, q3⟩, ⟨b1, b2⟩, ku, ru⟩
        dsimp only at q1 q2 q3 b1 b2
        subst q1 q2 q3
        simp only [M_St_gather_L102, ok_B, ok_C, ok_R, ok_L, ok_K, ok_GI, ok_GL, ok_PI, ok_PL, ok_AI, ok_AL, ok_SI, ok_SL, ok_CI, cmp_lt, cmp_le, cmp_gt, cmp_ge, cmp_eq, nar0, nar1, Sum.elim_inl, Sum.elim_inr, ok_PzT, ok_PzC, ok_PzP, ok_PrC, ok_PrP, ok_PrF, ok_PrN, ok_Ln, ok_CL, ok_Nw, ok_S, ok_Ks, ok_Nz]
        refine ⟨fun _ => ⟨ku, ru⟩, fun c => ?_⟩
        rw [i32_le] at c
        have hi : 0 ≤ k ∧ k < 512 := by
          rw [i32_le, i32_lt]
          show (0 : Int) ≤ _ ∧ _ < (512 : Int)
          omega
        have v : cV (cLv false s) (gA u 139 0 k) (gB u 140 0 k) := by
          rw [ku.2.2.1 139 _ _ (by omega), ku.2.2.2 140 _ _ (by omega)]
          exact x.w.opn.2 k hi.1 (by show k < rwS s 138; rw [i32_lt]; omega)
        refine ⟨hi, hi, ?_⟩
        refine ok_mono (rAdd_ok (L := cLv false s) ru v) ?_
        rintro - u2 ⟨k3, r3, -, -⟩
        have ek : (k + 1).toInt = k.toInt + 1 := by rw [ktI_add] <;> omega
        exact ⟨⟨⟨trivial, trivial, trivial⟩, ⟨by omega, by omega⟩, ku.trans k3, r3⟩, by omega⟩
      · rintro - u ⟨ku, ru⟩
        have ou := cRx.oi hr4 ku x (fun _ => ru)
        refine ok_mono (rClear_ok 138 u) ?_
        rintro - v ⟨kv, zv⟩
        have ov := cRx.oi (.inr (.inr (.inl rfl))) kv ou.1 (fun _ => cRow.nil zv)
        have tu : gI u 16396 0 = gI s 16396 0 := ku.1 _ _ (by omega)
        have l2 := cRx.lw (.inr (.inr (.inl rfl))) kv
        refine .inr ⟨rfl, ou.trans tu ov, (kv.1 _ _ (by decide)).trans tu, ?_⟩
        rw [l2.lv', (cRx.lw hr4 ku).lv']
        exact ru.up (fun _ _ q => q) (kv.1 _ _ (by omega)) (fun j => kv.2.2.1 _ _ _ (by omega)) (fun j => kv.2.2.2 _ _ _ (by omega))
  · refine ok_mono (failJ_ok 7 x) ?_
    rintro - t ot
    exact .inl ⟨rfl, ot⟩
theorem gather_ok {s : S1} {n : Nat × Nat} {i w a m : Int32} {r : Nat} (x : Ix s n i w) (hr : r = 132 ∨ r = 135) (a0 : 0 ≤ a.toInt ∧ a.toInt ≤ 1000) (hm : 0 ≤ m → m.toInt ≤ 1000 ∧ a.toInt + m.toInt ≤ pNr s (fPr s (tF s))) (hp : ¬ 0 ≤ m → 0 ≤ (gI s 16390 0).toInt ∧ (gI s 16390 0).toInt ≤ pNr s (fPr s (tF s))) : ok (M_St_gather r 0 a m) s (gaQ s n i w r) := by
  have c0 : (0 : Int32).toInt = 0 := rfl
  have hn := x.w.opn.n
  have nr := x.nr
  simp only [M_St_gather, M_St_gather_j17, ok_B, ok_C, ok_R, ok_L, ok_K, ok_GI, ok_GL, ok_PI, ok_PL, ok_AI, ok_AL, ok_SI, ok_SL, ok_CI, cmp_lt, cmp_le, cmp_gt, cmp_ge, cmp_eq, nar0, nar1, Sum.elim_inl, Sum.elim_inr, ok_PzT, ok_PzC, ok_PzP, ok_PrC, ok_PrP, ok_PrF, ok_PrN, ok_Ln, ok_CL, ok_Nw, ok_S, ok_Ks, ok_Nz]
  refine ⟨fun c => ⟨fun _ => ?_, fun d => absurd c d⟩, fun c => ⟨fun d => absurd d c, fun _ => ?_⟩⟩
  · have h := hm c
    rw [i32_le] at c
    have e : (a + m).toInt = a.toInt + m.toInt := by rw [ktI_add] <;> omega
    exact gather37_ok x hr a0 ⟨by omega, by omega⟩ ⟨Int.le_refl _, by rw [c0]; exact hn.1⟩
  · have h := hp c
    exact gather37_ok x hr a0 ⟨by omega, h.2⟩ ⟨hn.1, Int.le_refl _⟩
/-- the running coroutine's frames are cut off -/
theorem cut_w {s t : S1} {n : Nat × Nat} {τ : Bool} {k : Int32} (W : cW s n) (F : qFr τ s) (k0 : 0 ≤ k) (k1 : k < oD s (mCur s)) (hv : ∀ y, cOp s (mCur s) y → (cPl s y).toInt < fBs s (mCur s * 200 + k))
    (TI : ∀ f j, gI t f j = if f = 18949 ∧ j = mCur s then gI s 19459 (mCur s * 200 + k) else if f = 18948 ∧ j = mCur s then k else gI s f j) (T2 : t.2 = s.2) : cW t n ∧ qFr true t := by
  have ac := W.cur
  obtain ⟨co, dD, dU⟩ := W.hi.dep ac
  have e0 : (0 : Int32).toInt = 0 := rfl
  have e1 : (1 : Int32).toInt = 1 := rfl
  have e200 : (200 : Int32).toInt = 200 := rfl
  have k0' := k0
  have k1' := k1
  rw [i32_le] at k0'
  rw [i32_lt] at k1'
  have I : ∀ f j, f ≠ 18948 ∧ f ≠ 18949 → gI t f j = gI s f j := fun f j q => by rw [TI, if_neg (fun z => q.2 z.1), if_neg (fun z => q.1 z.1)]
  have Ic : ∀ f j, j ≠ mCur s → gI t f j = gI s f j := fun f j q => by rw [TI, if_neg (fun z => q z.2), if_neg (fun z => q z.2)]
  have L : ∀ f j, gL t f j = gL s f j := fun f j => by
    show t.2.1 f j = s.2.1 f j
    rw [T2]
  have A : ∀ a j q, gA t a j q = gA s a j q := fun a j q => by
    show t.2.2.1 a j q = s.2.2.1 a j q
    rw [T2]
  have B : ∀ a j q, gB t a j q = gB s a j q := fun a j q => by
    show t.2.2.2 a j q = s.2.2.2 a j q
    rw [T2]
  have tD : oD t (mCur s) = k := (TI _ _).trans (by simp)
  have tU : oU t (mCur s) = gI s 19459 (mCur s * 200 + k) := (TI _ _).trans (by simp)
  have cur : mCur t = mCur s := I _ _ (by decide)
  have lv : ∀ y u, cLv false t y u ↔ cLv false s y u := fun y u => by
    rw [cLv_f, cLv_f, show cN t = cN s from I _ _ (by decide), show cTy t y = cTy s y from I _ _ (by decide)]
  have lv' : cLv false t = cLv false s := by
    funext y u
    exact propext (lv y u)
  obtain ⟨qc, qf⟩ := F _ ac
  -- bases rise
  have rise : ∀ m : Nat, ∀ j : Int32, 0 ≤ j → j < oD s (mCur s) → (oD s (mCur s)).toInt - j.toInt ≤ m → fBs s (mCur s * 200 + j) ≤ (oU s (mCur s)).toInt := by
    intro m
    induction m with
    | zero =>
      intro j j0 j1 h
      rw [i32_lt] at j1
      omega
    | succ m ih =>
      intro j j0 j1 h
      obtain ⟨w1, w2, w3, w4⟩ := qf j j0 j1
      have j0' := j0
      have j1' := j1
      rw [i32_le] at j0'
      rw [i32_lt] at j1'
      have en : fBs s (mCur s * 200 + j) ≤ fEnd s (mCur s) j := by
        by_cases z : fWh s (mCur s * 200 + j) = 0
        · have v := w4 z
          have kl := W.kl _ v.1.1
          rw [v.1.2] at kl
          have pr := (W.pg.2.2.1 _ kl.1 kl.2).2.2.1.1
          have := v.2.1.1
          have := v.2.2.1
          omega
        · rw [w3 z]
          exact Int.le_refl _
      unfold fEnd at en
      by_cases z : j.toInt + 1 < (oD s (mCur s)).toInt
      · rw [if_pos z] at en
        have ej : (j + 1).toInt = j.toInt + 1 := by rw [ktI_add] <;> omega
        have := ih (j + 1) (by rw [i32_le]; omega) (by rw [i32_lt]; omega) (by omega)
        omega
      · rw [if_neg z] at en
        exact en
  have bk : 0 ≤ fBs s (mCur s * 200 + k) ∧ fBs s (mCur s * 200 + k) ≤ (oU s (mCur s)).toInt := ⟨(qf k k0 k1).2.1.1, rise 200 k k0 k1 (by omega)⟩
  have Hi : cHI t := by
    refine W.hi.cow (c := mCur s) ⟨fun f j _ r1 _ => ?_, fun f j _ _ _ => L f j, fun a j q _ _ => A a j q, fun a j q _ _ => B a j q⟩ (fun _ _ => ?_) (fun y p l m => ?_)
    · by_cases z : f = 18948 ∨ f = 18949
      · exact Ic f j (r1 z)
      · exact I f j (by omega)
    · obtain ⟨w1, ⟨w2, w3⟩, ⟨w4, w5⟩, w6⟩ := co
      refine ⟨?_, ⟨?_, fun j j0 j1 => ?_⟩, ⟨?_, fun j j0 j1 => ?_⟩, fun y l _ => (lv _ _).1 l⟩
      · rw [show oFn t (mCur s) = oFn s (mCur s) from L _ _]
        exact w1
      · rw [tU, i32_le, i32_le]
        show 0 ≤ fBs s (mCur s * 200 + k) ∧ fBs s (mCur s * 200 + k) ≤ 4000
        omega
      · rw [tU, i32_lt] at j1
        change j.toInt < fBs s (mCur s * 200 + k) at j1
        rw [show oRk t (mCur s) j = oRk s (mCur s) j from A _ _ _, show oRv t (mCur s) j = oRv s (mCur s) j from B _ _ _]
        exact w3 j j0 (by rw [i32_lt]; omega)
      · rw [tD, i32_le, i32_le]
        show 0 ≤ _ ∧ _ ≤ (200 : Int)
        omega
      · rw [tD, i32_lt] at j1
        rw [show mFn t (mCur s * 200 + j) = mFn s (mCur s * 200 + j) from I _ _ (by decide), show mJk t (mCur s * 200 + j) = mJk s (mCur s * 200 + j) from I _ _ (by decide), show mJv t (mCur s * 200 + j) = mJv s (mCur s * 200 + j) from L _ _]
        exact w5 j j0 (by rw [i32_lt]; omega)
    · have v := (W.hi.var_v m.1).1
      unfold vKd vVl at v
      rw [m.2, if_pos p.1.1, if_pos p.1.1] at v
      rw [show oRk t (mCur s) (cPl s y) = oRk s (mCur s) (cPl s y) from A _ _ _, show oRv t (mCur s) (cPl s y) = oRv s (mCur s) (cPl s y) from B _ _ _]
      exact v
  have pk : cPk s t := ⟨fun f j q => I f j (by omega), fun a j k _ => A a j k⟩
  have eop : ∀ c y, cOp t c y ↔ cOp s c y := fun c y => by
    unfold cOp
    rw [lv, show cLk t y = cLk s y from I _ _ (by decide)]
  refine ⟨⟨Hi, W.rt.up (fun y u _ l => (lv y u).2 l) (fun f j q => I f j ?_) (fun a j k _ => A a j k) (fun a j k _ => B a j k) (fun y _ => I _ _ (by decide)), (I _ _ (by decide)).trans W.ld, W.sf.congr (fun f j q => I f j ?_), cRo.fi (x := 0) W.ro (fun f j q => I f j (by omega)) (fun j _ => A _ _ _), pk.pg W.pg, fun x l => ?_⟩, fun d a => ?_⟩
  · unfold rtI at q
    omega
  · unfold sfI at q
    omega
  · rw [show cLk t x = cLk s x from I _ _ (by decide)]
    unfold nPr
    rw [I 12937 _ (by decide)]
    exact W.kl x ((lv _ _).1 l)
  · have as : cAv s d := ⟨⟨a.1.1, (I 19071 d (by decide)).symm.trans a.1.2⟩, by rw [← show oSl t d = oSl s d from I _ _ (by decide)]; exact a.2⟩
    have wt : ∀ f, qWt t f ↔ qWt s f := fun f => pk.wt (I _ _ (by decide)) (I _ _ (by decide)) (I _ _ (by decide))
    by_cases q : d = mCur s
    · subst q
      refine ⟨?_, fun j j0 j1 => ?_⟩
      · unfold qTc at qc ⊢
        rw [I 18951 _ (by decide), I 18952 _ (by decide), tD, tU, cur]
        refine ⟨qc.1, fun _ => rfl, fun _ y => absurd rfl y, fun z => ?_, fun z => ?_, fun y m => ?_⟩
        · have := (qc.2.2.2.1 z).2
          rw [this] at k1'
          omega
        · have w := (qf k k0 k1).2.1.2 z
          exact toInt_inj w
        · rw [show cPl t y = cPl s y from I _ _ (by decide)]
          exact hv y ((eop _ _).1 m)
      · rw [tD] at j1
        have j1' := j1
        have j0' := j0
        rw [i32_lt] at j1'
        rw [i32_le] at j0'
        have w := qf j j0 (by rw [i32_lt]; omega)
        have ej : (j + 1).toInt = j.toInt + 1 := by rw [ktI_add] <;> omega
        have en : fEnd t (mCur s) j = fEnd s (mCur s) j := by
          unfold fEnd
          rw [tD, tU, if_pos (show j.toInt + 1 < (oD s (mCur s)).toInt by omega)]
          by_cases z : j.toInt + 1 < k.toInt
          · rw [if_pos z]
            unfold fBs
            rw [I 19459 _ (by decide)]
          · rw [if_neg z]
            have : j + 1 = k := toInt_inj (by omega)
            rw [this]
        unfold qF at w ⊢
        rw [show fWh t (mCur s * 200 + j) = fWh s (mCur s * 200 + j) from I _ _ (by decide), show fPr t (mCur s * 200 + j) = fPr s (mCur s * 200 + j) from I _ _ (by decide), show mFn t (mCur s * 200 + j) = mFn s (mCur s * 200 + j) from I _ _ (by decide), en, wt, lv, show cLk t (mFn s (mCur s * 200 + j)) = cLk s (mFn s (mCur s * 200 + j)) from I _ _ (by decide)]
        unfold fBs fEx pNr at w ⊢
        rw [I 19459 _ (by decide), I 19460 _ (by decide), I 18434 _ (by decide)]
        exact ⟨w.1, w.2.1, w.2.2.1, fun z => ⟨(w.2.2.2 z).1, (w.2.2.2 z).2.1, (w.2.2.2 z).2.2.1, fun _ => (w.2.2.2 z).2.2.2 (.inl (by omega))⟩⟩
    · obtain ⟨qd, qg⟩ := F d as
      have eD : oD t d = oD s d := Ic _ _ q
      have eU : oU t d = oU s d := Ic _ _ q
      refine ⟨?_, fun j j0 j1 => ?_⟩
      · unfold qTc at qd ⊢
        rw [I 18951 _ (by decide), I 18952 _ (by decide), eD, eU, cur, show fWh t (d * 200 + (oD s d - 1)) = fWh s (d * 200 + (oD s d - 1)) from I _ _ (by decide)]
        refine ⟨qd.1, qd.2.1, qd.2.2.1, qd.2.2.2.1, qd.2.2.2.2.1, fun y m => ?_⟩
        rw [show cPl t y = cPl s y from I _ _ (by decide)]
        exact qd.2.2.2.2.2 y ((eop _ _).1 m)
      · rw [eD] at j1
        have w := qg j j0 j1
        have en : fEnd t d j = fEnd s d j := by
          unfold fEnd fBs
          rw [eD, eU, I 19459 _ (by decide)]
        unfold qF at w ⊢
        rw [show fWh t (d * 200 + j) = fWh s (d * 200 + j) from I _ _ (by decide), show fPr t (d * 200 + j) = fPr s (d * 200 + j) from I _ _ (by decide), show mFn t (d * 200 + j) = mFn s (d * 200 + j) from I _ _ (by decide), en, wt, lv, show cLk t (mFn s (d * 200 + j)) = cLk s (mFn s (d * 200 + j)) from I _ _ (by decide)]
        unfold fBs fEx pNr at w ⊢
        rw [I 19459 _ (by decide), I 19460 _ (by decide), I 18434 _ (by decide)]
        exact ⟨w.1, w.2.1, w.2.2.1, fun z => ⟨(w.2.2.2 z).1, (w.2.2.2 z).2.1, (w.2.2.2 z).2.2.1, fun _ => (w.2.2.2 z).2.2.2 (.inr (.inl q))⟩⟩
