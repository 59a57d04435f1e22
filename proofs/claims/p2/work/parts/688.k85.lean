/-! The class: perform, and the number. -/
/-- how a built in ends -/
def Rp (s : S1) (n : Nat × Nat) (t : S1) : Prop := (St1 t n ∧ ((Om t ≤ Om s + 4 ∧ (oD t (mCur t)).toInt = (oD s (mCur s)).toInt + 1) ∨ Om t + 1196 ≤ Om s) ∧ (oD s (mCur s)).toInt < 200) ∨ (Pq t n ∧ Om t ≤ Om s + 1200)
theorem Rp.q {α : Type} {f : M α} {s w : S1} {g : α → Nat × Nat} {c u : Bool} (h : ok f w (fun r t => Pq t (g r))) (k : Kok c u f) (o : Om w ≤ Om s + 1200) : ok f w (fun r t => Rp s (g r) t) := ok_mono (h.wh (k.h w)) fun _ t q => .inr ⟨q.1, by have := q.2.oM; omega⟩
theorem psd {s t : S1} {c k fn : Int32} (h : psQ s c k fn 0 t) (d0 : 0 ≤ (oD s c).toInt) : (oD t c).toInt = (oD s c).toInt + 1 := by
  have e1 : (1 : Int32).toInt = 1 := rfl
  have d := h.1.1
  show (gI t 18948 c).toInt = _
  rw [h.2.1, if_pos ⟨rfl, rfl⟩, ktI_add] <;> omega
theorem callProtectedM {s : S1} {n : Nat × Nat} (h : Pf s n) : ok M_Bu_callProtected s (fun _ t => Rp s n t) := by
  have a5 := h.a5
  have W := h.w
  have F := h.1.2.1
  have st := h.1.2.2.1
  have d0 := (W.hi.dep W.cur).2.1.1
  simp only [M_Bu_callProtected, ok_B, ok_C, ok_R, ok_L, ok_K, ok_GI, ok_GL, ok_PI, ok_PL, ok_AI, ok_AL, ok_SI, ok_SL, ok_CI, cmp_lt, cmp_le, cmp_gt, cmp_ge, cmp_eq, nar0, nar1, Sum.elim_inl, Sum.elim_inr, ok_PzT, ok_PzC, ok_PzP, ok_PrC, ok_PrP, ok_PrF, ok_PrN, ok_Ln, ok_CL, ok_Nw, ok_S, ok_Ks, ok_Nz]
  refine ⟨W.cur.1, ?_⟩
  refine pushK_ok W F st (by decide) (by decide) (.inl (by decide)) ⟨fun _ => Rp.q (g := fun _ => n) (h.1.fail 4) (ko_Ma_fail 4) (by omega), fun z => absurd rfl z⟩ (fun t Wt Ft pd ps cur lv d1 top st' => ⟨fun z => absurd z (by decide), fun _ => ?_⟩)
  have om := ps.oM W (by decide)
  have dl := ps.1.1
  have dd := psd ps d0
  have at5 : (rwS t 132).toInt ≤ 512 := by
    rw [ps.row 132 (by decide)]
    exact a5
  have kv := Wt.args.kv (i := 0) (by decide)
  rw [ok_kA at5 (by decide)]
  generalize hk : rk t 132 0 = k at kv ⊢
  have I1 : ∀ f j, f ≠ 16397 → gI (sI t 16397 0 k) f j = gI t f j := fun f j q => by rw [gI_sI, if_neg (fun z => q z.1)]
  have c1 : gI (sI t 16397 0 k) 16397 0 = k := by rw [gI_sI, if_pos ⟨rfl, rfl⟩]
  have r1 : (sI t 16397 0 k).2 = t.2 := rfl
  have o1 : Kor true true t (sI t 16397 0 k) := ko_PI (by decide) t () _ rfl
  generalize sI t 16397 0 k = t1 at I1 c1 r1 o1 ⊢
  have e1 : rwS t1 132 = rwS t 132 := I1 _ _ (by decide)
  have ev : rv t1 132 0 = rv t 132 0 := by
    unfold rv
    rw [e1, show rwV t1 132 0 = rwV t 132 0 from by show t1.2.2.2 _ _ _ = t.2.2.2 _ _ _; rw [r1]]
  rw [ok_vA (by rw [e1]; exact at5) (by decide), ev]
  generalize rv t 132 0 = v at kv ⊢
  have I2 : ∀ f j, f ≠ 16397 → gI (sL t1 16398 0 v) f j = gI t f j := fun f j q => (gI_sL ..).trans (I1 f j q)
  have c2 : gI (sL t1 16398 0 v) 16397 0 = k := (gI_sL ..).trans c1
  have L2 : ∀ f j, f ≠ 16398 → gL (sL t1 16398 0 v) f j = gL t f j := fun f j q => by
    rw [gL_sL, if_neg (fun z => q z.1)]
    show t1.2.1 _ _ = t.2.1 _ _
    rw [r1]
  have c3 : gL (sL t1 16398 0 v) 16398 0 = v := by rw [gL_sL, if_pos ⟨rfl, rfl⟩]
  have r2 : (sL t1 16398 0 v).2.2 = t.2.2 := by
    show t1.2.2 = t.2.2
    rw [r1]
  have o2 : Kor true true t (sL t1 16398 0 v) := o1.trans (ko_PL t1 () _ rfl)
  generalize sL t1 16398 0 v = t2 at I2 c2 L2 c3 r2 o2 ⊢
  obtain ⟨W2, F2, lv2⟩ := misc_w (t := t2) Wt Ft (fun f j q => I2 f j (fun z => q (by rw [z]; unfold miI; decide))) (fun f j q => L2 f j q.1) r2
  refine ok_mono ((rDrop_ok (r := 132) (m := 1) W2.args (by decide)).wh ((ko_Ro_dropFirst 132 0 1 (by decide)).h t2)) ?_
  rintro - u ⟨⟨kx, row, -⟩, o3⟩
  have l := cRx.lw (.inl rfl) kx
  obtain ⟨q1, q2, q3, q4⟩ := cRx.kept (.inl rfl) kx W2 (fun _ => row)
  have Wu := l.w W2 F2.weak q1 q2 q3 q4
  have Fu := l.fr W2 F2 (fun _ => rfl)
  have i3 : ∀ f j, f ≠ 16396 → gI (sI u 16396 0 1) f j = gI u f j := fun f j q => by rw [gI_sI, if_neg (fun z => q z.1)]
  obtain ⟨W3, F3, lv3⟩ := misc_w (t := sI u 16396 0 1) Wu Fu (fun f j q => i3 f j (fun z => q (by rw [z]; unfold miI; decide))) (fun _ _ _ => rfl) rfl
  have o4 : Kor true false t (sI u 16396 0 1) := Kor.trans (o2.trans o3).wu (ko_PI5 u () _ rfl)
  have ol := o4.oM
  have oc : mCur (sI u 16396 0 1) = mCur s := (o4.2.2.2.2.1 rfl).trans cur
  refine .inl ⟨⟨W3, F3, ?_, by rw [gI_sI, if_pos ⟨rfl, rfl⟩], ?_⟩, .inl ⟨by omega, by rw [oc, o4.od]; exact dd⟩, dl⟩
  · rw [show mCur (sI u 16396 0 1) = mCur u from i3 _ _ (by decide), i3 _ _ (by decide), l.cur, kx.1 _ _ (by decide), show mCur t2 = mCur t from I2 _ _ (by decide), I2 _ _ (by decide)]
    exact st'
  · rw [lv3, l.lv', lv2, i3 16397 0 (by decide), kx.1 16397 0 (by decide), c2, show gL (sI u 16396 0 1) 16398 0 = gL u 16398 0 from rfl, kx.2.1, c3]
    exact kv
theorem resumeM {s : S1} {n : Nat × Nat} (h : Pf s n) : ok M_Bu_resume s (fun _ t => Rp s n t) := by
  have a5 := h.a5
  have W := h.w
  have F := h.1.2.1
  have st := h.1.2.2.1
  simp only [M_Bu_resume, ok_B, ok_C, ok_R, ok_L, ok_K, ok_GI, ok_GL, ok_PI, ok_PL, ok_AI, ok_AL, ok_SI, ok_SL, ok_CI, cmp_lt, cmp_le, cmp_gt, cmp_ge, cmp_eq, nar0, nar1, Sum.elim_inl, Sum.elim_inr, ok_PzT, ok_PzC, ok_PzP, ok_PrC, ok_PrP, ok_PrF, ok_PrN, ok_Ln, ok_CL, ok_Nw, ok_S, ok_Ks, ok_Nz]
  refine ok_mono ((hasCoroutine_ok h).wh (ko_Bu_hasCoroutine.h s)) ?_
  rintro r t ⟨⟨r1, et, c⟩ | ⟨r0, q⟩, ko⟩
  · rw [et]
    refine ⟨fun z => by rw [r1] at z; exact absurd z (by decide), fun _ => ?_⟩
    obtain ⟨l7, av⟩ := h.c7 c
    rw [ok_vA a5 (by decide), ok_cOf W l7]
    generalize cLk s (rv s 132 0).toInt32 = d at av ⊢
    refine ⟨av.1, fun s0 => ⟨W.cur.1, ?_⟩, fun _ => ?_⟩
    · refine pushK_ok W F st (by decide) (by decide) (.inl (by decide)) ⟨fun _ => Rp.q (g := fun _ => n) (h.1.fail 4) (ko_Ma_fail 4) (by omega), fun z => absurd rfl z⟩ (fun t Wt Ft pd ps cur lv d1 top st' => ⟨fun z => absurd z (by decide), fun _ => ?_⟩)
      have om := ps.oM W (by decide)
      have dl := ps.1.1
      refine ok_mono ((rDrop_ok (r := 132) (m := 1) Wt.args (by decide)).wh ((ko_Ro_dropFirst 132 0 1 (by decide)).h t)) ?_
      rintro - u ⟨⟨kx, row, -⟩, o3⟩
      have ol := o3.oM
      have l := cRx.lw (.inl rfl) kx
      obtain ⟨q1, q2, q3, q4⟩ := cRx.kept (.inl rfl) kx Wt (fun _ => row)
      have Wu := l.w Wt Ft.weak q1 q2 q3 q4
      have Fu := l.fr Wt Ft (fun _ => rfl)
      have i1 : ∀ f j, f = 19071 ∨ f = 18950 ∨ f = 18951 → gI u f j = gI s f j := fun f j q => (kx.1 f j (by omega)).trans (pd.1 f j (by unfold miI; omega))
      refine ok_mono (goOnM (c := d) Wu Fu ?_ ?_ ?_ ⟨⟨av.1.1, (i1 19071 _ (by decide)).trans av.1.2⟩, by rw [show oSl u d = oSl s d from i1 _ _ (by decide)]; exact av.2⟩ ((i1 _ _ (by decide)).trans s0)) ?_
      · rw [l.cur, kx.1 _ _ (by decide)]
        exact st'
      · rw [l.cur, l.dep]
        exact d1
      · rw [l.etF, show fWh u (tF t) = fWh t (tF t) from kx.1 _ _ (by decide), top]
        decide
      · rintro - v (⟨q, b⟩ | ⟨q, b⟩)
        · exact .inl ⟨q, .inr (by omega), dl⟩
        · exact .inr ⟨.inl q, by omega⟩
    · refine ok_mono ((h.1.add (cV.lit (by decide))).wh ((ko_Ro_add 135 0 1 0 (by decide)).h s)) ?_
      rintro - u ⟨⟨q, -⟩, k⟩
      have := k.oM
      exact Rp.q (g := fun _ => n) (q.addP (cV.lit (by decide))) (ko_Ro_add 135 0 3 9 (by decide)) (by omega)
  · have := ko.oM
    exact ⟨fun _ => .inr ⟨.inr q, by omega⟩, fun z => absurd r0 z⟩
theorem makeTextM {s : S1} {n : Nat × Nat} (h : Pf s n) (z0 : rwS s 135 = 0) : ok (M_Bu_makeText n) s (fun r t => Rp s r.2 t) := by
  have a5 := h.a5
  have W := h.w
  have H := W.hi
  have F := h.1.2.1
  have st := h.1.2.2.1
  have d0 := (W.hi.dep W.cur).2.1.1
  have kv := h.kv (i := 0) (by decide)
  simp only [M_Bu_makeText, ok_B, ok_C, ok_R, ok_L, ok_K, ok_GI, ok_GL, ok_PI, ok_PL, ok_AI, ok_AL, ok_SI, ok_SL, ok_CI, cmp_lt, cmp_le, cmp_gt, cmp_ge, cmp_eq, nar0, nar1, Sum.elim_inl, Sum.elim_inr, ok_PzT, ok_PzC, ok_PzP, ok_PrC, ok_PrP, ok_PrF, ok_PrN, ok_Ln, ok_CL, ok_Nw, ok_S, ok_Ks, ok_Nz]
  rw [ok_kA a5 (by decide), ok_vA a5 (by decide)]
  generalize rk s 132 0 = k at kv ⊢
  generalize rv s 132 0 = v at kv ⊢
  refine ok_mono (findEvent_ok H k v 20 (fun z => by rw [z] at kv; exact kv.at5) (by decide)) ?_
  rintro p t ⟨et, hp⟩
  rw [et]
  refine ⟨fun _ => ⟨fun k4 => ?_, fun _ => ?_⟩, fun c => ?_⟩
  · rw [k4] at kv
    exact Rp.q (g := fun _ => n) (h.1.addP kv) (ko_Ro_add 135 0 4 v (by decide)) (by omega)
  · refine ok_mono ((describe_ok W kv).wh ((ko_Bu_describe n k v).h s)) ?_
    rintro r u ⟨q, k1⟩
    obtain ⟨pf, z⟩ := q.pf h z0
    refine ok_mono ((intern_ok pf.w.hr q.2.2.1 118 0 0 _ (.inr (.inl rfl)) (fun y => wk_src q.2.2.1 q.2.1 y)).wh ((ko_He_intern _ 118 0 0 _).h u)) ?_
    rintro x y ⟨w, k2⟩
    have := k1.oM
    have := k2.oM
    exact Rp.q (g := fun _ => x.2) (madeS_ok pf z w) (ko_Bu_addMade 4 _) (by omega)
  · have it : inT s p := by
      rcases hp with z | z
      · rw [z] at c
        exact absurd (show (-1 : Int32) < 0 by decide) c
      · exact z.2.1
    refine ⟨W.cur.1, ?_⟩
    refine pushK_ok W F st (by decide) (by decide) (.inl (by decide)) ⟨fun _ => Rp.q (g := fun _ => n) (h.1.fail 4) (ko_Ma_fail 4) (by omega), fun z => absurd rfl z⟩ (fun t Wt Ft pd ps cur lv d1 top st' => ⟨fun z => absurd z (by decide), fun _ => ?_⟩)
    have om := ps.oM W (by decide)
    have dl := ps.1.1
    have dd := psd ps d0
    have it' : inT t p := by
      obtain ⟨y, i, hy, i0, i1, e⟩ := it
      have gi : ∀ f j, f / 128 = 145 → gI t f j = gI s f j := fun f j q => pd.1 f j (by unfold miI; omega)
      exact ⟨y, i, by rw [lv]; exact hy, i0, by rw [show cE t y = cE s y from gi _ _ (by decide)]; exact i1, by rw [show cS0 t y = cS0 s y from gi _ _ (by decide)]; exact e⟩
    refine ok_mono ((callEntry_ok Wt.hi it' (by rw [lv]; exact kv) (cV.lit (by decide))).wh ((ko_Ma_callEntry p k v 0 0).h t)) ?_
    rintro - u ⟨⟨ce, r2⟩, k1⟩
    have ce' : ceQ t (sI u 16898 0 1) := by
      obtain ⟨c1, c2, c3, c4, c5, c6, c7, c8⟩ := ce
      refine ⟨fun f j q => ?_, c2, c3, c4, ?_, ?_, ?_, ?_⟩
      · rw [gI_sI, if_neg (fun z => q.2.2 z.1)]
        exact c1 f j q
      · rw [gI_sI, if_neg (fun z => absurd z.1 (by decide))]
        exact c5
      · rw [gI_sI, if_neg (fun z => absurd z.1 (by decide))]
        exact c6
      · refine ⟨?_, fun j j0 j1 => ?_⟩
        · show 0 ≤ gI (sI u 16898 0 1) 16898 0 ∧ gI (sI u 16898 0 1) 16898 0 ≤ 512
          rw [gI_sI, if_pos ⟨rfl, rfl⟩]
          decide
        · change j < gI (sI u 16898 0 1) 16898 0 at j1
          rw [gI_sI, if_pos ⟨rfl, rfl⟩] at j1
          refine c7.2 j j0 ?_
          show j < rwS u 132
          rw [i32_lt] at j1 ⊢
          have e1 : (1 : Int32).toInt = 1 := rfl
          omega
      · show (gI (sI u 16898 0 1) 16898 0).toInt ≤ 3
        rw [gI_sI, if_pos ⟨rfl, rfl⟩]
        decide
    have o4 : Kor true false t (sI u 16898 0 1) := Kor.trans k1 (ko_PI (by decide) u () _ rfl)
    generalize sI u 16898 0 1 = u' at ce' o4
    have ol := o4.oM
    have l := ce'.lw
    obtain ⟨q1, q2, q3, q4⟩ := ce'.kept Wt
    refine .inl ⟨⟨l.w Wt Ft.weak q1 q2 q3 q4, l.fr Wt Ft (fun _ => rfl), ?_, ce'.2.2.2.2.1, by rw [l.lv']; exact ce'.2.2.2.2.2.1⟩, .inl ⟨by omega, by rw [l.cur, cur, o4.od]; exact dd⟩, dl⟩
    rw [l.cur, ce'.1 18951 _ (by decide)]
    exact st'
theorem createM {s : S1} {n : Nat × Nat} (h : Pf s n) (z0 : rwS s 135 = 0) : ok (M_Bu_create n) s (fun r t => Rp s r.2 t) := by
  have a5 := h.a5
  have W := h.w
  simp only [M_Bu_create, ok_B, ok_C, ok_R, ok_L, ok_K, ok_GI, ok_GL, ok_PI, ok_PL, ok_AI, ok_AL, ok_SI, ok_SL, ok_CI, cmp_lt, cmp_le, cmp_gt, cmp_ge, cmp_eq, nar0, nar1, Sum.elim_inl, Sum.elim_inr, ok_PzT, ok_PzC, ok_PzP, ok_PrC, ok_PrP, ok_PrF, ok_PrN, ok_Ln, ok_CL, ok_Nw, ok_S, ok_Ks, ok_Nz]
  refine ok_mono ((hasFunction_ok h).wh (ko_Bu_hasFunction.h s)) ?_
  rintro r t ⟨⟨r1, et, c⟩ | ⟨r0, q⟩, ko⟩
  · rw [et]
    refine ⟨fun z => by rw [r1] at z; exact absurd z (by decide), fun _ => ?_⟩
    rw [ok_vA a5 (by decide)]
    refine ok_mono (makeCo_ok W.hr W.ro W.sf _ (h.f6 c)) ?_
    rintro x u q
    have o := q.oM
    obtain ⟨mk, d⟩ := q.w W h.1.2.1
    refine Rp.q (g := fun _ => x.2) (made_ok (mk.pf h z0).1.1 ?_) (ko_Bu_addMade 7 _) (by omega)
    rcases d with z | z
    · exact .inl (neg_of z)
    · exact .inr (cV.obj (.inr (.inr rfl)) z.1 z.2)
  · have := ko.oM
    exact ⟨fun _ => .inr ⟨.inr q, by omega⟩, fun z => absurd r0 z⟩
theorem wrapM {s : S1} {n : Nat × Nat} (h : Pf s n) (z0 : rwS s 135 = 0) : ok (M_Bu_wrap n) s (fun r t => Rp s r.2 t) := by
  have a5 := h.a5
  have W := h.w
  have F := h.1.2.1
  simp only [M_Bu_wrap, M_Bu_wrap_j78, ok_B, ok_C, ok_R, ok_L, ok_K, ok_GI, ok_GL, ok_PI, ok_PL, ok_AI, ok_AL, ok_SI, ok_SL, ok_CI, cmp_lt, cmp_le, cmp_gt, cmp_ge, cmp_eq, nar0, nar1, Sum.elim_inl, Sum.elim_inr, ok_PzT, ok_PzC, ok_PzP, ok_PrC, ok_PrP, ok_PrF, ok_PrN, ok_Ln, ok_CL, ok_Nw, ok_S, ok_Ks, ok_Nz]
  refine ok_mono ((hasFunction_ok h).wh (ko_Bu_hasFunction.h s)) ?_
  rintro r t ⟨⟨r1, et, c⟩ | ⟨r0, q⟩, ko⟩
  · rw [et]
    refine ⟨fun z => by rw [r1] at z; exact absurd z (by decide), fun _ => ?_⟩
    rw [ok_vA a5 (by decide)]
    refine ok_mono (makeCo_ok W.hr W.ro W.sf _ (h.f6 c)) ?_
    rintro ⟨x, m⟩ u q
    have o := q.oM
    obtain ⟨mk, d⟩ := q.w W F
    dsimp only at mk d ⊢
    obtain ⟨pf, zu⟩ := mk.pf h z0
    refine ⟨fun x0 => ?_, fun _ => Rp.q (g := fun _ => m) (pf.1.fail _) (ko_Ma_fail _) (by omega)⟩
    have l7 : cLv false u x 7 := by
      rcases d with z | z
      · exact absurd x0 (by rcases z with z | z <;> rw [z] <;> decide)
      · exact z.2
    have vx : cV (cLv false u) 7 x.toInt64 := cV.obj (.inr (.inr rfl)) x0 l7
    refine ok_mono ((rFirst_ok (r := 132) pf.w.args vx).wh ((ko_Ro_addFirst 132 0 7 _ (by decide)).h u)) ?_
    rintro - u1 ⟨⟨kx, row, rf, rl⟩, k1⟩
    have o1 := k1.oM
    have s3 := pf.1.arg kx row
    have zu1 : rwS u1 135 = 0 := (kx.1 _ _ (by decide)).trans zu
    have an := pf.2
    obtain ⟨f1, f2, f3⟩ := rf (by omega)
    refine ok_mono ((wrapMk (c := x) s3.1 s3.2.1 (fun s0 g h0 => ?_)).wh ((ko_He_make _ 9 0 0).h u1)) ?_
    · have m0 := s3.1.mg s3.2.1 g h0
      have w := args_m m0.1.rt m0.2.2 (i := 0) (by decide)
      have e0 : (0 : Int32).toInt = 0 := rfl
      have nz : ¬ rwS u1 132 ≤ 0 := fun z => by
        rw [i32_le] at z
        have := pf.w.args.n
        omega
      unfold rk rv at w
      rw [if_neg nz, if_neg nz, f2, f3] at w
      have := w.at7
      rw [i64_32] at this
      exact this
    · rintro ⟨y, m2⟩ u2 ⟨⟨y0, k2⟩ | ⟨y0, py, k2, l9⟩, k3⟩
      · dsimp only at y0 k2 ⊢
        have o2 := k3.oM
        exact ⟨fun _ => Rp.q (g := fun _ => m2) (made_ok (k2.st3 s3 (cRow.nil ((k2.2.2.1 _ _ (.inl (by decide))).trans zu1))) (.inl y0)) (ko_Bu_addMade 6 _) (by omega), fun z => absurd y0 z⟩
      · dsimp only at y0 py k2 l9 ⊢
        refine ⟨fun z => ?_, fun _ => ⟨py, ?_⟩⟩
        · rw [i32_lt] at z
          rw [i32_le] at y0
          omega
        · have k4 : Kor true true u2 (sI u2 18564 y x) := ko_PI (by decide) u2 () _ rfl
          have o2 := k3.oM
          have o3 := k4.oM
          exact Rp.q (g := fun _ => m2) (made_ok (k2.st3 s3 (cRow.nil ((k2.2.2.1 _ _ (.inl (by decide))).trans zu1))) (.inr (cV.fun_ y0 (.inr l9)))) (ko_Bu_addMade 6 _) (by omega)
  · have := ko.oM
    exact ⟨fun _ => .inr ⟨.inr q, by omega⟩, fun z => absurd r0 z⟩
theorem giveWayM {s : S1} {n : Nat × Nat} (h : Pf s n) : ok M_Bu_giveWay s (fun _ t => Rp s n t) := by
  have W := h.w
  simp only [M_Bu_giveWay, ok_B, ok_C, ok_R, ok_L, ok_K, ok_GI, ok_GL, ok_PI, ok_PL, ok_AI, ok_AL, ok_SI, ok_SL, ok_CI, cmp_lt, cmp_le, cmp_gt, cmp_ge, cmp_eq, nar0, nar1, Sum.elim_inl, Sum.elim_inr, ok_PzT, ok_PzC, ok_PzP, ok_PrC, ok_PrP, ok_PrF, ok_PrN, ok_Ln, ok_CL, ok_Nw, ok_S, ok_Ks, ok_Nz]
  refine ⟨W.cur.1, fun c => ?_, fun _ => Rp.q (g := fun _ => n) (h.1.fail 9) (ko_Ma_fail 9) (by omega)⟩
  refine ok_mono (h.1.take.wh ((ko_Ro_takeAll 135 0 132 0 (by decide) (by decide)).h s)) ?_
  rintro - t ⟨⟨q, k⟩, k1⟩
  have o1 := k1.oM
  have hr : 0 ≤ oRs t (mCur t) := by
    rw [show mCur t = mCur s from k.1 _ _ (by decide), show oRs t (mCur s) = oRs s (mCur s) from k.1 _ _ (by decide)]
    exact c
  refine ok_mono ((handOver_ok (l := 0) q.1 q.2.1 q.2.2.1 q.2.2.2.2 hr (.inl rfl)).wh (handOver_hu q.1 q.2.1 hr)) ?_
  rintro - u ⟨z, o2⟩
  exact .inr ⟨z, by omega⟩
