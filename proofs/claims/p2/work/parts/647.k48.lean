/-! The class: tables on the way, written by an instruction. -/
def feP (s : S1) (v : Int64) (r : Int32) (s' : S1) : Prop := s' = s ∧ (r = -1 ∨ (0 ≤ r ∧ inT s r ∧ cVk s r ≠ 0 ∧ 0 ≤ cMt s v.toInt32 ∧ hsE s (cMt s v.toInt32) (cVk s r) (cVv s r)))
theorem findEvent2_ok {s : S1} (H : cHI s) (k : Int32) (v : Int64) (ev : Int32) (hk : k = 5 → cLv false s v.toInt32 5) (he : 0 ≤ ev.toInt ∧ ev.toInt < 33) : ok (M_Ta_findEvent k v ev) s (feP s v) := by
  have e0 : (0 : Int32).toInt = 0 := rfl
  have e24 : (24 : Int32).toInt = 24 := rfl
  have e57 : (57 : Int32).toInt = 57 := rfl
  simp only [M_Ta_findEvent, M_Ta_findEvent_j72, ok_B, ok_C, ok_R, ok_L, ok_K, ok_GI, ok_GL, ok_PI, ok_PL, ok_AI, ok_AL, ok_SI, ok_SL, ok_CI, cmp_lt, cmp_le, cmp_gt, cmp_ge, cmp_eq, nar0, nar1, Sum.elim_inl, Sum.elim_inr, ok_PzT, ok_PzC, ok_PzP, ok_PrC, ok_PrP, ok_PrF, ok_PrN, ok_Ln, ok_CL, ok_Nw, ok_S, ok_Ks, ok_Nz]
  refine ⟨fun c => ?_, fun _ => ⟨rfl, .inl rfl⟩⟩
  have hv := hk c
  refine ⟨H.1.2 _ hv.1.1 hv.1.2, fun d => ?_, fun _ => ⟨rfl, .inl rfl⟩⟩
  have ei : ((24 : Int32) + ev).toInt = 24 + ev.toInt := by rw [ktI_add] <;> omega
  have hm : cLv false s (cMt s v.toInt32) 5 := by
    rcases (H.tbv hv).1 with w | w
    · exact absurd d (by rw [i32_le]; rw [i32_lt] at w; show ¬ _ ≤ (cMt s v.toInt32).toInt; omega)
    · exact w
  refine ⟨⟨by rw [i32_le]; omega, by rw [i32_lt]; omega⟩, ?_⟩
  refine ok_mono (find_ok H hm 4 _) ?_
  rintro p s2 ⟨es, hp⟩
  subst es
  refine ⟨fun _ => ⟨rfl, .inl rfl⟩, fun c => ?_⟩
  rcases hp with rfl | ⟨i, i0, i1, rfl⟩
  · exact absurd (show (-1 : Int32) < 0 by decide) c
  · have it : inT s2 (cS0 s2 (cMt s2 v.toInt32) + i) := ⟨_, i, hm, i0, i1, rfl⟩
    have w := it.v H
    exact ⟨w.1, fun _ => ⟨rfl, .inl rfl⟩, fun z => ⟨rfl, .inr ⟨w.1.1, it, z, d, i, i0, i1, rfl, rfl⟩⟩⟩
/-- a table that is reached from another by handlers -/
def rT (s : S1) (b : Int32) : Nat → Int64 → Prop
  | 0, v => v.toInt32 = b
  | n + 1, v => ∃ u, rT s b n u ∧ 0 ≤ cMt s u.toInt32 ∧ hsE s (cMt s u.toInt32) 5 v
theorem hsE.v {s : S1} (H : cHI s) {m : Int32} (hm : cLv false s m 5) {v : Int64} (h : hsE s m 5 v) : cLv false s v.toInt32 5 := by
  obtain ⟨i, i0, i1, k, e⟩ := h
  have w := ((H.tbv hm).2.1 i i0 i1).2
  rw [k, e] at w
  exact w.at5
theorem hsE.dd {s t : S1} {z m k : Int32} {v : Int64} (H : cHI s) (hz : cLv false s z 5) (hm : cLv false s m 5) (d : cDd z s t) (k0 : k ≠ 0) (h : hsE s m k v) : hsE t m k v := by
  by_cases q : m = z
  · rw [q] at h ⊢
    exact d.2 k v k0 h
  · obtain ⟨i, i0, i1, e1, e2⟩ := h
    have tI := H.tI hm
    have lt : i < cR s m := by
      rw [i32_lt] at i1 ⊢
      omega
    have n : ¬ ((0 : Int32) = 0 ∧ cIn s z (cS0 s m + i)) := fun w => tb_dj H hz hm q w.2 (cIn.add H hm i0 lt).1
    refine ⟨i, i0, ?_, ?_, ?_⟩
    · rw [show cE t m = cE s m from d.1.1 _ _ (by decide) (fun _ => q)]
      exact i1
    · rw [(d.1.s0 m).1]
      exact (d.1.2.2.1 _ _ _ (fun _ => n)).trans e1
    · rw [(d.1.s0 m).1]
      exact (d.1.2.2.2 _ _ _ (fun _ => n)).trans e2
theorem hsE.mg {s t : S1} {m k : Int32} {v : Int64} (g : cMg s t) (h : hsE s m k v) : hsE t m k v := by
  rcases g with rfl | ⟨-, g⟩
  · exact h
  · obtain ⟨i, i0, i1, e1, e2⟩ := h
    refine ⟨i, i0, ?_, ?_, ?_⟩
    · rw [show cE t m = cE s m from g.1 _ _ (by decide)]
      exact i1
    · rw [show cS0 t m = cS0 s m from g.1 _ _ (by decide)]
      exact (g.2.2.1 _ _ _ (by decide)).trans e1
    · rw [show cS0 t m = cS0 s m from g.1 _ _ (by decide)]
      exact (g.2.2.2.1 _ _ _).trans e2
theorem rT.live {s s1 s0 : S1} {z b : Int32} (H : cHI s) (hz : cLv false s z 5) (d : cDd z s s1) (g : cMg s1 s0) (h0 : cHI s0) (lb : cLv false s0 b 5) : ∀ n v, rT s b n v → (cLv false s b 5 → cLv false s v.toInt32 5) ∧ (cLv false s b 5 → cLv false s0 v.toInt32 5) := by
  intro n
  induction n with
  | zero =>
    intro v h
    have e : v.toInt32 = b := h
    rw [e]
    exact ⟨fun l => l, fun _ => lb⟩
  | succ n ih =>
    rintro v ⟨u, hu, m0, he⟩
    obtain ⟨a1, a2⟩ := ih u hu
    have mt : cMt s0 u.toInt32 = cMt s u.toInt32 := by
      have e1 : cMt s1 u.toInt32 = cMt s u.toInt32 := (d.1.s0 _).2.2
      rw [← e1]
      rcases g with rfl | ⟨-, g⟩
      · rfl
      · exact g.1 _ _ (by decide)
    have ms : cLv false s b 5 → cLv false s (cMt s u.toInt32) 5 := fun l => by
      rcases (H.tbv (a1 l)).1 with w | w
      · rw [i32_lt] at w
        rw [i32_le] at m0
        omega
      · exact w
    refine ⟨fun l => hsE.v H (ms l) he, fun l => ?_⟩
    have ms0 : cLv false s0 (cMt s u.toInt32) 5 := by
      rcases (h0.tbv (a2 l)).1 with w | w
      · rw [mt, i32_lt] at w
        rw [i32_le] at m0
        omega
      · rw [mt] at w
        exact w
    exact hsE.v h0 ms0 ((he.dd H hz (ms l) d (by decide)).mg g)
/-- a variable's value is the same behind a collection -/
theorem var_mh {s s1 s0 : S1} {z : Int32} (d : cDd z s s1) (g : cMg s1 s0) (y : Int32) : vKd s0 y = vKd s y ∧ vVl s0 y = vVl s y := by
  have tw := d.1
  have I : ∀ f j, f = 18564 ∨ f = 18566 ∨ f = 18567 → gI s1 f j = gI s f j := fun f j q => tw.1 f j (by omega) (fun w => by omega)
  have e1 : vKd s1 y = vKd s y ∧ vVl s1 y = vVl s y := by
    unfold vKd vVl cLk cPl cCk cCv
    rw [I 18564 y (by decide), I 18566 y (by decide), I 18567 y (by decide), tw.2.2.1 149 _ _ (fun w => absurd w (by decide)), tw.2.2.2 150 _ _ (fun w => absurd w (by decide)), tw.2.1]
    exact ⟨rfl, rfl⟩
  rw [← e1.1, ← e1.2]
  rcases g with rfl | ⟨-, g⟩
  · exact ⟨rfl, rfl⟩
  · have ep : cPl s0 y = cPl s1 y := g.1 _ _ (by decide)
    have er : ∀ c k, gA s0 149 c k = gA s1 149 c k := fun c k => g.2.2.1 _ _ _ (by decide)
    have ev : ∀ c k, gB s0 150 c k = gB s1 150 c k := fun c k => g.2.2.2.1 _ _ _
    unfold vKd vVl
    rcases g.2.2.2.2.2.2.2.2.2 y with ⟨w1, w2, w3⟩ | ⟨w1, w2, w3, w4⟩
    · rw [w1, w2, w3, ep, er, ev]
      exact ⟨rfl, rfl⟩
    · have nn : ¬ (0 : Int32) ≤ -1 := by decide
      rw [w1, if_neg nn, if_neg nn, if_pos w2, if_pos w2]
      exact ⟨w3, w4⟩
theorem Ix.uv0 {s s1 s0 : S1} {n : Nat × Nat} {i w u z : Int32} (x : Ix s n i w) (u0 : 0 ≤ u.toInt) (u1 : u.toInt < pNu s (fPr s (tF s))) (d : cDd z s s1) (g : cMg s1 s0) (h0 : cHR s0) : cLv false s0 (uV s u) 8 := by
  obtain ⟨⟨H0, R0, -⟩, F0, km⟩ := cMh.w x.w x.fr (z := z) ⟨s1, d, g⟩ h0
  obtain ⟨a1, a2, a3, a4⟩ := x.2.2.2.2.2.1
  obtain ⟨j, j0, j1, j2, j3, e⟩ := tF_of x.w x.2.2.2.1
  have ofc : ofC s (tF s) := ⟨j, j0, j2, e⟩
  have ac : cAv s0 (mCur s) := by
    obtain ⟨m0, ρ, hl⟩ := R0.2.1
    have := hl.1 m0
    rw [km.cur] at this
    exact ⟨this.1, this.2.1⟩
  have q := ((F0 _ ac).2 j j0 (by rw [show oD s0 (mCur s) = oD s (mCur s) from km.1 _ _ (.inr (.inr (.inl ⟨by decide, by decide, rfl⟩)))]; exact j1)).2.2.2
  rw [← e] at q
  have g2 : ∀ f, f / 128 = 152 → gI s0 f (tF s) = gI s f (tF s) := fun f hf => km.1 _ _ (.inr (.inl ⟨hf, ofc⟩))
  obtain ⟨⟨l6, lk⟩, -⟩ := q ((g2 _ (by decide)).trans x.2.2.2.2.1)
  rw [show mFn s0 (tF s) = mFn s (tF s) from g2 _ (by decide)] at l6 lk
  rw [show fPr s0 (tF s) = fPr s (tF s) from g2 _ (by decide)] at lk
  have pv := (H0.2.1 _ l6.1.1 l6.1.2).2.1.2.2.1 l6.2.1
  rw [lk] at pv
  have eu : cUp s0 (mFn s (tF s)) u = cUp s (mFn s (tF s)) u := by
    have e1 : cUp s1 (mFn s (tF s)) u = cUp s (mFn s (tF s)) u := d.1.2.2.1 _ _ _ (fun w => absurd w (by decide))
    rw [← e1]
    rcases g with rfl | ⟨-, g⟩
    · rfl
    · exact g.2.2.1 _ _ _ (by decide)
  unfold uV
  rw [a2]
  have := pv.2.2.2 u (by rw [i32_le]; exact u0) (by
    rw [show cUc s0 (fPr s (tF s)) = cUc s (fPr s (tF s)) from km.1 _ _ (.inl (by decide)), i32_lt]
    exact u1)
  rw [eu] at this
  exact this
def wtP (s : S1) (k : Int32) (v : Int64) (e : Unit ⊕ Int64 ⊕ (Int32 × Int64 × Int32) ⊕ Unit) (s' : S1) : Prop := s' = s ∧ (∀ u, e = .inr (.inl u) → cLv false s u.toInt32 5 ∧ k = 5 ∧ ∃ m, rT s v.toInt32 m u) ∧ ∀ y, e = .inr (.inr (.inl y)) → cV (cLv false s) y.1 y.2.1 ∧ inT s y.2.2
theorem stWrite_ok {s : S1} {n : Nat × Nat} {i w k : Int32} {v : Int64} (x : Ix s n i w) (hcl : dCl (dO w).toInt) (hB : dQ s (fPr s (tF s)) (dB w)) (hC : dQ s (fPr s (tF s)) (dC w)) (hv : ∀ z s1 s0, cDd z s s1 → cMg s1 s0 → cHR s0 → cV (cLv false s0) k v) : ok (M_St_write k v) s (fun _ t => Oi s n i w t) := by
  have e0 : (0 : Int32).toInt = 0 := rfl
  have e1 : (1 : Int32).toInt = 1 := rfl
  have e100 : (100 : Int32).toInt = 100 := rfl
  have H := x.w.hi
  have HR := x.w.hr
  have hv0 := hv 0 s s (cDd.refl 0 s) (.inl rfl) HR
  obtain ⟨o1, o2, o3, o4, o5⟩ := x.o
  have r0 : rT s v.toInt32 0 v := by
    unfold rT
    rfl
  simp only [M_St_write, ok_B, ok_C, ok_R, ok_L, ok_K, ok_GI, ok_GL, ok_PI, ok_PL, ok_AI, ok_AL, ok_SI, ok_SL, ok_CI, cmp_lt, cmp_le, cmp_gt, cmp_ge, cmp_eq, nar0, nar1, Sum.elim_inl, Sum.elim_inr, ok_PzT, ok_PzC, ok_PzP, ok_PrC, ok_PrP, ok_PrF, ok_PrN, ok_Ln, ok_CL, ok_Nw, ok_S, ok_Ks, ok_Nz]
  refine ok_mono (P := wtP s k v) (ok_W (fun y t => t = s ∧ cV (cLv false s) y.1 y.2.1 ∧ (y.1 = 5 → k = 5 ∧ ∃ m, rT s v.toInt32 m y.2.1) ∧ 0 ≤ y.2.2.toInt ∧ y.2.2.toInt ≤ 100) (fun y _ => (100 - y.2.2.toInt).toNat) ?_ (k, v, 0) s ⟨rfl, hv0, fun z => ⟨z, 0, r0⟩, Int.le_refl _, by dsimp only; omega⟩) ?_
  · rintro ⟨k2, v2, h⟩ t ⟨et, cv, rc, h0, h1⟩
    dsimp only at cv rc h0 h1
    subst et
    simp only [M_St_write_L9, ok_B, ok_C, ok_R, ok_L, ok_K, ok_GI, ok_GL, ok_PI, ok_PL, ok_AI, ok_AL, ok_SI, ok_SL, ok_CI, cmp_lt, cmp_le, cmp_gt, cmp_ge, cmp_eq, nar0, nar1, Sum.elim_inl, Sum.elim_inr, ok_PzT, ok_PzC, ok_PzP, ok_PrC, ok_PrP, ok_PrF, ok_PrN, ok_Ln, ok_CL, ok_Nw, ok_S, ok_Ks, ok_Nz]
    refine ⟨fun _ => ⟨rfl, fun p z => by simp at z, fun y z => by simp at z⟩, fun nh => ⟨fun k5 => ?_, fun _ => ⟨rfl, fun p z => by simp at z, fun y z => by simp at z⟩⟩⟩
    subst k5
    obtain ⟨kk5, m, rm⟩ := rc rfl
    have l5 := cv.at5
    rw [i32_le] at nh
    have eh : (h + 1).toInt = h.toInt + 1 := by rw [ktI_add] <;> omega
    have j93 : ∀ p, (p = -1 ∨ (0 ≤ p ∧ inT t p ∧ cVk t p ≠ 0 ∧ 0 ≤ cMt t v2.toInt32 ∧ hsE t (cMt t v2.toInt32) (cVk t p) (cVv t p))) → ok (M_St_write_j93 5 v2 h p) t (fun y s' => Sum.elim (fun z => (s' = t ∧ cV (cLv false t) z.1 z.2.1 ∧ (z.1 = 5 → k = 5 ∧ ∃ m, rT t v.toInt32 m z.2.1) ∧ 0 ≤ z.2.2.toInt ∧ z.2.2.toInt ≤ 100) ∧ (100 - z.2.2.toInt).toNat < (100 - h.toInt).toNat) (fun e => wtP t k v e s') y) := fun p hp => by
      simp only [M_St_write_j93, ok_B, ok_C, ok_R, ok_L, ok_K, ok_GI, ok_GL, ok_PI, ok_PL, ok_AI, ok_AL, ok_SI, ok_SL, ok_CI, cmp_lt, cmp_le, cmp_gt, cmp_ge, cmp_eq, nar0, nar1, Sum.elim_inl, Sum.elim_inr, ok_PzT, ok_PzC, ok_PzP, ok_PrC, ok_PrP, ok_PrF, ok_PrN, ok_Ln, ok_CL, ok_Nw, ok_S, ok_Ks, ok_Nz]
      refine ⟨fun c => ?_, fun c => ⟨rfl, fun u z => ?_, fun y z => by simp at z⟩⟩
      · rcases hp with rfl | ⟨p0, it, -, m0, he⟩
        · exact absurd c (by decide)
        · obtain ⟨b1, -, b3⟩ := it.v H
          refine ⟨b1, fun _ => ⟨rfl, fun u z => by simp at z, fun y z => ?_⟩, fun _ => ⟨b1, b1, ⟨by trivial, b3, fun z => ⟨kk5, m + 1, v2, rm, m0, ?_⟩, by omega, by omega⟩, by omega⟩⟩
          · simp only [Sum.inr.injEq, Sum.inl.injEq] at z
            subst z
            exact ⟨cv, it⟩
          · rw [show gA t 123 0 p = cVk t p from rfl] at z
            rw [z] at he
            exact he
      · simp only [Sum.inr.injEq, Sum.inl.injEq] at z
        subst z
        exact ⟨l5, kk5, m, rm⟩
    have j81 : ok (M_St_write_j81 5 v2 h) t (fun y s' => Sum.elim (fun z => (s' = t ∧ cV (cLv false t) z.1 z.2.1 ∧ (z.1 = 5 → k = 5 ∧ ∃ m, rT t v.toInt32 m z.2.1) ∧ 0 ≤ z.2.2.toInt ∧ z.2.2.toInt ≤ 100) ∧ (100 - z.2.2.toInt).toNat < (100 - h.toInt).toNat) (fun e => wtP t k v e s') y) := by
      simp only [M_St_write_j81, ok_B, ok_C, ok_R, ok_L, ok_K, ok_GI, ok_GL, ok_PI, ok_PL, ok_AI, ok_AL, ok_SI, ok_SL, ok_CI, cmp_lt, cmp_le, cmp_gt, cmp_ge, cmp_eq, nar0, nar1, Sum.elim_inl, Sum.elim_inr, ok_PzT, ok_PzC, ok_PzP, ok_PrC, ok_PrP, ok_PrF, ok_PrN, ok_Ln, ok_CL, ok_Nw, ok_S, ok_Ks, ok_Nz]
      refine ok_mono (findEvent2_ok H 5 v2 1 (fun _ => l5) (by decide)) ?_
      rintro p u ⟨es, hp⟩
      subst es
      exact j93 p hp
    rw [ok_kO x (x.qB hB), ok_vO x (x.qB hB)]
    refine ok_mono (find_ok H l5 _ _) ?_
    rintro p u ⟨es, hp⟩
    subst es
    refine ⟨fun _ => j81, fun c => ?_⟩
    obtain ⟨b1, -, -⟩ := (fd_inT l5 hp c).v H
    exact ⟨b1, fun _ => j81, fun _ => j93 (-1) (.inl rfl)⟩
  · rintro e t ⟨es, q1, q2⟩
    subst es
    rcases e with u | u | y | u
    · simp only [Sum.elim_inl, Sum.elim_inr, ok_B, ok_C, ok_R, ok_L, ok_K, ok_GI, ok_GL, ok_PI, ok_PL, ok_AI, ok_AL, ok_SI, ok_SL, ok_CI, cmp_lt, cmp_le, cmp_gt, cmp_ge, cmp_eq, nar0, nar1, Sum.elim_inl, Sum.elim_inr, ok_PzT, ok_PzC, ok_PzP, ok_PrC, ok_PrP, ok_PrF, ok_PrN, ok_Ln, ok_CL, ok_Nw, ok_S, ok_Ks, ok_Nz]
      exact failI_ok 2 x
    · simp only [Sum.elim_inl, Sum.elim_inr, ok_B, ok_C, ok_R, ok_L, ok_K, ok_GI, ok_GL, ok_PI, ok_PL, ok_AI, ok_AL, ok_SI, ok_SL, ok_CI, cmp_lt, cmp_le, cmp_gt, cmp_ge, cmp_eq, nar0, nar1, Sum.elim_inl, Sum.elim_inr, ok_PzT, ok_PzC, ok_PzP, ok_PrC, ok_PrP, ok_PrF, ok_PrN, ok_Ln, ok_CL, ok_Nw, ok_S, ok_Ks, ok_Nz]
      obtain ⟨l5, k5, m, rm⟩ := q1 u rfl
      rw [ok_kO x (x.qB hB), ok_vO x (x.qB hB), ok_kO x (x.qC hC), ok_vO x (x.qC hC)]
      have b5 : cLv false t v.toInt32 5 := by
        rw [k5] at hv0
        exact hv0.at5
      refine ok_mono (write_ok HR x.w.ro (fun s0 mh h0 => ?_)) ?_
      · obtain ⟨s1, d, g⟩ := mh
        obtain ⟨⟨H0, R0, -⟩, F0, km⟩ := cMh.w x.w x.fr ⟨s1, d, g⟩ h0
        have c0 := hv _ s1 s0 d g h0
        rw [k5] at c0
        exact ⟨(rT.live H l5 d g H0 c0.at5 m u rm).2 b5, x.kv (x.qB hB) H0 R0 km, x.kv (x.qC hC) H0 R0 km⟩
      · rintro r t2 wq
        obtain ⟨mk, -⟩ := wrQ.w x.w x.fr wq
        have ot := mk.oi x
        refine ⟨fun _ => ot, fun _ => ?_⟩
        refine ok_mono (failI_ok r ot.1) ?_
        rintro - t3 o3
        exact ot.trans mk.tu o3
    · simp only [Sum.elim_inl, Sum.elim_inr, ok_B, ok_C, ok_R, ok_L, ok_K, ok_GI, ok_GL, ok_PI, ok_PL, ok_AI, ok_AL, ok_SI, ok_SL, ok_CI, cmp_lt, cmp_le, cmp_gt, cmp_ge, cmp_eq, nar0, nar1, Sum.elim_inl, Sum.elim_inr, ok_PzT, ok_PzC, ok_PzP, ok_PrC, ok_PrP, ok_PrF, ok_PrN, ok_Ln, ok_CL, ok_Nw, ok_S, ok_Ks, ok_Nz]
      obtain ⟨r1, r2⟩ := q2 y rfl
      have kB := x.kv0 (x.qB hB)
      rw [ok_kO x (x.qB hB), ok_vO x (x.qB hB)]
      refine ok_mono (callEntry_ok H r2 r1 kB) ?_
      rintro - t2 ⟨ce, n2⟩
      have x2 := ce.ix x
      have hC2 : xOk t2 (gI t2 16523 0) := by
        rw [x2.o.2.2.2.1]
        refine ⟨(dC_in w).1, ?_⟩
        rw [ce.lw.etF]
        unfold dQ pNr pNc
        rw [show fPr t2 (tF t) = fPr t (tF t) from ce.1 _ _ (by decide), ce.1 18434 _ (by decide), ce.1 18437 _ (by decide)]
        exact hC
      rw [ok_kO x2 hC2, ok_vO x2 hC2]
      have kC := x2.kv0 hC2
      rw [ce.lw.lv'] at kC
      refine ok_mono (rAdd_ok (L := cLv false t) ce.2.2.2.2.2.2.1 kC) ?_
      rintro - t3 ⟨cx, c3, -, n3⟩
      refine ceQ.oi (s := t) ?_ x hcl
      obtain ⟨f1, f2, f3, f4, f5, f6, f7, f8⟩ := ce
      refine ⟨fun f j q => (cx.1 f j q.2.2).trans (f1 f j q), fun f j q => (cx.2.1 f j).trans (f2 f j q), fun a j q z => (cx.2.2.1 a j q z).trans (f3 a j q z), fun a j q z => (cx.2.2.2 a j q z).trans (f4 a j q z), (cx.1 _ _ (by decide)).trans f5, ?_, c3, by omega⟩
      rw [cx.1 _ _ (by decide), cx.2.1]
      exact f6
    · simp only [Sum.elim_inl, Sum.elim_inr, ok_B, ok_C, ok_R, ok_L, ok_K, ok_GI, ok_GL, ok_PI, ok_PL, ok_AI, ok_AL, ok_SI, ok_SL, ok_CI, cmp_lt, cmp_le, cmp_gt, cmp_ge, cmp_eq, nar0, nar1, Sum.elim_inl, Sum.elim_inr, ok_PzT, ok_PzC, ok_PzP, ok_PrC, ok_PrP, ok_PrF, ok_PrN, ok_Ln, ok_CL, ok_Nw, ok_S, ok_Ks, ok_Nz]
      exact failI_ok 4 x
theorem op8_ok {s : S1} {n : Nat × Nat} {i w : Int32} (x : Ix s n i w) (o : (dO w).toInt = 8) : ok (M_St_write (vKd s (uV s (dA w))) (vVl s (uV s (dA w)))) s (fun _ t => Oi s n i w t) := by
  have h := x.wn.2.2.2.2.2.2.2.1 o
  refine stWrite_ok x (by unfold dCl; omega) h.2.1 h.2.2 (fun z s1 s0 d g h0 => ?_)
  have l := x.uv0 (dA_in w).1 h.1 d g h0
  have e := var_mh d g (uV s (dA w))
  rw [← e.1, ← e.2]
  exact (h0.1.var_v l).1
theorem op10_ok {s : S1} {n : Nat × Nat} {i w : Int32} (x : Ix s n i w) (o : (dO w).toInt = 10) : ok (M_St_write (kO s (gI s 16521 0)) (vO s (gI s 16521 0))) s (fun _ t => Oi s n i w t) := by
  have h := x.wn.2.2.2.2.2.2.2.2.1 o
  refine stWrite_ok x (by unfold dCl; omega) h.2.1 h.2.2 (fun z s1 s0 d g h0 => ?_)
  obtain ⟨⟨H0, R0, -⟩, F0, km⟩ := cMh.w x.w x.fr (z := z) ⟨s1, d, g⟩ h0
  exact x.kv (x.xA h.1) H0 R0 km
theorem fail2_ok {s t : S1} {n m : Nat × Nat} {i w : Int32} (e : Int32) (x : Ix s n i w) (mk : mkW s false m t) : ok (M_Ma_fail e) t (fun _ u => Oi s m i w u) := by
  have ot := mk.oi x
  refine ok_mono (failI_ok e ot.1) ?_
  rintro - u ou
  exact ot.trans mk.tu ou
theorem newTable_ok {s : S1} {n : Nat × Nat} {i w : Int32} (x : Ix s n i w) (o : (dO w).toInt = 11) : ok (M_St_newTable n) s (fun r t => Oi s r.2 i w t) := by
  simp only [M_St_newTable, ok_B, ok_C, ok_R, ok_L, ok_K, ok_GI, ok_GL, ok_PI, ok_PL, ok_AI, ok_AL, ok_SI, ok_SL, ok_CI, cmp_lt, cmp_le, cmp_gt, cmp_ge, cmp_eq, nar0, nar1, Sum.elim_inl, Sum.elim_inr, ok_PzT, ok_PzC, ok_PzP, ok_PrC, ok_PrP, ok_PrF, ok_PrN, ok_Ln, ok_CL, ok_Nw, ok_S, ok_Ks, ok_Nz]
  refine ok_mono (makeTable_ok x.w.hr x.w.ro) ?_
  rintro ⟨r, m⟩ t q
  obtain ⟨mk, h⟩ := mdQ.w x.w x.fr (by decide) (fun _ _ _ z => absurd z (by decide)) q
  dsimp only at mk h ⊢
  have ot := mk.oi x
  refine ⟨fun c => ?_, fun c => ?_⟩
  · have l : cLv false t r 5 := by
      rcases h with h | h
      · exact absurd (neg_not h) (by rw [i32_lt]; rw [i32_le] at c; omega)
      · exact h.2.1
    have h11 := ot.1.wn.2.2.2.2.2.2.2.2.2.1 o
    rw [ot.1.o.2.1]
    refine ok_mono (set_ok ot.1 (dA_in w).1 h11 (cV.obj (by decide) c l)) ?_
    rintro - u st
    exact ot.trans mk.tu st.oi
  · exact fail2_ok _ x mk
