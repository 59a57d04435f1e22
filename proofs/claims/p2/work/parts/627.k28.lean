/-! The class: makeCoroutine. -/
theorem co_sf {s u : S1} {c : Int32} (S : cSf s) (hc : 0 ≤ c ∧ c < 32) (h1 : gI u 19071 c = 1) (hf : cFlg u c)
    (I : ∀ f j, f / 128 = 144 ∨ f = 16395 ∨ f = 16516 ∨ f = 16517 ∨ f = 16518 → gI u f j = gI s f j) (C : ∀ f j, 148 ≤ f / 128 ∧ f / 128 ≤ 151 → j ≠ c → gI u f j = gI s f j) (F : ∀ f j, f / 128 = 152 → (∀ i, 0 ≤ i → i < 200 → j ≠ c * 200 + i) → gI u f j = gI s f j)
    (P : ∀ i, 0 ≤ i → i < 200 → gI u 19458 (c * 200 + i) = -1 ∨ (gI s 19583 (c * 200 + i) = 1 ∧ gI u 19458 (c * 200 + i) = gI s 19458 (c * 200 + i))) : cSf u := by
  have pc : ∀ d, pC s d → pC u d := fun d p => by
    by_cases q : d = c
    · subst q
      exact ⟨p.1, h1⟩
    · exact ⟨p.1, (C _ _ (by decide) q).trans p.2⟩
  have pp : ∀ d, pP s d → pP u d := fun d p => ⟨p.1, (I _ _ (.inl (by decide))).trans p.2⟩
  have pf : ∀ d, pF s d → pF u d := fun d p => by
    by_cases q : ∃ i, 0 ≤ i ∧ i < 200 ∧ d = c * 200 + i
    · obtain ⟨i, a, b, rfl⟩ := q
      exact ⟨p.1, hf.2.2.2.2 i a b⟩
    · exact ⟨p.1, (F _ _ (by decide) (fun i a b z => q ⟨i, a, b, z⟩)).trans p.2⟩
  obtain ⟨S1, S2, S3, S4, S5, S6⟩ := S
  refine ⟨fun d a b => ?_, ?_, ?_, ?_, ?_, fun f p => ?_⟩
  · by_cases q : d = c
    · subst q
      exact ⟨fun _ => hf, fun w => absurd h1 w⟩
    · have nf : ∀ j, 0 ≤ j → j < 200 → gI u 19583 (d * 200 + j) = gI s 19583 (d * 200 + j) := fun j x y => F _ _ (by decide) (fun i z w => fm_ne ⟨a, b⟩ hc ⟨x, y⟩ ⟨z, w⟩ q)
      have w := S1 d a b
      unfold cFlg cNfl at w ⊢
      rw [C 19071 d (by decide) q, C 19199 d (by decide) q, C 19327 d (by decide) q, C 19455 d (by decide) q, C 18947 d (by decide) q]
      exact ⟨fun z => ⟨(w.1 z).1, (w.1 z).2.1, (w.1 z).2.2.1, (w.1 z).2.2.2.1, fun j x y => (nf j x y).trans ((w.1 z).2.2.2.2 j x y)⟩, fun z => ⟨(w.2 z).1, (w.2 z).2.1, (w.2 z).2.2.1, fun j x y => by rw [nf j x y]; exact (w.2 z).2.2.2 j x y⟩⟩
  · rw [I 16395 0 (by decide)]
    exact S2.imp id (pc _)
  · rw [I 16516 0 (by decide)]
    exact S3.imp id (pc _)
  · rw [I 16517 0 (by decide)]
    exact S4.imp id (pf _)
  · rw [I 16518 0 (by decide)]
    exact S5.imp id (pp _)
  · by_cases q0 : ∃ i, 0 ≤ i ∧ i < 200 ∧ f = c * 200 + i
    · obtain ⟨i, a, b, rfl⟩ := q0
      rcases P i a b with w | w
      · exact .inl w
      · rw [w.2]
        exact (S6 _ ⟨p.1, w.1⟩).imp id (pp _)
    · have q : ∀ i, 0 ≤ i → i < 200 → f ≠ c * 200 + i := fun i a b z => q0 ⟨i, a, b, z⟩
      have p' : pF s f := ⟨p.1, (F 19583 f (by decide) q).symm.trans p.2⟩
      rw [F 19458 f (by decide) q]
      exact (S6 f p').imp id (pp _)
theorem co_fin {s0 s1 t u : S1} {x c : Int32} {v : Int64} (h0 : cHR s0) (r0 : 0 ≤ (cTl s0 4).toInt) (S : cSf s0) (md : cMd x 7 0 0 s0 s1) (hc : 0 ≤ c ∧ c < 32) (hcs : pC s0 c → oSl s0 c < 0) (en : cEn c s1 t) (rs : cRs x c v t u) (t11 : (cTl s0 11).toInt < 32) (hv : cV (cLv false s0) 6 v) :
    cHR u ∧ cSf u ∧ cNc x c s0 u ∧ cNi x c v s0 u := by
  obtain ⟨e1, e2, e3, e4, e5, e6, e7⟩ := en
  obtain ⟨r1, r2, r3, r4, r5, r6, r7, r8, r9, r10, r11, r12, r13, r14, r15, r16⟩ := rs
  have U1 : ∀ f j, f ≠ 18564 → f / 128 < 148 → gI u f j = gI s1 f j := fun f j a b => (r1 f j a (fun z => by omega)).trans (e1 f j (by omega) (fun z => by omega) (fun z => by omega))
  have FI : ∀ f j, f ≠ 14209 ∧ f ≠ 14211 ∧ f / 128 ≠ 153 → (145 ≤ f / 128 ∧ f / 128 ≤ 147 → j ≠ x) → (148 ≤ f / 128 ∧ f / 128 ≤ 151 → j ≠ c) → (f / 128 = 152 → ∀ i, 0 ≤ i → i < 200 → j ≠ c * 200 + i) → gI u f j = gI s0 f j := fun f j a b d g => by
    have w : gI u f j = gI t f j := by
      by_cases q : f = 18564
      · subst q
        exact (r2 j).trans (if_neg (b (by decide)))
      · exact r1 f j q (fun z => d (by omega))
    rw [w, e1 f j a.2.2 d g, md.I f j ⟨a.1, a.2.1⟩ (by
      by_cases q : f / 128 = 145
      · exact .inr (b (by omega))
      · exact .inl q)]
  have FL : ∀ f j, f / 128 ≠ 153 → (f / 128 = 145 → j ≠ x) → (f / 128 = 148 → j ≠ c) → (f / 128 = 152 → ∀ i, 0 ≤ i → i < 200 → j ≠ c * 200 + i) → gL u f j = gL s0 f j := fun f j a b d g => by
    rw [r3 f j d, e2 f j a d g, md.L f j (by
      by_cases q : f / 128 = 145
      · exact .inr (b q)
      · exact .inl q)]
  have FA : ∀ a j k, a ≠ 114 → (149 ≤ a ∧ a ≤ 151 → j ≠ c) → gA u a j k = gA s0 a j k := fun a j k q w => by
    rw [r4 a j k q, e3 a j k w, md.A a j k q]
  have FB : ∀ a j k, (149 ≤ a ∧ a ≤ 151 → j ≠ c) → gB u a j k = gB s0 a j k := fun a j k w => by
    rw [r5 a j k, e4 a j k w, md.B a j k]
  have tl : ∀ j, cTl u j = if j = 11 then cTl s1 11 + 1 else cTl s1 j := fun j => by
    have q : ∀ j, cTl t j = cTl s1 j := fun j => e3 _ _ _ (fun z => absurd z (by decide))
    rw [r6, q, q]
  have eN : cN u = cN s1 := U1 _ _ (by decide) (by decide)
  have nw : cNw x s0 u := ⟨by rw [eN]; exact md.nw.1, ⟨md.nw.2.1.1, (U1 _ _ (by decide) (by decide)).trans md.nw.2.1.2⟩, by rw [eN]; exact md.nw.2.2⟩
  have ex : cTy u x = 7 := (U1 _ _ (by decide) (by decide)).trans md.ty
  have et : ∀ y, y ≠ x → cTy u y = cTy s0 y := fun y q => FI _ _ (by decide) (fun _ => q) (fun z => absurd z (by decide)) (fun z => absurd z (by decide))
  have up : ∀ y k, k ≠ 0 → cLv false s0 y k → cLv false u y k ∧ y ≠ x := fun y k k0 l => ⟨(nw.lv h0.1.1 (by decide) ex et k0).2 (.inl ⟨l, nw.old l k0⟩), nw.old l k0⟩
  have e11 : (cTl u 11).toInt = (cTl s0 11).toInt + 1 := by
    rw [tl 11, if_pos rfl, md.t11]
    have a1 : (1 : Int32).toInt = 1 := rfl
    have := h0.1.2.2.2.2.1.2.2
    rw [ktI_add] <;> omega
  have pc1 : gI u 19071 c = 1 := r15.trans e5
  have hi : cHI u := by
    refine h0.1.cor (x := x) (c := c) ⟨fun f j a b => ?_, fun f j a b => ?_, fun f i j a i0 i1 ne j0 j1 => ?_, ?_, fun j q => ?_, fun j q => ?_, fun i j i0 i1 ne j0 j1 => ?_, fun a k q => ?_, fun j k q => ?_, fun j k q => ?_, fun a k q => ?_, fun j k q => ?_⟩ hc hcs nw ex ?_ ⟨⟨?_, ⟨?_, fun i a b => ?_⟩, ⟨?_, fun j a b => ?_⟩, fun y w _ => w⟩, ?_, ?_⟩ pc1 r9 ?_ r13 ?_ e11 ?_ (fun i => ?_) ?_ (fun i => ?_) (fun y q => ?_) (fun d q => ?_)
    · exact FI f j ⟨by omega, by omega, by omega⟩ (fun z => b.elim id (fun w => by omega)) (fun z => by omega) (fun z => by omega)
    · refine FI f j ?_ ?_ (fun _ => b) ?_
      · rcases a with rfl | rfl | rfl | rfl <;> decide
      · rcases a with rfl | rfl | rfl | rfl <;> exact fun z => absurd z (by decide)
      · rcases a with rfl | rfl | rfl | rfl <;> exact fun z => absurd z (by decide)
    · refine FI f _ ?_ ?_ ?_ (fun _ k a b => fm_ne ⟨i0, i1⟩ hc ⟨j0, j1⟩ ⟨a, b⟩ ne)
      · rcases a with rfl | rfl <;> decide
      · rcases a with rfl | rfl <;> exact fun z => absurd z (by decide)
      · rcases a with rfl | rfl <;> exact fun z => absurd z (by decide)
    · exact FI _ _ (by decide) (fun z => absurd z (by decide)) (fun z => absurd z (by decide)) (fun z => absurd z (by decide))
    · exact FL _ _ (by decide) (fun _ => q) (fun z => absurd z (by decide)) (fun z => absurd z (by decide))
    · exact FL _ _ (by decide) (fun z => absurd z (by decide)) (fun _ => q) (fun z => absurd z (by decide))
    · exact FL _ _ (by decide) (fun z => absurd z (by decide)) (fun z => absurd z (by decide)) (fun _ k a b => fm_ne ⟨i0, i1⟩ hc ⟨j0, j1⟩ ⟨a, b⟩ ne)
    · refine FA a 0 k ?_ ?_
      · rcases q with rfl | rfl | rfl | rfl | rfl <;> decide
      · rcases q with rfl | rfl | rfl | rfl | rfl <;> exact fun z => absurd z (by decide)
    · exact FA _ _ _ (by decide) (fun z => absurd z (by decide))
    · exact FA _ _ _ (by decide) (fun _ => q)
    · refine FB a 0 k ?_
      rcases q with rfl | rfl <;> exact fun z => absurd z (by decide)
    · exact FB _ _ _ (fun _ => q)
    · rw [tl, if_neg (by decide), md.t4]
      omega
    · rw [r12]
      exact cV.up (fun y k k0 l => (up y k k0 l).1) hv
    · rw [r8]
      decide
    · rw [r8] at b
      exact absurd b (by rw [i32_le] at a; rw [i32_lt]; omega)
    · rw [r7]
      decide
    · rw [r7] at b
      exact absurd b (by rw [i32_le] at a; rw [i32_lt]; omega)
    · exact (U1 _ _ (by decide) (by decide)).trans md.sy
    · rw [show cNu u x = cNu s1 x from U1 _ _ (by decide) (by decide), md.nu, tl, if_neg (by decide), md.t4]
      omega
    · exact (r2 x).trans (if_pos rfl)
    · rw [tl, if_neg (by decide)]
      exact md.t6
    · rw [eN, show cFc u = cFc s1 from U1 _ _ (by decide) (by decide), tl, if_neg (by decide)]
      exact md.fc
    · exact FA _ _ _ (by decide) (fun z => absurd z (by decide))
    · intro i a b
      rw [show cFc u = cFc s1 from U1 _ _ (by decide) (by decide)] at b
      exact md.fi i a b
    · exact FA _ _ _ (by decide) (fun z => absurd z (by decide))
    · exact FI _ _ (by decide) (fun _ => q) (fun z => absurd z (by decide)) (fun z => absurd z (by decide))
    · exact FI _ _ (by decide) (fun z => absurd z (by decide)) (fun _ => q) (fun z => absurd z (by decide))
  have cur : mCur u = mCur s0 := FI _ _ (by decide) (fun z => absurd z (by decide)) (fun z => absurd z (by decide)) (fun z => absurd z (by decide))
  have ld : gI u 14221 0 = gI s0 14221 0 := FI _ _ (by decide) (fun z => absurd z (by decide)) (fun z => absurd z (by decide)) (fun z => absurd z (by decide))
  refine ⟨⟨hi, fun l => ?_⟩, co_sf S hc pc1 ?_ (fun f j q => ?_) (fun f j q w => ?_) (fun f j q w => ?_) (fun i a b => ?_), ⟨⟨nw.lt h0.1.1, ex, fun z => absurd z (by decide)⟩, up, FI, FL, FA, FB, fun y k k0 q l => ((nw.lv h0.1.1 (by decide) ex et k0).1 l).elim (fun w => w.1) (fun w => absurd w.1 q)⟩, hc, hcs, pc1, (r2 x).trans (if_pos rfl), r7, r8, r9, r10, r11, r12, r13, r14⟩
  · have R := h0.2 (ld ▸ l)
    obtain ⟨m0, ρ, hl⟩ := R.2.1
    have mc := hl.1 m0
    have cne : c ≠ mCur s0 := fun z => by
      rw [← z] at mc
      have := hcs mc.1
      exact absurd mc.2.1 (by rw [i32_le]; rw [i32_lt] at this; omega)
    refine R.up2 (fun y k k0 l => (up y k k0 l).1) ⟨by rw [cur]; exact m0, ρ, hl.congr (fun d => ?_) (fun _ _ => rfl) (fun d w => ?_) cur⟩ (fun f q => ?_) (fun a j k q => ?_) (fun a j k q => ?_) (fun y l => ?_)
    · by_cases q : d = c
      · subst q
        refine ⟨fun w => ?_, fun w => ?_⟩
        · have w3 := w.2.2
          rw [r10, cur] at w3
          rcases w3 with w3 | w3 | w3
          · exact absurd w3 (by decide)
          · exact absurd w3 (by decide)
          · exact absurd w3 cne
        · have := hcs w.1
          exact absurd w.2.1 (by rw [i32_le]; rw [i32_lt] at this; omega)
      · have g : ∀ f, f / 128 = 148 → gI u f d = gI s0 f d := fun f hf => FI f d ⟨by omega, by omega, by omega⟩ (fun z => by omega) (fun _ => q) (fun z => by omega)
        unfold cMb pC oSl
        rw [g 19071 (by decide), g 18950 (by decide), g 18951 (by decide), cur]
    · have q : d ≠ c := fun z => by
        rw [z] at w
        have := hcs w.1
        exact absurd w.2.1 (by rw [i32_le]; rw [i32_lt] at this; omega)
      exact FI _ _ (by decide) (fun z => absurd z (by decide)) (fun _ => q) (fun z => absurd z (by decide))
    · rcases q with rfl | rfl | rfl | rfl | rfl <;> exact FI _ _ (by decide) (fun z => absurd z (by decide)) (fun z => absurd z (by decide)) (fun z => absurd z (by decide))
    · rcases q with rfl | rfl | rfl | rfl | rfl <;> exact FA _ _ _ (by decide) (fun z => absurd z (by decide))
    · rcases q with rfl | rfl | rfl | rfl <;> exact FB _ _ _ (fun z => absurd z (by decide))
    · exact FI _ _ (by decide) (fun _ => (up y 4 (by decide) l).2) (fun z => absurd z (by decide)) (fun z => absurd z (by decide))
  · have g : ∀ f j, 149 ≤ f / 128 → gI u f j = gI t f j := fun f j q => r1 f j (fun z => by omega) (fun z => by omega)
    exact ⟨(g _ _ (by decide)).trans e6.1, (g _ _ (by decide)).trans e6.2.1, (g _ _ (by decide)).trans e6.2.2.1, r16.trans e6.2.2.2.1, fun j a b => (g _ _ (by decide)).trans (e6.2.2.2.2 j a b)⟩
  · refine FI f j ?_ ?_ ?_ ?_
    · omega
    · exact fun z => by omega
    · exact fun z => by omega
    · exact fun z => by omega
  · exact FI f j ⟨by omega, by omega, by omega⟩ (fun z => by omega) (fun _ => w) (fun z => by omega)
  · exact FI f j ⟨by omega, by omega, by omega⟩ (fun z => by omega) (fun z => by omega) (fun _ => w)
  · have g : gI u 19458 (c * 200 + i) = gI t 19458 (c * 200 + i) := r1 _ _ (by decide) (fun z => absurd z (by decide))
    have k : ∀ j, gI s1 19583 j = gI s0 19583 j := fun j => md.I _ _ (by decide) (.inl (by decide))
    have k' : ∀ j, gI s1 19458 j = gI s0 19458 j := fun j => md.I _ _ (by decide) (.inl (by decide))
    rw [g, ← k, ← k']
    exact e7 i a b
/-- the room behind a coroutine that was made, or used again -/
theorem cRo.co {s t : S1} {m e : Nat × Nat} {c : Int32} (r : cRo s m e) (hc : 0 ≤ c ∧ c < 32) (hb : ∀ i, 0 ≤ i → i < c → gI s 19071 i = 1) (I : ∀ f j, f = 15230 ∨ f = 14220 ∨ f = 18687 ∨ f = 18559 ∨ f = 18815 ∨ f = 18943 ∨ f = 18942 ∨ f = 18814 → gI t f j = gI s f j) (C : ∀ j, j ≠ c → gI t 19071 j = gI s 19071 j) (h1 : gI t 19071 c = 1)
    (T : ∀ j, j = 4 ∨ j = 12 ∨ j = 13 ∨ j = 14 → cTl t j = cTl s j) : (gI s 19071 c ≠ 1 → 204 ≤ m.1 ∧ 10012 ≤ m.2) ∧ cRo t (if gI s 19071 c = 1 then m else (m.1 - 204, m.2 - 10012)) e := by
  obtain ⟨al, a, b, k, ⟨w1, w2, w3, w4, w5⟩, c1, c2⟩ := r
  have al' : cAl t := by
    unfold cAl at al ⊢
    rw [T 4 (by decide), T 12 (by decide), T 13 (by decide), T 14 (by decide), I 15230 0 (by decide), I 14220 0 (by decide)]
    exact al
  have nd : ∀ k', cNd t a b k' = cNd s a b k' := fun k' => by
    unfold cNd
    rw [T 12 (by decide), T 13 (by decide), T 14 (by decide), I 15230 0 (by decide)]
  by_cases fl : gI s 19071 c = 1
  · refine ⟨fun z => absurd fl z, al', a, b, k, ⟨w1, ?_, ?_, fun x x0 x1 => ?_, ?_⟩, ?_, ?_⟩
    · simp only [I 18687 _ (by decide)]
      exact w2
    · simp only [I 18559 _ (by decide)]
      exact w3
    · by_cases q : x = c
      · subst q
        exact ⟨fun _ => (w4 x x0 x1).1 fl, fun _ => h1⟩
      · rw [C x q]
        exact w4 x x0 x1
    · simp only [I 18687 _ (by decide), I 18815 _ (by decide), I 18943 _ (by decide), I 18942 _ (by decide), I 18814 _ (by decide)]
      exact w5
    · rw [if_pos fl, nd]
      exact c1
    · rw [if_pos fl, nd]
      exact c2
  · have ck : c.toNatClampNeg = k := by
      have n1 : ¬ c.toNatClampNeg < k := fun z => fl ((w4 c hc.1 hc.2).2 z)
      have n2 : ¬ k < c.toNatClampNeg := fun z => by
        have lc : c.toNatClampNeg < 32 := clamp_ltN (n := 32) hc.2 (by decide)
        have ek := Int32.toInt_ofNat_of_lt (n := k) (by omega)
        have en : (Int32.ofNat k).toNatClampNeg = k := by
          unfold Int32.toNatClampNeg
          omega
        have o0 : 0 ≤ Int32.ofNat k := by
          rw [i32_le, ek]
          exact Int.natCast_nonneg _
        have cc : (c.toNatClampNeg : Int) = c.toInt := by
          have := hc.1
          rw [i32_le] at this
          have e0 : (0 : Int32).toInt = 0 := rfl
          unfold Int32.toNatClampNeg
          omega
        have o1 : Int32.ofNat k < c := by
          rw [i32_lt, ek]
          omega
        have o2 : Int32.ofNat k < 32 := by
          rw [i32_lt, ek]
          show (k : Int) < 32
          omega
        have := (w4 _ o0 o2).1 (hb _ o0 o1)
        rw [en] at this
        omega
      omega
    have lc : c.toNatClampNeg < 32 := clamp_ltN (n := 32) hc.2 (by decide)
    have d1 : (cNd s a b (k + 1)).1 + 210 = (cNd s a b k).1 := by
      unfold cNd
      dsimp only
      omega
    have d2 : (cNd s a b (k + 1)).2 + 20000 = (cNd s a b k).2 := by
      unfold cNd
      dsimp only
      omega
    refine ⟨fun _ => ⟨by omega, by omega⟩, al', a, b, k + 1, ⟨⟨w1.1, w1.2.1, by omega⟩, ?_, ?_, fun x x0 x1 => ?_, ?_⟩, ?_, ?_⟩
    · simp only [I 18687 _ (by decide)]
      exact w2
    · simp only [I 18559 _ (by decide)]
      exact w3
    · by_cases q : x = c
      · subst q
        exact ⟨fun _ => by omega, fun _ => h1⟩
      · rw [C x q, w4 x x0 x1]
        have : x.toNatClampNeg ≠ c.toNatClampNeg := fun z => q (by
          have a0 := ofNat_clamp x0
          have b0 := ofNat_clamp hc.1
          rw [← a0, ← b0, z])
        omega
    · simp only [I 18687 _ (by decide), I 18815 _ (by decide), I 18943 _ (by decide), I 18942 _ (by decide), I 18814 _ (by decide)]
      exact w5
    · rw [if_neg fl, nd]
      dsimp only
      omega
    · rw [if_neg fl, nd]
      dsimp only
      omega
theorem cCm_all {s : S1} (h : ∀ i, 0 ≤ i → i < 32 → gI s 19071 i = 1 ∧ 0 ≤ oSl s i) : cCm s = 32 := by
  unfold cCm
  have : (List.range 32).countP (fun n => decide (gI s 19071 (Int32.ofNat n) = 1 ∧ 0 ≤ oSl s (Int32.ofNat n))) = (List.range 32).length := List.countP_eq_length.2 (fun n hn => by
    have hn' := List.mem_range.1 hn
    have e := Int32.toInt_ofNat_of_lt (n := n) (by omega)
    refine decide_eq_true (h _ ?_ ?_)
    · rw [i32_le, e]
      exact Int.natCast_nonneg _
    · rw [i32_lt, e]
      show (n : Int) < 32
      omega)
  rw [this, List.length_range]
def coF (s : S1) (v : Int64) (x : Int32) (m : Nat × Nat) (e : Int64 × Int32 × Int32 × (Nat × Nat)) (s' : S1) : Prop := s' = s ∧ ∃ i, e = (v, x, i, m) ∧ (0 ≤ i ∧ i < 32) ∧ (∀ k, 0 ≤ k → k < i → gI s 19071 k = 1 ∧ 0 ≤ oSl s k) ∧ (i = 31 ∨ gI s 19071 i ≠ 1 ∨ oSl s i < 0)
theorem coFind_ok {s : S1} (v : Int64) (x : Int32) (m : Nat × Nat) : ok (oW M_He_makeCoroutine_L18 (v, x, 0, m)) s (coF s v x m) := by
  have e0 : (0 : Int32).toInt = 0 := rfl
  have e1 : (1 : Int32).toInt = 1 := rfl
  have e31 : (31 : Int32).toInt = 31 := rfl
  have e32 : (32 : Int32).toInt = 32 := rfl
  refine ok_W (fun y s' => s' = s ∧ (y.1 = v ∧ y.2.1 = x ∧ y.2.2.2 = m) ∧ (0 ≤ y.2.2.1.toInt ∧ y.2.2.1.toInt ≤ 31) ∧ ∀ k, 0 ≤ k → k < y.2.2.1 → gI s 19071 k = 1 ∧ 0 ≤ oSl s k) (fun y _ => (31 - y.2.2.1.toInt).toNat) ?_ (v, x, 0, m) _ ⟨rfl, ⟨rfl, rfl, rfl⟩, ⟨Int.le_refl _, by dsimp only; omega⟩, fun k a b => absurd b (by rw [i32_le] at a; rw [i32_lt]; dsimp only; omega)⟩
  rintro ⟨v', x', i, m'⟩ s1 ⟨rfl, ⟨rfl, rfl, rfl⟩, ⟨i0, i1⟩, hb⟩
  dsimp only at i0 i1 hb
  simp only [M_He_makeCoroutine_L18, ok_B, ok_C, ok_R, ok_L, ok_K, ok_GI, ok_GL, ok_PI, ok_PL, ok_AI, ok_AL, ok_SI, ok_SL, ok_CI, cmp_lt, cmp_le, cmp_gt, cmp_ge, cmp_eq, nar0, nar1, Sum.elim_inl, Sum.elim_inr, ok_PzT, ok_PzC, ok_PzP, ok_PrC, ok_PrP, ok_PrF, ok_PrN, ok_Ln, ok_CL, ok_Nw, ok_S, ok_Ks, ok_Nz, Nat.reduceMul, Nat.reduceAdd]
  have il : 0 ≤ i ∧ i < 32 := ⟨by rw [i32_le]; omega, by rw [i32_lt]; omega⟩
  refine ⟨fun q => ⟨rfl, i, rfl, il, hb, .inl ?_⟩, fun q => ⟨il, fun w => ⟨rfl, i, rfl, il, hb, .inr (.inl (fun z => ?_))⟩, fun w => ?_⟩⟩
  · rw [i32_le] at q
    exact toInt_inj (by omega)
  · rw [if_pos z] at w
    rw [w] at i0
    exact absurd i0 (by decide)
  · rw [i32_le] at q
    have fl : gI s1 19071 i = 1 := Decidable.byContradiction fun z => w (if_neg z)
    have ei : (i + 1).toInt = i.toInt + 1 := by rw [ktI_add] <;> omega
    refine ⟨⟨il, fl⟩, fun z => ⟨rfl, i, rfl, il, hb, .inr (.inr z)⟩, fun z => ⟨⟨by trivial, ⟨by trivial, by trivial, by trivial⟩, ⟨by omega, by omega⟩, fun k a b => ?_⟩, by omega⟩⟩
    by_cases q' : k = i
    · subst q'
      refine ⟨fl, ?_⟩
      rw [i32_lt] at z
      rw [i32_le]
      show (0 : Int32).toInt ≤ (gI s1 18950 k).toInt
      omega
    · rw [i32_lt, ei] at b
      have : k.toInt ≠ i.toInt := fun z => q' (toInt_inj z)
      exact hb k a (by rw [i32_lt]; omega)
def coQ (s : S1) (e : Nat × Nat) (v : Int64) (r : Int32 × (Nat × Nat)) (s' : S1) : Prop := ∃ s0, cMg s s0 ∧ cHR s0 ∧ cSf s' ∧ cRo s' r.2 e ∧ (((r.1 = -10 ∨ r.1 = -11) ∧ s' = s0) ∨ (0 ≤ r.1 ∧ cHR s' ∧ ∃ c, cNc r.1 c s0 s' ∧ cNi r.1 c v s0 s'))
theorem makeCo_ok {s : S1} {n e : Nat × Nat} (H : cHR s) (R : cRo s n e) (S : cSf s) (v : Int64) (hv : ∀ s0, cMg s s0 → cHR s0 → cV (cLv false s0) 6 v) : ok (M_He_makeCoroutine n v) s (coQ s e v) := by
  simp only [M_He_makeCoroutine, ok_B, ok_C, ok_R, ok_L, ok_K, ok_GI, ok_GL, ok_PI, ok_PL, ok_AI, ok_AL, ok_SI, ok_SL, ok_CI, cmp_lt, cmp_le, cmp_gt, cmp_ge, cmp_eq, nar0, nar1, Sum.elim_inl, Sum.elim_inr, ok_PzT, ok_PzC, ok_PzP, ok_PrC, ok_PrP, ok_PrF, ok_PrN, ok_Ln, ok_CL, ok_Nw, ok_S, ok_Ks, ok_Nz]
  refine ok_mono (make_ok H R 7 0 0 ⟨by decide, by decide⟩ ⟨by decide, by decide⟩) ?_
  rintro ⟨x, m⟩ s1 ⟨s0, mg, h0, r0, w⟩
  dsimp only at w
  rcases w with ⟨w1, rfl, rfl⟩ | ⟨x0, md, t7, r1⟩
  · refine ⟨fun c => absurd (neg_not w1) (by clear H R h0 r0 mg; dsimp only at c; grind), fun _ => ⟨_, mg, h0, S.mg mg, r0, .inl ⟨w1, rfl⟩⟩⟩
  · refine ⟨fun _ => ?_, fun c => absurd x0 c⟩
    have px := md.nw.2.1
    have S0 := S.mg mg
    have Es : ∀ f j, f ≠ 14209 ∧ f ≠ 14211 → f / 128 ≠ 145 → gI s1 f j = gI s0 f j := fun f j a b => md.I f j a (.inl b)
    have S1' : cSf s1 := S0.congr (fun f j q => by
      rcases q with rfl | rfl | rfl | rfl | rfl | rfl | rfl | rfl | rfl | rfl | rfl | rfl <;> exact Es _ _ (by decide) (by decide))
    refine ok_mono (coFind_ok v x m) ?_
    rintro y s' ⟨rfl, c, rfl, hc, hb, hl⟩
    dsimp only
    have t11 := t7 rfl
    rw [i32_lt] at t11
    have e32 : (32 : Int32).toInt = 32 := rfl
    have sl : ∀ j, oSl s' j = oSl s0 j := fun j => Es _ _ (by decide) (by decide)
    have fl : ∀ j, gI s' 19071 j = gI s0 19071 j := fun j => Es _ _ (by decide) (by decide)
    have hcs : pC s0 c → oSl s0 c < 0 := fun p => by
      rcases hl with z | z | z
      · refine Decidable.byContradiction fun ng => ?_
        have := cCm_all (s := s0) (fun i a b => by
          by_cases q : i = c
          · subst q
            refine ⟨p.2, ?_⟩
            rw [i32_le]
            rw [i32_lt] at ng
            omega
          · have w := hb i a (by
              rw [z, i32_lt]
              rw [z] at q
              have : i.toInt ≠ (31 : Int32).toInt := fun w => q (toInt_inj w)
              rw [i32_lt] at b
              have e31 : (31 : Int32).toInt = 31 := rfl
              omega)
            rw [fl, sl] at w
            exact w)
        have := h0.1.2.2.2.2.1.2.2
        omega
      · rw [fl] at z
        exact absurd p.2 z
      · rw [sl] at z
        exact z
    have hro : ∀ t u, cEn c s' t → cRs x c v t u → (gI s' 19071 c ≠ 1 → 204 ≤ m.1 ∧ 10012 ≤ m.2) ∧ cRo u (if gI s' 19071 c = 1 then m else (m.1 - 204, m.2 - 10012)) e := fun t u en rs => by
      refine cRo.co (r1.le (Nat.le_succ _) (by dsimp only; omega)) hc (fun i a b => (hb i a b).1) (fun f j q => ?_) (fun j q => ?_) (rs.2.2.2.2.2.2.2.2.2.2.2.2.2.2.1.trans en.2.2.2.2.1) (fun j q => ?_)
      · have a : gI u f j = gI t f j := rs.1 f j (by rcases q with rfl | rfl | rfl | rfl | rfl | rfl | rfl | rfl <;> decide) (by rcases q with rfl | rfl | rfl | rfl | rfl | rfl | rfl | rfl <;> exact fun z => absurd z (by decide))
        rw [a]
        rcases q with rfl | rfl | rfl | rfl | rfl | rfl | rfl | rfl <;> exact en.1 _ _ (by decide) (fun z => absurd z (by decide)) (fun z => absurd z (by decide))
      · rw [rs.1 _ _ (by decide) (fun _ => q)]
        exact en.1 _ _ (by decide) (fun _ => q) (fun z => absurd z (by decide))
      · rw [rs.2.2.2.2.2.1 j, if_neg (by rcases q with rfl | rfl | rfl | rfl <;> decide)]
        exact en.2.2.1 _ _ _ (fun z => absurd z (by decide))
    refine coMake_ok hc S1' m (fun z => ?_) (fun t en => ?_)
    · obtain ⟨al, a, b, k, ⟨w1, w2, w3, w4, w5⟩, c1, c2⟩ := r1
      have lk : k < 32 := by
        refine Decidable.byContradiction fun q => z ((w4 c hc.1 hc.2).2 ?_)
        have lc : c.toNatClampNeg < 32 := clamp_ltN (n := 32) hc.2 (by decide)
        omega
      unfold cNd at c1 c2
      dsimp only at c1 c2
      omega
    · have g145 : pT t x := ⟨px.1, (en.1 _ _ (by decide) (fun z => absurd z (by decide)) (fun z => absurd z (by decide))).trans px.2⟩
      refine co80_ok ⟨hc, en.2.2.2.2.1⟩ g145 (fun u rs => ?_)
      have fin := co_fin h0 r0.1.1.1 S0 md hc hcs en rs (by omega) (hv s0 mg h0)
      exact ⟨s0, mg, h0, fin.2.1, (hro t u en rs).2, .inr ⟨x0, fin.1, c, fin.2.2.1, fin.2.2.2⟩⟩
