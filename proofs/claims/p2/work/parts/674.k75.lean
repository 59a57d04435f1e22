/-! The class: built ins on tables, strings. -/
/-- arguments stay values behind a collection -/
theorem args_m {s s0 : S1} (R0 : cRt s0) (km : cKm s s0) {i : Int32} (i0 : 0 ≤ i) : cV (cLv false s0) (rk s 132 i) (rv s 132 i) := by
  have row : cRow (cLv false s0) s0 132 := R0.2.2.2.2.1
  have w := row.kv i0
  have e : rwS s0 132 = rwS s 132 := km.1 _ _ (.inl (by decide))
  unfold rk rv at w ⊢
  rw [e, show rwK s0 132 i = rwK s 132 i from km.2.2.1 _ _ _ (.inr (.inr (.inr (.inr (.inr (.inl (by decide))))))), show rwV s0 132 i = rwV s 132 i from km.2.2.2 _ _ _ (.inr (.inl (by decide)))] at w
  exact w
theorem writeRaw_ok {s : S1} {n : Nat × Nat} (h : Pf s n) (z0 : rwS s 135 = 0) : ok M_Bu_writeRaw s (fun _ t => Pq t n) := by
  have a5 := h.a5
  have W := h.w
  have F := h.1.2.1
  simp only [M_Bu_writeRaw, ok_B, ok_C, ok_R, ok_L, ok_K, ok_GI, ok_GL, ok_PI, ok_PL, ok_AI, ok_AL, ok_SI, ok_SL, ok_CI, cmp_lt, cmp_le, cmp_gt, cmp_ge, cmp_eq, nar0, nar1, Sum.elim_inl, Sum.elim_inr, ok_PzT, ok_PzC, ok_PzP, ok_PrC, ok_PrP, ok_PrF, ok_PrN, ok_Ln, ok_CL, ok_Nw, ok_S, ok_Ks, ok_Nz]
  refine ok_mono (hasTable_ok h) ?_
  rintro r t (⟨r1, et, c⟩ | ⟨r0, q⟩)
  · rw [et]
    refine ⟨fun z => by rw [r1] at z; exact absurd z (by decide), fun _ => ?_⟩
    rw [ok_vA a5 (by decide), ok_kA a5 (by decide), ok_vA a5 (by decide), ok_kA a5 (by decide), ok_vA a5 (by decide)]
    have at5 : ∀ s0, cRt s0 → cKm s s0 → cLv false s0 (rv s 132 0).toInt32 5 := fun s0 R0 km => by
      have w := args_m R0 km (i := 0) (by decide)
      rw [c] at w
      exact w.at5
    refine ok_mono (write_ok W.hr W.ro (fun s0 g h0 => ?_)) ?_
    · obtain ⟨⟨-, R0, -⟩, -, km⟩ := cMh.w W F g h0
      exact ⟨at5 s0 R0 km, args_m R0 km (by decide), args_m R0 km (by decide)⟩
    · rintro e u wq
      obtain ⟨mk, -⟩ := wq.w W F
      have pf := (mk.pf h z0).1
      have l5 := at5 u mk.1.rt mk.2.2
      exact ⟨fun _ => pf.1.addP (cV.obj (.inr (.inl rfl)) l5.1.1 l5), fun _ => pf.1.fail e⟩
  · exact ⟨fun _ => .inr q, fun z => absurd r0 z⟩
/-- a metatable is set -/
theorem meta_hi {s t : S1} {x m : Int32} (H : cHI s) (hm : m < 0 ∨ cLv false s m 5) (TI : ∀ f j, gI t f j = if f = 18574 ∧ j = x then m else gI s f j) (T2 : t.2 = s.2) : cHI t ∧ cHx s t := by
  have i1 : ∀ f j, f ≠ 18574 → gI t f j = gI s f j := fun f j q => by rw [TI, if_neg (fun z => q z.1)]
  have eA : ∀ a j k, gA t a j k = gA s a j k := fun a j k => by
    show t.2.2.1 a j k = s.2.2.1 a j k
    rw [T2]
  have eB : ∀ a j k, gB t a j k = gB s a j k := fun a j k => by
    show t.2.2.2 a j k = s.2.2.2 a j k
    rw [T2]
  have eL : ∀ f j, gL t f j = gL s f j := fun f j => by
    show t.2.1 f j = s.2.1 f j
    rw [T2]
  have hk : cHx s t := ⟨fun f j q => i1 f j q.2.2.2.1, eL, fun a j k _ => eA a j k, fun a j k _ => eB a j k, fun j _ => eA _ _ _⟩
  refine ⟨H.tx hk (H.2.2.2.2.2.congr (i1 _ _ (by decide)) (fun p => eA _ _ _) (fun y => i1 _ _ (by decide)) (fun y => i1 _ _ (by decide)) (fun y => hk.lv) (eA _ _ _)) (fun y hy => ?_), hk⟩
  have w := H.tbv hy
  unfold tbl cTs at w ⊢
  rw [hk.lv']
  refine ⟨?_, ?_⟩
  · show gI t 18574 y < 0 ∨ cLv false s (gI t 18574 y) 5
    rw [TI]
    by_cases z : y = x
    · rw [if_pos ⟨rfl, z⟩]
      exact hm
    · rw [if_neg (fun q => z q.2)]
      exact w.1
  · have w2 := w.2
    simp only [cE, cS0, cR, cTop, cTy, cKk, cKv, cVk, cVv, cHd, cCh, eA, eB, i1 18573 _ (by decide), i1 18571 _ (by decide), i1 18572 _ (by decide), i1 15367 _ (by decide), i1 18560 _ (by decide)] at w2 ⊢
    exact w2
theorem setMeta_ok {s : S1} {n : Nat × Nat} (h : Pf s n) (z0 : rwS s 135 = 0) : ok M_Bu_setMetatable s (fun _ t => Pq t n) := by
  have a5 := h.a5
  have W := h.w
  have H := W.hi
  have F := h.1.2.1
  simp only [M_Bu_setMetatable, ok_B, ok_C, ok_R, ok_L, ok_K, ok_GI, ok_GL, ok_PI, ok_PL, ok_AI, ok_AL, ok_SI, ok_SL, ok_CI, cmp_lt, cmp_le, cmp_gt, cmp_ge, cmp_eq, nar0, nar1, Sum.elim_inl, Sum.elim_inr, ok_PzT, ok_PzC, ok_PzP, ok_PrC, ok_PrP, ok_PrF, ok_PrN, ok_Ln, ok_CL, ok_Nw, ok_S, ok_Ks, ok_Nz]
  refine ok_mono (hasTable_ok h) ?_
  rintro r t (⟨r1, et, c⟩ | ⟨r0, q⟩)
  · rw [et]
    refine ⟨fun z => by rw [r1] at z; exact absurd z (by decide), fun _ => ?_⟩
    rw [ok_vA a5 (by decide), ok_kA a5 (by decide)]
    have l5 := h.s5 c
    have kv1 := h.kv (i := 1) (by decide)
    have fin : ∀ m : Int32, (m < 0 ∨ cLv false s m 5) → ok (M_Bu_setMetatable_j112 (rv s 132 0).toInt32 m (rv s 132 0).toInt32) s (fun _ t => Pq t n) := fun m hm => by
      simp only [M_Bu_setMetatable_j112, ok_B, ok_C, ok_R, ok_L, ok_K, ok_GI, ok_GL, ok_PI, ok_PL, ok_AI, ok_AL, ok_SI, ok_SL, ok_CI, cmp_lt, cmp_le, cmp_gt, cmp_ge, cmp_eq, nar0, nar1, Sum.elim_inl, Sum.elim_inr, ok_PzT, ok_PzC, ok_PzP, ok_PrC, ok_PrP, ok_PrF, ok_PrN, ok_Ln, ok_CL, ok_Nw, ok_S, ok_Ks, ok_Nz]
      obtain ⟨Ht, hk⟩ := meta_hi (t := sI s 18574 (rv s 132 0).toInt32 m) H hm (fun f j => by rw [gI_sI]) rfl
      have mk := W.hx F hk Ht (hk.ro W.ro (Int.le_refl _) W.ro.1.2.1.2)
      have pf := (mk.pf h z0).1
      exact pf.1.addP (cV.obj (.inr (.inl rfl)) l5.1.1 (hk.lv.2 l5))
    have j52 : rk s 132 1 = 5 ∨ rk s 132 1 = 0 → ok (M_Bu_setMetatable_j52 (rv s 132 0).toInt32) s (fun _ t => Pq t n) := fun k1 => by
      simp only [M_Bu_setMetatable_j52, ok_B, ok_C, ok_R, ok_L, ok_K, ok_GI, ok_GL, ok_PI, ok_PL, ok_AI, ok_AL, ok_SI, ok_SL, ok_CI, cmp_lt, cmp_le, cmp_gt, cmp_ge, cmp_eq, nar0, nar1, Sum.elim_inl, Sum.elim_inr, ok_PzT, ok_PzC, ok_PzP, ok_PrC, ok_PrP, ok_PrF, ok_PrN, ok_Ln, ok_CL, ok_Nw, ok_S, ok_Ks, ok_Nz]
      refine ok_mono (findEvent_ok H 5 _ 21 (fun _ => by rw [i64_32]; exact l5) (by decide)) ?_
      rintro p u ⟨eu, -⟩
      rw [eu]
      refine ⟨fun _ => ⟨H.1.2 _ l5.1.1 l5.1.2, ?_⟩, fun _ => h.1.fail 8⟩
      rw [ok_kA a5 (by decide)]
      refine ⟨fun _ => fin (-1) (.inl (by decide)), fun k0 => ?_⟩
      rw [ok_vA a5 (by decide)]
      refine fin _ (.inr ?_)
      rcases k1 with z | z
      · rw [z] at kv1
        exact kv1.at5
      · exact absurd z k0
    refine ⟨fun k => j52 (.inl k), fun _ => ?_⟩
    rw [ok_kA a5 (by decide)]
    exact ⟨fun k => j52 (.inr k), fun _ => h.1.fail 2⟩
  · exact ⟨fun _ => .inr q, fun z => absurd r0 z⟩
def nxP (s : S1) (e : Int32 ⊕ Unit) (t : S1) : Prop := t = s ∧ ∀ p, e = .inl p → inT s p
def nxI (s : S1) (x : Int32) (y : Int32 × Int32) (t : S1) : Prop := t = s ∧ y.1 = x ∧ (cS0 s x).toInt ≤ y.2.toInt ∧ y.2.toInt ≤ (cS0 s x).toInt + (cE s x).toInt
theorem nextL_ok {s : S1} {x p : Int32} (H : cHI s) (hx : cLv false s x 5) (p0 : (cS0 s x).toInt ≤ p.toInt) (p1 : p.toInt ≤ (cS0 s x).toInt + (cE s x).toInt) : ok (oW M_Bu_next_L93 (x, p)) s (nxP s) := by
  have e1 : (1 : Int32).toInt = 1 := rfl
  have e0 : (0 : Int32).toInt = 0 := rfl
  have e5 : (50000 : Int32).toInt = 50000 := rfl
  obtain ⟨⟨a1, a2, a3, a4, a5⟩, a6, a7⟩ := H.tI hx
  refine ok_W (nxI s x) (fun y _ => (50000 - y.2.toInt).toNat) ?_ (x, p) s ⟨rfl, rfl, p0, p1⟩
  rintro ⟨x', i⟩ t ⟨et, ex, i0, i1⟩
  dsimp only at ex i0 i1
  rw [et, ex]
  simp only [M_Bu_next_L93, ok_B, ok_C, ok_R, ok_L, ok_K, ok_GI, ok_GL, ok_PI, ok_PL, ok_AI, ok_AL, ok_SI, ok_SL, ok_CI, cmp_lt, cmp_le, cmp_gt, cmp_ge, cmp_eq, nar0, nar1, Sum.elim_inl, Sum.elim_inr, ok_PzT, ok_PzC, ok_PzP, ok_PrC, ok_PrP, ok_PrF, ok_PrN, ok_Ln, ok_CL, ok_Nw, ok_S, ok_Ks, ok_Nz]
  have es : (cS0 s x + cE s x).toInt = (cS0 s x).toInt + (cE s x).toInt := ktI_add (by omega)
  refine ⟨fun _ => ⟨rfl, fun q z => by simp at z⟩, fun c => ?_⟩
  rw [i32_le] at c
  change ¬ (cS0 s x + cE s x).toInt ≤ i.toInt at c
  have r : 0 ≤ i ∧ i < 50000 := ⟨by rw [i32_le]; omega, by rw [i32_lt]; omega⟩
  have ei : (i + 1).toInt = i.toInt + 1 := by rw [ktI_add] <;> omega
  refine ⟨r, fun _ => ⟨⟨rfl, rfl, by dsimp only; omega, by dsimp only; omega⟩, by omega⟩, fun _ => ⟨rfl, fun q z => ?_⟩⟩
  have q0 : i = q := by simpa using z
  rw [← q0]
  have ed : (i - cS0 s x).toInt = i.toInt - (cS0 s x).toInt := by rw [ktI_sub] <;> omega
  refine ⟨x, i - cS0 s x, hx, by rw [i32_le]; omega, by rw [i32_lt]; omega, toInt_inj ?_⟩
  rw [ktI_add] <;> omega
theorem next_ok {s : S1} {n : Nat × Nat} (h : Pf s n) : ok M_Bu_next s (fun _ t => Pq t n) := by
  have a5 := h.a5
  have W := h.w
  have H := W.hi
  simp only [M_Bu_next, ok_B, ok_C, ok_R, ok_L, ok_K, ok_GI, ok_GL, ok_PI, ok_PL, ok_AI, ok_AL, ok_SI, ok_SL, ok_CI, cmp_lt, cmp_le, cmp_gt, cmp_ge, cmp_eq, nar0, nar1, Sum.elim_inl, Sum.elim_inr, ok_PzT, ok_PzC, ok_PzP, ok_PrC, ok_PrP, ok_PrF, ok_PrN, ok_Ln, ok_CL, ok_Nw, ok_S, ok_Ks, ok_Nz]
  refine ok_mono (hasTable_ok h) ?_
  rintro r t (⟨r1, et, c⟩ | ⟨r0, q⟩)
  · rw [et]
    refine ⟨fun z => by rw [r1] at z; exact absurd z (by decide), fun _ => ?_⟩
    rw [ok_vA a5 (by decide), ok_kA a5 (by decide)]
    have l5 := h.s5 c
    obtain ⟨⟨b1, b2, b3, b4, b5⟩, b6, b7⟩ := H.tI l5
    have j90 : ∀ p : Int32, (cS0 s (rv s 132 0).toInt32).toInt ≤ p.toInt → p.toInt ≤ (cS0 s (rv s 132 0).toInt32).toInt + (cE s (rv s 132 0).toInt32).toInt → ok (M_Bu_next_j90 (rv s 132 0).toInt32 p) s (fun _ t => Pq t n) := fun p p0 p1 => by
      simp only [M_Bu_next_j90, ok_B, ok_C, ok_R, ok_L, ok_K, ok_GI, ok_GL, ok_PI, ok_PL, ok_AI, ok_AL, ok_SI, ok_SL, ok_CI, cmp_lt, cmp_le, cmp_gt, cmp_ge, cmp_eq, nar0, nar1, Sum.elim_inl, Sum.elim_inr, ok_PzT, ok_PzC, ok_PzP, ok_PrC, ok_PrP, ok_PrF, ok_PrN, ok_Ln, ok_CL, ok_Nw, ok_S, ok_Ks, ok_Nz]
      refine ok_mono (nextL_ok H l5 p0 p1) ?_
      rintro e u ⟨eu, he⟩
      rw [eu]
      rcases e with p | p
      · have it := he p rfl
        obtain ⟨c1, c2, c3⟩ := it.v H
        simp only [Sum.elim_inl, Sum.elim_inr, ok_B, ok_C, ok_R, ok_L, ok_K, ok_GI, ok_GL, ok_PI, ok_PL, ok_AI, ok_AL, ok_SI, ok_SL, ok_CI, cmp_lt, cmp_le, cmp_gt, cmp_ge, cmp_eq, nar0, nar1, Sum.elim_inl, Sum.elim_inr, ok_PzT, ok_PzC, ok_PzP, ok_PrC, ok_PrP, ok_PrF, ok_PrN, ok_Ln, ok_CL, ok_Nw, ok_S, ok_Ks, ok_Nz]
        refine ⟨c1, c1, ?_⟩
        refine ok_mono (h.1.add c2) ?_
        rintro - v ⟨q3, kx⟩
        refine q3.entry (.inr ?_)
        obtain ⟨y, i, hy, i0, i1, e⟩ := it
        have gi : ∀ f j, f ≠ 17282 → gI v f j = gI s f j := fun f j q => kx.1 f j q
        refine ⟨y, i, ?_, i0, ?_, ?_⟩
        · rw [(cRx.lw (.inr (.inl rfl)) kx).lv']
          exact hy
        · rw [show cE v y = cE s y from gi _ _ (by decide)]
          exact i1
        · rw [show cS0 v y = cS0 s y from gi _ _ (by decide)]
          exact e
      · simp only [Sum.elim_inl, Sum.elim_inr, ok_B, ok_C, ok_R, ok_L, ok_K, ok_GI, ok_GL, ok_PI, ok_PL, ok_AI, ok_AL, ok_SI, ok_SL, ok_CI, cmp_lt, cmp_le, cmp_gt, cmp_ge, cmp_eq, nar0, nar1, Sum.elim_inl, Sum.elim_inr, ok_PzT, ok_PzC, ok_PzP, ok_PrC, ok_PrP, ok_PrF, ok_PrN, ok_Ln, ok_CL, ok_Nw, ok_S, ok_Ks, ok_Nz]
        exact h.1.addP (cV.lit (by decide))
    refine ⟨H.1.2 _ l5.1.1 l5.1.2, fun _ => j90 _ (Int.le_refl _) (by show (cS0 s (rv s 132 0).toInt32).toInt ≤ _; omega), fun _ => ?_⟩
    rw [ok_kA a5 (by decide), ok_vA a5 (by decide)]
    refine ok_mono (find_ok H l5 _ _) ?_
    rintro p u ⟨eu, hp⟩
    rw [eu]
    refine ⟨fun p0 => ?_, fun _ => h.1.fail 6⟩
    rcases hp with z | ⟨i, i0, i1, ep⟩
    · rw [z] at p0
      exact absurd p0 (by decide)
    · have e1 : (1 : Int32).toInt = 1 := rfl
      have e0 : (0 : Int32).toInt = 0 := rfl
      rw [i32_le] at i0
      rw [i32_lt] at i1
      have s1 : (cS0 s (rv s 132 0).toInt32 + i).toInt = (cS0 s (rv s 132 0).toInt32).toInt + i.toInt := ktI_add (by omega)
      have s2 : (p + 1).toInt = p.toInt + 1 := by
        rw [ktI_add] <;> rw [ep, s1] <;> omega
      refine j90 _ ?_ ?_
      · rw [s2, ep, s1]
        omega
      · rw [s2, ep, s1]
        omega
  · exact ⟨fun _ => .inr q, fun z => absurd r0 z⟩
def sgQ (s : S1) (r : Int32) (t : S1) : Prop := t = s ∧ (r = 0 ∨ r = 1)
theorem sign_ok {s : S1} {n : Nat × Nat} (h : Pf s n) : ok M_Bu_isNumberSign s (sgQ s) := by
  have a5 := h.a5
  simp only [M_Bu_isNumberSign, M_Bu_isNumberSign_j37, ok_B, ok_C, ok_R, ok_L, ok_K, ok_GI, ok_GL, ok_PI, ok_PL, ok_AI, ok_AL, ok_SI, ok_SL, ok_CI, cmp_lt, cmp_le, cmp_gt, cmp_ge, cmp_eq, nar0, nar1, Sum.elim_inl, Sum.elim_inr, ok_PzT, ok_PzC, ok_PzP, ok_PrC, ok_PrP, ok_PrF, ok_PrN, ok_Ln, ok_CL, ok_Nw, ok_S, ok_Ks, ok_Nz]
  rw [ok_kA a5 (by decide)]
  refine ⟨fun c => ?_, fun _ => ⟨rfl, .inl rfl⟩⟩
  rw [ok_bF h c, h.pr c]
  obtain ⟨-, -, l3, l4⟩ := h.w.len (h.s4 c)
  have e1 : (1 : Int32).toInt = 1 := rfl
  refine ⟨fun z => ⟨⟨by decide, ?_⟩, fun _ => ⟨rfl, .inr rfl⟩, fun _ => ⟨rfl, .inl rfl⟩⟩, fun _ => ⟨rfl, .inl rfl⟩⟩
  rw [z]
  decide
/-- the smaller of two longs -/
def mnL (a b : Int64) (s : S1) (r : Int64) (t : S1) : Prop := t = s ∧ (r = a ∨ r = b) ∧ r.toInt ≤ a.toInt ∧ r.toInt ≤ b.toInt
def mxL (a b : Int64) (s : S1) (r : Int64) (t : S1) : Prop := t = s ∧ (r = a ∨ r = b) ∧ a.toInt ≤ r.toInt ∧ b.toInt ≤ r.toInt
theorem minL_ok (a b : Int64) (s : S1) : ok (M_Mth_min_ a b) s (mnL a b s) := by
  simp only [M_Mth_min_, ok_B, ok_C, ok_R, ok_L, ok_K, ok_GI, ok_GL, ok_PI, ok_PL, ok_AI, ok_AL, ok_SI, ok_SL, ok_CI, cmp_lt, cmp_le, cmp_gt, cmp_ge, cmp_eq, nar0, nar1, Sum.elim_inl, Sum.elim_inr, ok_PzT, ok_PzC, ok_PzP, ok_PrC, ok_PrP, ok_PrF, ok_PrN, ok_Ln, ok_CL, ok_Nw, ok_S, ok_Ks, ok_Nz]
  refine ⟨fun c => ?_, fun c => ?_⟩
  · rw [i64_lt] at c
    exact ⟨rfl, .inr rfl, by omega, by omega⟩
  · rw [i64_lt] at c
    exact ⟨rfl, .inl rfl, by omega, by omega⟩
theorem maxL_ok (a b : Int64) (s : S1) : ok (M_Mth_max_ a b) s (mxL a b s) := by
  simp only [M_Mth_max_, ok_B, ok_C, ok_R, ok_L, ok_K, ok_GI, ok_GL, ok_PI, ok_PL, ok_AI, ok_AL, ok_SI, ok_SL, ok_CI, cmp_lt, cmp_le, cmp_gt, cmp_ge, cmp_eq, nar0, nar1, Sum.elim_inl, Sum.elim_inr, ok_PzT, ok_PzC, ok_PzP, ok_PrC, ok_PrP, ok_PrF, ok_PrN, ok_Ln, ok_CL, ok_Nw, ok_S, ok_Ks, ok_Nz]
  refine ⟨fun c => ?_, fun c => ?_⟩
  · rw [i64_lt] at c
    exact ⟨rfl, .inr rfl, by omega, by omega⟩
  · rw [i64_lt] at c
    exact ⟨rfl, .inl rfl, by omega, by omega⟩
theorem i64n {x : Int64} (h : -2147483648 ≤ x.toInt ∧ x.toInt < 2147483648) : x.toInt32.toInt = x.toInt := by
  rw [Int64.toInt_toInt32]
  exact Int.bmod_eq_of_le (by omega) (by omega)
theorem ka64 {a b : Int64} (h : -9223372036854775808 ≤ a.toInt + b.toInt ∧ a.toInt + b.toInt < 9223372036854775808) : (a + b).toInt = a.toInt + b.toInt := by
  rw [Int64.toInt_add]
  exact Int.bmod_eq_of_le (by omega) (by omega)
/-- the arguments' row has changed -/
theorem St3.arg {s t : S1} {n : Nat × Nat} (h : St3 s n) (kx : cRx 132 s t) (r : cRow (cLv false s) t 132) : St3 t n := by
  obtain ⟨W, F, h1, t3, row⟩ := h
  have l := cRx.lw (.inl rfl) kx
  obtain ⟨q1, q2, q3, q4⟩ := cRx.kept (.inl rfl) kx W (fun _ => r)
  refine ⟨l.w W F.weak q1 q2 q3 q4, l.fr W F (fun _ => rfl), ?_, (kx.1 _ _ (by decide)).trans t3, ?_⟩
  · rw [l.cur, kx.1 _ _ (by decide)]
    exact h1
  · rw [l.lv']
    exact row.up (fun _ _ q => q) (kx.1 _ _ (by decide)) (fun j => kx.2.2.1 _ _ _ (by decide)) (fun j => kx.2.2.2 _ _ _ (by decide))
theorem St3.take {s : S1} {n : Nat × Nat} (h : St3 s n) : ok (M_Ro_takeAll 135 0 132 0) s (fun _ t => St3 t n ∧ cRy 135 132 s t) := by
  obtain ⟨W, F, h1, t3, row⟩ := h
  refine ok_mono (rTake_ok (r := 135) (q := 132) (by decide) W.args) ?_
  rintro - t ⟨⟨k1, k2, k3, k4⟩, rt, -, rz⟩
  have l : lw true s t := ⟨fun f j q => k1 f j (by unfold lwX at q; omega), fun j _ => ⟨k1 _ _ (by decide), k1 _ _ (by decide)⟩, fun j _ => ⟨k1 _ _ (by decide), k2 _ _⟩, fun f j _ => k2 f j, fun a j k q => k3 a j k (by omega), fun j k _ => k3 _ j k (by decide), fun a j k q => k4 a j k (by omega), fun j k _ => k4 _ j k (by decide)⟩
  have co := (W.hi.dep W.cur).1
  have rg : rgV t := by
    refine ⟨fun i i0 i1 => ?_, fun o => ?_⟩
    · rw [l.cur, l.usd] at i1
      rw [l.cur, l.lv', show oRk t (mCur s) i = oRk s (mCur s) i from k3 _ _ _ (by decide), show oRv t (mCur s) i = oRv s (mCur s) i from k4 _ _ _ (by decide)]
      exact co.2.1.2 i i0 i1
    · rw [l.cur, l.dep] at o
      rw [l.etF, l.lv', show mJk t (tF s) = mJk s (tF s) from k1 _ _ (by decide), show mJv t (tF s) = mJv s (tF s) from k2 _ _]
      obtain ⟨j, j0, j1, -, -, e'⟩ := tF_of W o
      rw [e']
      exact (co.2.2.1.2 j j0 j1).2
  have Wt := l.w W F.weak rg (cRow.nil rz) (W.opn.up (fun _ _ q => q) (k1 _ _ (by decide)) (fun j => k3 _ _ _ (by decide)) (fun j => k4 _ _ _ (by decide))) (W.last.up (fun _ _ q => q) (k1 _ _ (by decide)) (fun j => k3 _ _ _ (by decide)) (fun j => k4 _ _ _ (by decide)))
  refine ⟨⟨Wt, l.fr W F (fun _ => rfl), ?_, (k1 _ _ (by decide)).trans t3, by rw [l.lv']; exact rt⟩, k1, k2, k3, k4⟩
  rw [l.cur, k1 _ _ (by decide)]
  exact h1
theorem select_ok {s : S1} {n : Nat × Nat} (h : Pf s n) : ok M_Bu_select s (fun _ t => Pq t n) := by
  have a5 := h.a5
  have W := h.w
  have an := W.args.n
  simp only [M_Bu_select, M_Bu_select_j55, ok_B, ok_C, ok_R, ok_L, ok_K, ok_GI, ok_GL, ok_PI, ok_PL, ok_AI, ok_AL, ok_SI, ok_SL, ok_CI, cmp_lt, cmp_le, cmp_gt, cmp_ge, cmp_eq, nar0, nar1, Sum.elim_inl, Sum.elim_inr, ok_PzT, ok_PzC, ok_PzP, ok_PrC, ok_PrP, ok_PrF, ok_PrN, ok_Ln, ok_CL, ok_Nw, ok_S, ok_Ks, ok_Nz]
  rw [ok_vA a5 (by decide)]
  refine ok_mono (sign_ok h) ?_
  rintro r t ⟨et, -⟩
  rw [et]
  refine ⟨fun _ => ?_, fun _ => h.1.addP (cV.lit (by decide))⟩
  rw [ok_kA a5 (by decide)]
  refine ⟨fun _ => ⟨fun c => ?_, fun _ => h.1.fail 7⟩, fun _ => h.1.fail 7⟩
  rw [i64_lt] at c
  have c0 : (0 : Int64).toInt = 0 := rfl
  refine ok_mono (minL_ok _ _ s) ?_
  rintro v u ⟨eu, v0, v1, v2⟩
  rw [eu]
  have e2 : (gI s 16898 0).toInt64.toInt = (gI s 16898 0).toInt := Int32.toInt_toInt64 _
  have an' : 0 ≤ (gI s 16898 0).toInt ∧ (gI s 16898 0).toInt ≤ 512 := an
  have vn : 0 ≤ v.toInt := by
    rcases v0 with z | z
    · rw [z]
      omega
    · rw [z]
      omega
  have e3 : v.toInt32.toInt = v.toInt := i64n (by omega)
  refine ok_mono (rDrop_ok (r := 132) (m := v.toInt32) W.args (by omega)) ?_
  rintro - t1 ⟨kx, r1, -⟩
  refine ok_mono (h.1.arg kx r1).take ?_
  rintro - t2 q
  exact .inl q.1
def ffQ (s : S1) (r : Int64) (t : S1) : Prop := t = s ∧ 0 ≤ r.toInt
theorem front_ok {s : S1} {k : Nat} (hk : k ≤ 400000) (a : Int64) : ok (M_Bu_fromFront a (Int32.ofNat k)) s (ffQ s) := by
  have el := len_toInt hk
  have c0 : (0 : Int64).toInt = 0 := rfl
  have c1 : (1 : Int64).toInt = 1 := rfl
  have en : (-Int32.ofNat k).toInt = -(k : Int) := by
    rw [Int32.toInt_neg, el]
    exact Int.bmod_eq_of_le (by omega) (by omega)
  have e2 : (-Int32.ofNat k).toInt64.toInt = -(k : Int) := by rw [Int32.toInt_toInt64, en]
  have e3 : (Int32.ofNat k).toInt64.toInt = k := by rw [Int32.toInt_toInt64, el]
  simp only [M_Bu_fromFront, ok_B, ok_C, ok_R, ok_L, ok_K, ok_GI, ok_GL, ok_PI, ok_PL, ok_AI, ok_AL, ok_SI, ok_SL, ok_CI, cmp_lt, cmp_le, cmp_gt, cmp_ge, cmp_eq, nar0, nar1, Sum.elim_inl, Sum.elim_inr, ok_PzT, ok_PzC, ok_PzP, ok_PrC, ok_PrP, ok_PrF, ok_PrN, ok_Ln, ok_CL, ok_Nw, ok_S, ok_Ks, ok_Nz]
  refine ⟨fun c => ⟨fun d => ?_, fun _ => ⟨rfl, Int.le_refl _⟩⟩, fun c => ⟨rfl, ?_⟩⟩
  · rw [i64_lt] at c
    rw [i64_le, e2] at d
    have e4 : ((Int32.ofNat k).toInt64 + a).toInt = k + a.toInt := by rw [ka64, e3] <;> omega
    refine ⟨rfl, ?_⟩
    rw [ka64, e4] <;> omega
  · rw [i64_lt] at c
    omega
theorem tellByte_ok {s : S1} {n : Nat × Nat} (h : Pf s n) : ok M_Bu_tellByte s (fun _ t => Pq t n) := by
  have a5 := h.a5
  have W := h.w
  simp only [M_Bu_tellByte, ok_B, ok_C, ok_R, ok_L, ok_K, ok_GI, ok_GL, ok_PI, ok_PL, ok_AI, ok_AL, ok_SI, ok_SL, ok_CI, cmp_lt, cmp_le, cmp_gt, cmp_ge, cmp_eq, nar0, nar1, Sum.elim_inl, Sum.elim_inr, ok_PzT, ok_PzC, ok_PzP, ok_PrC, ok_PrP, ok_PrF, ok_PrN, ok_Ln, ok_CL, ok_Nw, ok_S, ok_Ks, ok_Nz]
  refine ok_mono (hasString_ok h (by decide)) ?_
  rintro r t (⟨r1, et, c⟩ | ⟨r0, q⟩)
  · rw [et]
    refine ⟨fun z => by rw [r1] at z; exact absurd z (by decide), fun _ => ?_⟩
    rw [ok_bF h c, h.pr c, ok_kA a5 (by decide)]
    obtain ⟨-, -, l3, l4⟩ := W.len (h.s4 c)
    have j42 : ∀ k : Int64, ok (M_Bu_tellByte_j42 (rv s 132 0).toInt32 k) s (fun _ t => Pq t n) := fun k => by
      simp only [M_Bu_tellByte_j42, M_Bu_tellByte_j57, ok_B, ok_C, ok_R, ok_L, ok_K, ok_GI, ok_GL, ok_PI, ok_PL, ok_AI, ok_AL, ok_SI, ok_SL, ok_CI, cmp_lt, cmp_le, cmp_gt, cmp_ge, cmp_eq, nar0, nar1, Sum.elim_inl, Sum.elim_inr, ok_PzT, ok_PzC, ok_PzP, ok_PrC, ok_PrP, ok_PrF, ok_PrN, ok_Ln, ok_CL, ok_Nw, ok_S, ok_Ks, ok_Nz]
      refine ⟨fun _ => h.1.addP (cV.lit (by decide)), fun c1 => ⟨fun c2 => ⟨?_, h.1.addP (cV.lit (by decide))⟩, fun _ => h.1.addP (cV.lit (by decide))⟩⟩
      rw [i64_lt] at c1
      rw [i64_le, Int32.toInt_toInt64, l4] at c2
      have k1 : (1 : Int64).toInt = 1 := rfl
      have e1 : (1 : Int32).toInt = 1 := rfl
      have e0 : (0 : Int32).toInt = 0 := rfl
      have e3 : k.toInt32.toInt = k.toInt := i64n (by omega)
      have e4 : (k.toInt32 - 1).toInt = k.toInt - 1 := by rw [ktI_sub, e3] <;> omega
      rw [i32_le, i32_lt, l4]
      omega
    refine ⟨fun _ => j42 1, fun _ => ?_⟩
    rw [ok_vA a5 (by decide)]
    refine ok_mono (front_ok l3 _) ?_
    rintro k u ⟨eu, -⟩
    rw [eu]
    exact j42 k
  · exact ⟨fun _ => .inr q, fun z => absurd r0 z⟩
theorem made_ok {s : S1} {n : Nat × Nat} {k x : Int32} (h : St3 s n) (hx : x < 0 ∨ cV (cLv false s) k x.toInt64) : ok (M_Bu_addMade k x) s (fun _ t => Pq t n) := by
  simp only [M_Bu_addMade, ok_B, ok_C, ok_R, ok_L, ok_K, ok_GI, ok_GL, ok_PI, ok_PL, ok_AI, ok_AL, ok_SI, ok_SL, ok_CI, cmp_lt, cmp_le, cmp_gt, cmp_ge, cmp_eq, nar0, nar1, Sum.elim_inl, Sum.elim_inr, ok_PzT, ok_PzC, ok_PzP, ok_PrC, ok_PrP, ok_PrF, ok_PrN, ok_Ln, ok_CL, ok_Nw, ok_S, ok_Ks, ok_Nz]
  refine ⟨fun c => ?_, fun _ => h.fail _⟩
  rcases hx with z | z
  · rw [i32_lt] at z
    rw [i32_le] at c
    omega
  · exact h.addP z
theorem neg_of {x : Int32} (h : x = -10 ∨ x = -11) : x < 0 := by
  rcases h with z | z <;> rw [z] <;> decide
/-- a string was made, or could not be -/
theorem madeS_ok {s t : S1} {n : Nat × Nat} {r : Int32 × (Nat × Nat)} (h : Pf s n) (z0 : rwS s 135 = 0) (q : inQ s (0, 0) r t) : ok (M_Bu_addMade 4 r.1) t (fun _ u => Pq u r.2) := by
  obtain ⟨mk, c⟩ := inQ.w h.w h.1.2.1 q
  refine made_ok (mk.pf h z0).1.1 ?_
  rcases c with z | z
  · exact .inl (neg_of z)
  · exact .inr (cV.obj (.inl rfl) z.1 z.2)
theorem cut_ok {s : S1} {n : Nat × Nat} (h : Pf s n) (z0 : rwS s 135 = 0) : ok (M_Bu_cut n) s (fun r t => Pq t r.2) := by
  have a5 := h.a5
  have W := h.w
  simp only [M_Bu_cut, ok_B, ok_C, ok_R, ok_L, ok_K, ok_GI, ok_GL, ok_PI, ok_PL, ok_AI, ok_AL, ok_SI, ok_SL, ok_CI, cmp_lt, cmp_le, cmp_gt, cmp_ge, cmp_eq, nar0, nar1, Sum.elim_inl, Sum.elim_inr, ok_PzT, ok_PzC, ok_PzP, ok_PrC, ok_PrP, ok_PrF, ok_PrN, ok_Ln, ok_CL, ok_Nw, ok_S, ok_Ks, ok_Nz]
  refine ok_mono (hasString_ok h (by decide)) ?_
  rintro r t (⟨r1, et, c⟩ | ⟨r0, q⟩)
  · rw [et]
    refine ⟨fun z => by rw [r1] at z; exact absurd z (by decide), fun _ => ?_⟩
    rw [ok_bF h c, h.pr c, ok_kA a5 (by decide)]
    obtain ⟨-, -, l3, l4⟩ := W.len (h.s4 c)
    have c1 : (1 : Int64).toInt = 1 := rfl
    have e1 : (1 : Int32).toInt = 1 := rfl
    have e0 : (0 : Int32).toInt = 0 := rfl
    have e6 : (Int32.ofNat (lnS s 146 (rv s 132 0).toInt32)).toInt64.toInt = lnS s 146 (rv s 132 0).toInt32 := by rw [Int32.toInt_toInt64, l4]
    have j73 : ∀ a b : Int64, 0 ≤ b.toInt → ok (M_Bu_cut_j73 (rv s 132 0).toInt32 a n b) s (fun r t => Pq t r.2) := fun a b b0 => by
      simp only [M_Bu_cut_j73, ok_B, ok_C, ok_R, ok_L, ok_K, ok_GI, ok_GL, ok_PI, ok_PL, ok_AI, ok_AL, ok_SI, ok_SL, ok_CI, cmp_lt, cmp_le, cmp_gt, cmp_ge, cmp_eq, nar0, nar1, Sum.elim_inl, Sum.elim_inr, ok_PzT, ok_PzC, ok_PzP, ok_PrC, ok_PrP, ok_PrF, ok_PrN, ok_Ln, ok_CL, ok_Nw, ok_S, ok_Ks, ok_Nz]
      refine ok_mono (maxL_ok _ _ s) ?_
      rintro v u ⟨eu, -, -, v2⟩
      rw [eu]
      have ep : ((Int32.ofNat (lnS s 146 (rv s 132 0).toInt32)).toInt64 + 1).toInt = lnS s 146 (rv s 132 0).toInt32 + 1 := by rw [ka64, e6] <;> omega
      refine ok_mono (minL_ok _ _ s) ?_
      rintro f u2 ⟨eu2, f0, f1, f2⟩
      rw [eu2]
      rw [ep] at f2
      refine ok_mono (minL_ok _ _ s) ?_
      rintro g u3 ⟨eu3, g0, g1, g2⟩
      rw [eu3]
      rw [e6] at g2
      have fp : 1 ≤ f.toInt := by
        rcases f0 with z | z
        · rw [z]
          omega
        · rw [z, ep]
          omega
      have gp : 0 ≤ g.toInt := by
        rcases g0 with z | z
        · rw [z]
          exact b0
        · rw [z, e6]
          omega
      have ef : f.toInt32.toInt = f.toInt := i64n (by omega)
      have eg : g.toInt32.toInt = g.toInt := i64n (by omega)
      have ed : (g.toInt32 - f.toInt32).toInt = g.toInt - f.toInt := by rw [ktI_sub, ef, eg] <;> omega
      have ed1 : (g.toInt32 - f.toInt32 + 1).toInt = g.toInt - f.toInt + 1 := by rw [ktI_add, ed] <;> omega
      have ef1 : (f.toInt32 - 1).toInt = f.toInt - 1 := by rw [ktI_sub, ef] <;> omega
      refine ok_mono (kmax_ok _ _ s) ?_
      rintro m u4 ⟨eu4, m0, m1, m2⟩
      rw [eu4]
      have mm : m.toInt = 0 ∨ m.toInt = g.toInt - f.toInt + 1 := by
        rcases m0 with z | z
        · left
          rw [z]
          rfl
        · right
          rw [z, ed1]
      refine ok_mono (intern_ok W.hr W.ro 146 _ _ _ (.inl rfl) (fun _ => ⟨by decide, by omega, by omega, by omega, l3⟩)) ?_
      rintro w u5 q
      exact madeS_ok h z0 q
    have j42 : ∀ a : Int64, ok (M_Bu_cut_j42 (rv s 132 0).toInt32 n a) s (fun r t => Pq t r.2) := fun a => by
      simp only [M_Bu_cut_j42, ok_B, ok_C, ok_R, ok_L, ok_K, ok_GI, ok_GL, ok_PI, ok_PL, ok_AI, ok_AL, ok_SI, ok_SL, ok_CI, cmp_lt, cmp_le, cmp_gt, cmp_ge, cmp_eq, nar0, nar1, Sum.elim_inl, Sum.elim_inr, ok_PzT, ok_PzC, ok_PzP, ok_PrC, ok_PrP, ok_PrF, ok_PrN, ok_Ln, ok_CL, ok_Nw, ok_S, ok_Ks, ok_Nz]
      rw [ok_kA a5 (by decide)]
      refine ⟨fun _ => j73 _ _ (by rw [e6]; omega), fun _ => ?_⟩
      rw [ok_vA a5 (by decide)]
      refine ok_mono (front_ok l3 _) ?_
      rintro k u ⟨eu, k0⟩
      rw [eu]
      exact j73 _ _ k0
    refine ⟨fun _ => j42 1, fun _ => ?_⟩
    rw [ok_vA a5 (by decide)]
    refine ok_mono (front_ok l3 _) ?_
    rintro k u ⟨eu, k0⟩
    rw [eu]
    exact j42 k
  · exact ⟨fun _ => .inr q, fun z => absurd r0 z⟩
