/-! The class: a load: the names. -/
theorem Bi.stay {s0 t : S1} {m : Nat × Nat} {x : Int32} (b : Bi s0 m t) (hx : cLv false t x 4) : Bi s0 m (sI t 18563 x 1) ∧ Ke0 t (sI t 18563 x 1) ∧ cSy (sI t 18563 x 1) x = 1 := by
  have yw : cYw t (sI t 18563 x 1) := ⟨fun f i q => by rw [gI_sI, if_neg (fun z => q z.1)], fun _ _ => rfl, fun _ _ _ => rfl, fun _ _ _ => rfl⟩
  have y1 : cSy (sI t 18563 x 1) x = 1 := by
    unfold cSy
    rw [gI_sI, if_pos ⟨rfl, rfl⟩]
  have hy : ∀ y, cSy (sI t 18563 x 1) y = cSy t y ∨ (cSy (sI t 18563 x 1) y = 1 ∧ cTy t y = 4) := fun y => by
    by_cases z : y = x
    · rw [z]
      exact .inr ⟨y1, hx.2.1⟩
    · left
      unfold cSy
      rw [gI_sI, if_neg (fun q => z q.2)]
  have ke : Ke0 t (sI t 18563 x 1) := ⟨⟨fun f j q => yw.1 f j (fun z => q (by unfold kbX; omega)), fun _ _ _ _ => rfl, fun _ _ _ _ => rfl⟩, ⟨fun y u _ l => (cLv.yw yw).2 l, fun y l z => (hy y).elim (fun q => by rw [q]; exact z) (fun q => by rw [q.1]; decide)⟩, fun _ _ => rfl, fun _ _ => rfl⟩
  refine ⟨b.ke ke (b.1.yw yw hy) (cRo.fi (x := 0) b.2.1 (fun f j q => yw.1 f j (by omega)) (fun j _ => rfl)) (fun y l => (cLv.yw yw).1 l), ke, y1⟩
theorem Bi.nam {s0 t : S1} {m : Nat × Nat} {i x : Int32} (b : Bi s0 m t) : Bi s0 m (sA t 115 0 i x) := by
  have A : ∀ a j k, a ≠ 115 → gA (sA t 115 0 i x) a j k = gA t a j k := fun a j k q => by rw [gA_sA, if_neg (fun z => q z.1)]
  refine ⟨b.1.sm ⟨fun f j q _ _ => rfl, fun f j _ _ _ => rfl, fun a j k q _ => A a j k (by unfold hpA at q; omega), fun a j k q _ => rfl⟩, cRo.fi (x := 0) b.2.1 (fun f j q => rfl) (fun j _ => A _ _ _ (by decide)), b.2.2.1.trans ⟨fun f j q => rfl, fun a j k q => A a j k (fun z => q (by unfold kbA; omega)), fun a j k q => rfl⟩, b.2.2.2⟩
theorem Bi.use0 {s0 t : S1} {m : Nat × Nat} (b : Bi s0 m t) : Bi s0 m (sI t 14217 0 0) ∧ Ke0 t (sI t 14217 0 0) ∧ wkI (sI t 14217 0 0) ∧ gI (sI t 14217 0 0) 14217 0 = 0 := by
  have wu : wuQ t (sI t 14217 0 0) := ⟨fun f j q => by rw [gI_sI, if_neg (fun z => q (by unfold wuX; omega))], fun _ _ => rfl, fun _ _ _ _ => rfl, fun _ _ _ _ => rfl⟩
  have e : gI (sI t 14217 0 0) 14217 0 = 0 := by rw [gI_sI, if_pos ⟨rfl, rfl⟩]
  have e2 : gI (sI t 14217 0 0) 15230 0 = gI t 15230 0 := by rw [gI_sI, if_neg (fun z => absurd z.1 (by decide))]
  have R := b.2.1.wu wu e2 (.inr trivial)
  refine ⟨wu.bi b R, wu.ke, ⟨by rw [e]; decide, fun _ => ?_⟩, e⟩
  have := R.wl
  rw [e]
  show (0 : Int) ≤ _
  omega
/-- spaces in the first bytes of a text -/
def spc (k n : Nat) : Nat := ((stB k).take n).countP (fun b => b == 32)
theorem spc_s {k n : Nat} (h : n < stL k) : spc k (n + 1) = spc k n + if (stB k).getD n 0 = 32 then 1 else 0 := by
  have h' : n < (stB k).length := h
  unfold spc
  rw [List.take_succ, List.countP_append, List.getElem?_eq_getElem h', List.getD_eq_getElem?_getD, List.getElem?_eq_getElem h']
  by_cases z : (stB k)[n] = 32
  · simp [z]
  · simp [z]
def nmI (s0 : S1) (k : Nat) (a : Nat) (y : Nat × Int32 × Int32 × (Nat × Nat)) (t : S1) : Prop := y.1 = k ∧ (∃ j : Nat, y.2.2.1 = Int32.ofNat j ∧ j ≤ stL k ∧ y.2.1.toInt = a + spc k j ∧ (gI t 14217 0).toInt ≤ j) ∧ y.2.1.toInt ≤ 57 ∧ Bi s0 y.2.2.2 t ∧ wkI t ∧ Nmk y.2.1.toInt t ∧ cLv false t (gI t 16394 0) 5 ∧ ∀ j q, gB t 106 j q = gB s0 106 j q
def nmP (s0 : S1) (k : Nat) (a : Nat) (e : (Nat × Nat) ⊕ (Nat × Nat)) (t : S1) : Prop := Sum.elim (fun m => Bi s0 m t) (fun m => Bi s0 m t ∧ Nmk (a + spc k (stL k)) t ∧ cLv false t (gI t 16394 0) 5 ∧ ∀ j q, gB t 106 j q = gB s0 106 j q) e
theorem nmL_ok {s0 s : S1} {n : Nat × Nat} {k a : Nat} {l : Int32} (ld : gI s0 14221 0 = 1) (hk : stL k ≤ 1000) (hl : l.toInt = a) (ha : a + spc k (stL k) ≤ 57) (b : Bi s0 n s) (w : wkI s) (u0 : gI s 14217 0 = 0) (nm : Nmk a s) (gl : cLv false s (gI s 16394 0) 5) (e6 : ∀ j q, gB s 106 j q = gB s0 106 j q) : ok (oW M_Ma_internNames_L13 (k, l, 0, n)) s (nmP s0 k a) := by
  have e1 : (1 : Int32).toInt = 1 := rfl
  have e0 : (0 : Int32).toInt = 0 := rfl
  have e57 : (57 : Int32).toInt = 57 := rfl
  have eL : (stLI k).toInt = stL k := oI (by omega)
  have s00 : spc k 0 = 0 := rfl
  refine ok_W (nmI s0 k a) (fun y _ => ((stL k : Int) - y.2.2.1.toInt).toNat) ?_ (k, l, 0, n) s ⟨rfl, ⟨0, rfl, by omega, by dsimp only; rw [hl, s00]; omega, by rw [u0]; exact Int.le_refl _⟩, by dsimp only; omega, b, w, by dsimp only; rw [hl]; exact nm, gl, e6⟩
  rintro ⟨k', i, jj, m⟩ t ⟨ek, ⟨j, ej, j1, ei, ju⟩, i57, b, w, nm, gl, e6⟩
  dsimp only at ek ej ei i57 b nm
  rw [ek, ej]
  have oj : (Int32.ofNat j).toInt = j := oI (by omega)
  have ej1 : Int32.ofNat j + 1 = Int32.ofNat (j + 1) := toInt_inj (by rw [ktI_add, oj, oI (by omega), e1]; omega; rw [oj, e1]; omega)
  have i0 : 0 ≤ i.toInt := by omega
  have mono : spc k j ≤ spc k (stL k) := by
    unfold spc
    refine List.Sublist.countP_le ?_
    exact (List.take_prefix_take_left j1).sublist
  simp only [M_Ma_internNames_L13, M_Ma_internNames_j122, ok_B, ok_C, ok_R, ok_L, ok_K, ok_GI, ok_GL, ok_PI, ok_PL, ok_AI, ok_AL, ok_SI, ok_SL, ok_CI, cmp_lt, cmp_le, cmp_gt, cmp_ge, cmp_eq, nar0, nar1, Sum.elim_inl, Sum.elim_inr, ok_PzT, ok_PzC, ok_PzP, ok_PrC, ok_PrP, ok_PrF, ok_PrN, ok_Ln, ok_CL, ok_Nw, ok_S, ok_Ks, ok_Nz]
  refine ⟨fun c => ?_, fun c => ⟨fun c2 => ?_, fun c2 => ?_⟩⟩
  · rw [i32_le, eL, oj] at c
    have : j = stL k := by omega
    refine ⟨b, ?_, gl, e6⟩
    rw [← this, ← ei]
    exact nm
  · rw [i32_le, e57] at c2
    refine ⟨b, fun x x0 x1 => nm x x0 (by omega), gl, e6⟩
  · rw [i32_le, eL, oj] at c
    rw [i32_le, e57] at c2
    have jr : (0 : Int32) ≤ Int32.ofNat j ∧ Int32.ofNat j < stLI k := ⟨by rw [i32_le, oj]; omega, by rw [i32_lt, oj, eL]; omega⟩
    have ec : stC k (Int32.ofNat j) = (stB k).getD j 0 := by
      unfold stC
      rw [Int32.toNatClampNeg, oj]
      rfl
    have sp := spc_s (k := k) (n := j) (by omega)
    rw [← ec] at sp
    refine ⟨jr, fun c3 => ?_, fun c3 => ⟨jr, ?_⟩⟩
    · rw [if_pos c3] at sp
      have i1 : (i + 1).toInt = i.toInt + 1 := by rw [ktI_add] <;> omega
      have wl := b.2.1.wl
      have w1 := w.2 (by omega)
      refine ok_mono (intern_ok (b.hr ld).1 b.2.1 118 0 0 (gI t 14217 0) (.inr (.inl rfl)) (fun _ => ⟨by decide, by decide, w.1, ?_, ?_⟩)) ?_
      · have := (wk_ln t (by omega)).2
        omega
      · have := (wk_ln t (by omega)).2
        omega
      · rintro ⟨x, m'⟩ u q
        have q' : mbQ s0 t 4 (fun _ _ => True) (x, m') u := by
          rcases q with ⟨eu, l4, ro⟩ | q
          · rw [eu]
            refine ⟨⟨b.1, ro, b.2.2⟩, Ke0.refl t, .inr ⟨l4.1.1, l4, trivial⟩⟩
          · exact q.mb b ld (by decide)
        obtain ⟨bu, ke, xq⟩ := q'
        dsimp only at bu xq ⊢
        refine ⟨fun x0 => ?_, fun x0 => bu⟩
        have l4 : cLv false u x 4 := by
          rcases xq with z | z
          · rw [i32_lt] at z
            rw [i32_le] at x0
            omega
          · exact z.2.1
        have px := bu.1.1.2 x l4.1.1 l4.1.2
        obtain ⟨b1, k1, y1⟩ := bu.stay l4
        obtain ⟨b3, k3, w3, u3⟩ := (b1.nam (i := i) (x := x)).use0
        have keA : Ke0 t (sI u 18563 x 1) := ke.trans k1
        generalize sI u 18563 x 1 = u1 at b1 k1 y1 b3 k3 w3 u3 keA
        have lx : cLv false u1 x 4 := k1.2.1.1 x 4 (by decide) l4
        generalize hu3 : sI (sA u1 115 0 i x) 14217 0 0 = u3s at b3 k3 w3 u3 ⊢
        have lv3 : ∀ y z, z ≠ 0 → cLv false u1 y z → cLv false u3s y z := fun y z n h => k3.2.1.1 y z n h
        have sy3 : ∀ y, cLv false u1 y 4 → cSy u1 y ≠ 0 → cSy u3s y ≠ 0 := fun y h n => k3.2.1.2 y h n
        refine ⟨px, ⟨by rw [i32_le]; exact i0, by rw [i32_lt]; omega⟩, ⟨rfl, ⟨j + 1, ej1, by omega, by dsimp only; rw [i1, sp]; omega, by rw [u3]; show (0 : Int) ≤ _; omega⟩, by dsimp only; omega, b3, w3, fun y y0 y1' => ?_, ?_, fun p q => ?_⟩, by rw [ej1, oI (by omega)]; omega⟩
        · dsimp only at y1'
          rw [i1] at y1'
          rw [k3.2.2.1, gA_sA]
          by_cases z : y = i
          · rw [if_pos ⟨rfl, rfl, z⟩]
            exact ⟨lv3 x 4 (by decide) lx, sy3 x lx (by rw [y1]; decide)⟩
          · rw [if_neg (fun q => z q.2.2)]
            have : y.toInt ≠ i.toInt := fun q => z (toInt_inj q)
            have v := (nm.ke keA) y y0 (by omega)
            exact ⟨lv3 _ 4 (by decide) v.1, sy3 _ v.1 v.2⟩
        · rw [k3.1.1 16394 0 (by unfold kbX; decide)]
          show cLv false u3s (gI u1 16394 0) 5
          rw [keA.1.1 16394 0 (by unfold kbX; decide)]
          exact lv3 _ 5 (by decide) (keA.2.1.1 _ 5 (by decide) gl)
        · rw [k3.2.2.2]
          show gB u1 106 p q = _
          rw [keA.2.2.2]
          exact e6 p q
    · rw [if_neg c3] at sp
      refine ok_mono (putByte_ok b.2.1 w (by omega) _) ?_
      rintro ⟨uu, m'⟩ u ⟨wu, wk, ro, lu⟩
      have ke := wu.ke
      refine ⟨⟨rfl, ⟨j + 1, ej1, by omega, by dsimp only; rw [sp]; omega, by omega⟩, i57, wu.bi b ro, wk, nm.ke ke, ?_, fun p q => (ke.2.2.2 p q).trans (e6 p q)⟩, by rw [ej1, oI (by omega)]; omega⟩
      rw [ke.1.1 16394 0 (by unfold kbX; decide)]
      exact ke.2.1.1 _ 5 (by decide) gl
def inP (s0 : S1) (k : Nat) (a : Nat) (r : Int32 × (Nat × Nat)) (t : S1) : Prop := Bi s0 r.2 t ∧ (r.1 = 0 ∨ r.1 = 1) ∧ (r.1 ≠ 0 → Nmk (a + spc k (stL k)) t ∧ cLv false t (gI t 16394 0) 5 ∧ ∀ j q, gB t 106 j q = gB s0 106 j q)
theorem names__ok {s0 s : S1} {n : Nat × Nat} {k a : Nat} {l : Int32} (ld : gI s0 14221 0 = 1) (hk : stL k ≤ 1000) (hl : l.toInt = a) (ha : a + spc k (stL k) ≤ 57) (b : Bi s0 n s) (nm : Nmk a s) (gl : cLv false s (gI s 16394 0) 5) (e6 : ∀ j q, gB s 106 j q = gB s0 106 j q) : ok (M_Ma_internNames n k l) s (inP s0 k a) := by
  obtain ⟨b1, k1, w1, u1⟩ := b.use0
  simp only [M_Ma_internNames, ok_B, ok_C, ok_R, ok_L, ok_K, ok_GI, ok_GL, ok_PI, ok_PL, ok_AI, ok_AL, ok_SI, ok_SL, ok_CI, cmp_lt, cmp_le, cmp_gt, cmp_ge, cmp_eq, nar0, nar1, Sum.elim_inl, Sum.elim_inr, ok_PzT, ok_PzC, ok_PzP, ok_PrC, ok_PrP, ok_PrF, ok_PrN, ok_Ln, ok_CL, ok_Nw, ok_S, ok_Ks, ok_Nz]
  generalize sI s 14217 0 0 = s1 at b1 k1 w1 u1 ⊢
  refine ok_mono (nmL_ok ld hk hl ha b1 w1 u1 (nm.ke k1) ?_ (fun p q => (k1.2.2.2 p q).trans (e6 p q))) ?_
  · rw [k1.1.1 16394 0 (by unfold kbX; decide)]
    exact k1.2.1.1 _ 5 (by decide) gl
  · rintro (m | m) t q
    · simp only [Sum.elim_inl, ok_B, ok_C, ok_R, ok_L, ok_K, ok_GI, ok_GL, ok_PI, ok_PL, ok_AI, ok_AL, ok_SI, ok_SL, ok_CI, cmp_lt, cmp_le, cmp_gt, cmp_ge, cmp_eq, nar0, nar1, Sum.elim_inl, Sum.elim_inr, ok_PzT, ok_PzC, ok_PzP, ok_PrC, ok_PrP, ok_PrF, ok_PrN, ok_Ln, ok_CL, ok_Nw, ok_S, ok_Ks, ok_Nz]
      exact ⟨q, .inl rfl, fun z => absurd rfl z⟩
    · simp only [Sum.elim_inr, ok_B, ok_C, ok_R, ok_L, ok_K, ok_GI, ok_GL, ok_PI, ok_PL, ok_AI, ok_AL, ok_SI, ok_SL, ok_CI, cmp_lt, cmp_le, cmp_gt, cmp_ge, cmp_eq, nar0, nar1, Sum.elim_inl, Sum.elim_inr, ok_PzT, ok_PzC, ok_PzP, ok_PrC, ok_PrP, ok_PrF, ok_PrN, ok_Ln, ok_CL, ok_Nw, ok_S, ok_Ks, ok_Nz]
      exact ⟨q.1, .inr rfl, fun _ => q.2⟩
