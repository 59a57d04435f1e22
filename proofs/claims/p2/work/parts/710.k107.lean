/-! The class: a load: the constants, the globals. -/
theorem Bi.con {s0 t : S1} {m : Nat × Nat} {i : Int32} {v : Int64} (b : Bi s0 m t) : Bi s0 m (sB t 106 0 i v) := by
  have B : ∀ a j k, a ≠ 106 → gB (sB t 106 0 i v) a j k = gB t a j k := fun a j k q => by rw [gB_sB, if_neg (fun z => q z.1)]
  exact ⟨b.1.sm ⟨fun f j q _ _ => rfl, fun f j _ _ _ => rfl, fun a j k q _ => rfl, fun a j k q _ => B a j k (by unfold hpB at q; omega)⟩, cRo.fi (x := 0) b.2.1 (fun f j q => rfl) (fun j _ => rfl), b.2.2.1.trans ⟨fun f j q => rfl, fun a j k q => rfl, fun a j k q => B a j k (fun z => q (by unfold kbB; omega))⟩, b.2.2.2⟩
/-- a constant as the machine uses it -/
def Cn1 (t : S1) (i : Int32) : Prop := (0 ≤ gA t 105 0 i ∧ gA t 105 0 i ≤ 4) ∧ (gA t 105 0 i = 4 → (0 ≤ gB t 106 0 i ∧ (gB t 106 0 i).toInt32.toInt64 = gB t 106 0 i) ∧ cLv false t (gB t 106 0 i).toInt32 4 ∧ cSy t (gB t 106 0 i).toInt32 ≠ 0)
theorem Cn1.ke {s t : S1} {i : Int32} (h : Cn1 s i) (e : Ke0 s t) : Cn1 t i := by
  unfold Cn1
  rw [e.1.2.1 105 0 i (by unfold kbA; decide), e.2.2.2]
  exact ⟨h.1, fun z => ⟨(h.2 z).1, e.2.1.1 _ 4 (by decide) (h.2 z).2.1, e.2.1.2 _ (h.2 z).2.1 (h.2 z).2.2⟩⟩
/-- what stands when the names are there -/
def Bn (v : Int32) (t : S1) : Prop := Nmk 57 t ∧ cLv false t (gI t 16394 0) 5 ∧ cLv false t v 8
theorem Bn.ke {v : Int32} {s t : S1} (h : Bn v s) (e : Ke0 s t) : Bn v t := by
  refine ⟨h.1.ke e, ?_, e.2.1.1 _ 8 (by decide) h.2.2⟩
  rw [e.1.1 16394 0 (by unfold kbX; decide)]
  exact e.2.1.1 _ 5 (by decide) h.2.1
def icI (s0 : S1) (v : Int32) (y : Int32 × (Nat × Nat)) (t : S1) : Prop := (0 ≤ y.1.toInt ∧ y.1.toInt ≤ nCo s0) ∧ Bi s0 y.2 t ∧ Bn v t ∧ (∀ i : Int32, 0 ≤ i.toInt → i.toInt < y.1.toInt → Cn1 t i) ∧ ∀ i : Int32, y.1.toInt ≤ i.toInt → gB t 106 0 i = gB s0 106 0 i
def icP (s0 : S1) (v : Int32) (e : (Nat × Nat) ⊕ (Nat × Nat)) (t : S1) : Prop := Sum.elim (fun m => Bi s0 m t) (fun m => Bi s0 m t ∧ Bn v t ∧ ∀ i : Int32, 0 ≤ i.toInt → i.toInt < nCo s0 → Cn1 t i) e
theorem icL_ok {s0 s : S1} {n : Nat × Nat} {v : Int32} (ld : gI s0 14221 0 = 1) (nc : 0 ≤ nCo s0 ∧ nCo s0 ≤ 20000) (vc : Vcs s0) (b : Bi s0 n s) (bn : Bn v s) (e6 : ∀ j q, gB s 106 j q = gB s0 106 j q) : ok (oW M_Ma_internConstants_L2 (0, n)) s (icP s0 v) := by
  have e1 : (1 : Int32).toInt = 1 := rfl
  have e0 : (0 : Int32).toInt = 0 := rfl
  have e20 : (20000 : Int32).toInt = 20000 := rfl
  refine ok_W (icI s0 v) (fun y _ => (20000 - y.1.toInt).toNat) ?_ (0, n) s ⟨⟨Int.le_refl _, nc.1⟩, b, bn, fun i a c => absurd c (by dsimp only; omega), fun i _ => e6 0 i⟩
  rintro ⟨i, m⟩ t ⟨⟨i0, i1⟩, b, bn, cn, cu⟩
  dsimp only at i0 i1 b cn cu
  have eN : (gI t 12938 0).toInt = nCo s0 := by
    rw [b.2.2.1.1 12938 0 (by unfold kbX; decide)]
  simp only [M_Ma_internConstants_L2, M_Ma_internConstants_j96, ok_B, ok_C, ok_R, ok_L, ok_K, ok_GI, ok_GL, ok_PI, ok_PL, ok_AI, ok_AL, ok_SI, ok_SL, ok_CI, cmp_lt, cmp_le, cmp_gt, cmp_ge, cmp_eq, nar0, nar1, Sum.elim_inl, Sum.elim_inr, ok_PzT, ok_PzC, ok_PzP, ok_PrC, ok_PrP, ok_PrF, ok_PrN, ok_Ln, ok_CL, ok_Nw, ok_S, ok_Ks, ok_Nz]
  refine ⟨fun c => ?_, fun c => ?_⟩
  · rw [i32_le, eN] at c
    exact ⟨b, bn, fun k a d => cn k a (by omega)⟩
  · rw [i32_le, eN] at c
    have ir : (0 : Int32) ≤ i ∧ i < 20000 := ⟨by rw [i32_le]; omega, by rw [i32_lt]; omega⟩
    have ei : (i + 1).toInt = i.toInt + 1 := by rw [ktI_add] <;> omega
    have e5 : gA t 105 0 i = gA s0 105 0 i := b.2.2.1.2.1 105 0 i (by unfold kbA; decide)
    have vi := vc i i0 (by omega)
    have nxt : ∀ {u : S1} {m' : Nat × Nat}, Bi s0 m' u → Bn v u → (∀ k : Int32, 0 ≤ k.toInt → k.toInt < i.toInt + 1 → Cn1 u k) → (∀ k : Int32, i.toInt + 1 ≤ k.toInt → gB u 106 0 k = gB s0 106 0 k) → icI s0 v (i + 1, m') u ∧ (20000 - (i + 1).toInt).toNat < (20000 - i.toInt).toNat := fun {u m'} b1 b2 b3 b4 => ⟨⟨⟨by dsimp only; omega, by dsimp only; omega⟩, b1, b2, by dsimp only; rw [ei]; exact b3, by dsimp only; rw [ei]; exact b4⟩, by omega⟩
    refine ⟨ir, fun c4 => ⟨ir, ?_⟩, fun c4 => nxt b bn (fun k k0 k1 => ?_) (fun k k0 => cu k (by omega))⟩
    · rw [e5] at c4
      have v4 := vi.2 c4
      have eg : gB t 106 0 i = gB s0 106 0 i := cu i (Int.le_refl _)
      rw [eg]
      have ln : lnS t 108 0 = 65536 := rfl
      refine ok_mono (intern_ok (b.hr ld).1 b.2.1 108 0 _ _ (.inr (.inr rfl)) (fun _ => ⟨by decide, v4.1, v4.2.1, by rw [ln]; exact v4.2.2, by rw [ln]; decide⟩)) ?_
      rintro ⟨x, m'⟩ u q
      have q' : mbQ s0 t 4 (fun _ _ => True) (x, m') u := by
        rcases q with ⟨eu, l4, ro⟩ | q
        · rw [eu]
          exact ⟨⟨b.1, ro, b.2.2⟩, Ke0.refl t, .inr ⟨l4.1.1, l4, trivial⟩⟩
        · exact q.mb b ld (by decide)
      obtain ⟨bu, ke, xq⟩ := q'
      dsimp only at bu xq ⊢
      refine ⟨fun x0 => ?_, fun x0 => bu⟩
      have l4 : cLv false u x 4 := by
        rcases xq with z | z
        · rw [i32_lt] at z
          rw [i32_le] at x0
          omega
        · exact z.2.1
      have px := bu.1.1.2 x l4.1.1 l4.1.2
      obtain ⟨b1, k1, y1⟩ := bu.stay l4
      have keA : Ke0 t (sI u 18563 x 1) := ke.trans k1
      have lx : cLv false (sI u 18563 x 1) x 4 := k1.2.1.1 x 4 (by decide) l4
      generalize sI u 18563 x 1 = u1 at b1 k1 y1 keA lx ⊢
      have bn1 := bn.ke keA
      refine ⟨px, ir, nxt b1.con ⟨bn1.1, bn1.2⟩ (fun k k0 k1' => ?_) (fun k k0 => ?_)⟩
      · by_cases z : k = i
        · unfold Cn1
          rw [z, gB_sB, if_pos ⟨rfl, rfl, rfl⟩, i64_32]
          show (0 ≤ gA u1 105 0 i ∧ gA u1 105 0 i ≤ 4) ∧ _
          rw [keA.1.2.1 105 0 i (by unfold kbA; decide), e5]
          refine ⟨vi.1, fun _ => ⟨⟨?_, rfl⟩, lx, ?_⟩⟩
          · rw [Int64.le_iff_toInt_le, Int32.toInt_toInt64]
            rw [i32_le] at x0
            exact x0
          · show cSy u1 x ≠ 0
            rw [y1]
            decide
        · have nk : k.toInt ≠ i.toInt := fun q => z (toInt_inj q)
          have w := (cn k k0 (by omega)).ke keA
          unfold Cn1 at w ⊢
          rw [gB_sB, if_neg (fun q => z q.2.2)]
          exact w
      · rw [gB_sB, if_neg (fun q => by have := q.2.2; rw [this] at k0; omega), keA.2.2.2]
        exact cu k (by omega)
    · by_cases z : k = i
      · unfold Cn1
        rw [z]
        refine ⟨by rw [e5]; exact vi.1, fun q => absurd q c4⟩
      · have nk : k.toInt ≠ i.toInt := fun q => z (toInt_inj q)
        exact cn k k0 (by omega)
def coP (s0 : S1) (v : Int32) (r : Int32 × (Nat × Nat)) (t : S1) : Prop := Bi s0 r.2 t ∧ (r.1 = 0 ∨ r.1 = 1) ∧ (r.1 ≠ 0 → Bn v t ∧ ∀ i : Int32, 0 ≤ i.toInt → i.toInt < nCo s0 → Cn1 t i)
theorem consts_ok {s0 s : S1} {n : Nat × Nat} {v : Int32} (ld : gI s0 14221 0 = 1) (nc : 0 ≤ nCo s0 ∧ nCo s0 ≤ 20000) (vc : Vcs s0) (b : Bi s0 n s) (bn : Bn v s) (e6 : ∀ j q, gB s 106 j q = gB s0 106 j q) : ok (M_Ma_internConstants n) s (coP s0 v) := by
  simp only [M_Ma_internConstants, ok_B, ok_C, ok_R, ok_L, ok_K, ok_GI, ok_GL, ok_PI, ok_PL, ok_AI, ok_AL, ok_SI, ok_SL, ok_CI, cmp_lt, cmp_le, cmp_gt, cmp_ge, cmp_eq, nar0, nar1, Sum.elim_inl, Sum.elim_inr, ok_PzT, ok_PzC, ok_PzP, ok_PrC, ok_PrP, ok_PrF, ok_PrN, ok_Ln, ok_CL, ok_Nw, ok_S, ok_Ks, ok_Nz]
  refine ok_mono (icL_ok ld nc vc b bn e6) ?_
  rintro (m | m) t q
  · simp only [Sum.elim_inl, ok_B, ok_C, ok_R, ok_L, ok_K, ok_GI, ok_GL, ok_PI, ok_PL, ok_AI, ok_AL, ok_SI, ok_SL, ok_CI, cmp_lt, cmp_le, cmp_gt, cmp_ge, cmp_eq, nar0, nar1, Sum.elim_inl, Sum.elim_inr, ok_PzT, ok_PzC, ok_PzP, ok_PrC, ok_PrP, ok_PrF, ok_PrN, ok_Ln, ok_CL, ok_Nw, ok_S, ok_Ks, ok_Nz]
    exact ⟨q, .inl rfl, fun z => absurd rfl z⟩
  · simp only [Sum.elim_inr, ok_B, ok_C, ok_R, ok_L, ok_K, ok_GI, ok_GL, ok_PI, ok_PL, ok_AI, ok_AL, ok_SI, ok_SL, ok_CI, cmp_lt, cmp_le, cmp_gt, cmp_ge, cmp_eq, nar0, nar1, Sum.elim_inl, Sum.elim_inr, ok_PzT, ok_PzC, ok_PzP, ok_PrC, ok_PrP, ok_PrF, ok_PrN, ok_Ln, ok_CL, ok_Nw, ok_S, ok_Ks, ok_Nz]
    exact ⟨q.1, .inr rfl, fun _ => q.2⟩
def fgI (s0 s : S1) (n : Nat × Nat) (v : Int32) (y : Int32) (t : S1) : Prop := (0 ≤ y.toInt ∧ y.toInt ≤ 24) ∧ Bi s0 n t ∧ Ke0 s t
def fgP (s0 s : S1) (n : Nat × Nat) (r : Int32) (t : S1) : Prop := Bi s0 n t ∧ Ke0 s t ∧ (r = 0 ∨ r = 1)
theorem globals_ok {s0 s : S1} {n : Nat × Nat} {v : Int32} (ld : gI s0 14221 0 = 1) (b : Bi s0 n s) (bn : Bn v s) : ok M_Ma_fillGlobals s (fgP s0 s n) := by
  have e1 : (1 : Int32).toInt = 1 := rfl
  have e0 : (0 : Int32).toInt = 0 := rfl
  have em : (-1 : Int32).toInt = -1 := rfl
  have e24 : (24 : Int32).toInt = 24 := rfl
  have e57 : (57 : Int32).toInt = 57 := rfl
  have L : ok (oW M_Ma_fillGlobals_L2 0) s (fun _ t => Bi s0 n t ∧ Ke0 s t) := by
    refine ok_W (fgI s0 s n v) (fun y _ => (24 - y.toInt).toNat) ?_ 0 s ⟨⟨by decide, by decide⟩, b, Ke0.refl s⟩
    rintro i t ⟨⟨i0, i1⟩, bt, ke⟩
    have bnt := bn.ke ke
    simp only [M_Ma_fillGlobals_L2, ok_B, ok_C, ok_R, ok_L, ok_K, ok_GI, ok_GL, ok_PI, ok_PL, ok_AI, ok_AL, ok_SI, ok_SL, ok_CI, cmp_lt, cmp_le, cmp_gt, cmp_ge, cmp_eq, nar0, nar1, Sum.elim_inl, Sum.elim_inr, ok_PzT, ok_PzC, ok_PzP, ok_PrC, ok_PrP, ok_PrF, ok_PrN, ok_Ln, ok_CL, ok_Nw, ok_S, ok_Ks, ok_Nz]
    refine ⟨fun _ => ⟨bt, ke⟩, fun c => ?_⟩
    rw [i32_le, e24] at c
    have nm := bnt.1 i i0 (by omega)
    refine ⟨⟨by rw [i32_le]; omega, by rw [i32_lt]; omega⟩, ?_⟩
    have g0 : 0 ≤ (gA t 115 0 i).toInt64 := by
      have := nm.1.1.1
      rw [i32_le] at this
      rw [Int64.le_iff_toInt_le, Int32.toInt_toInt64]
      exact this
    have mi : (-1 - i).toInt = -1 - i.toInt := by rw [ktI_sub] <;> omega
    have neg : (-1 - i).toInt64 < 0 := by
      rw [Int64.lt_iff_toInt_lt, Int32.toInt_toInt64, mi]
      show _ < (0 : Int)
      omega
    have hh := bt.hr ld
    refine ok_mono (write_ok hh.1 bt.2.1 (fun s1 mh _ => ?_)) ?_
    · obtain ⟨s2, dd, mg⟩ := mh
      have hx := dd.1.hx
      have l2 : gI s2 14221 0 = 1 := (hx.I 14221 (by decide) 0).trans hh.2
      rw [mg.on l2]
      exact ⟨hx.lv.2 bnt.2.1, .inr (.inl ⟨.inl rfl, ⟨g0, by rw [i64_32]⟩, by rw [i64_32]; exact hx.lv.2 nm.1⟩), .inr (.inr ⟨rfl, .inl neg⟩)⟩
    · rintro r u ⟨⟨x, s1, ⟨s2, dd, mg⟩, h1, hx1⟩, hu, ro, -⟩
      have hx := dd.1.hx
      have l2 : gI s2 14221 0 = 1 := (hx.I 14221 (by decide) 0).trans hh.2
      have es := mg.on l2
      rw [es] at hx1
      have ht := hx.trans hx1
      have bu : Bi s0 n u := bt.ke ht.ke hu.1 ro (fun y l => ht.lv.1 l)
      have ei : (i + 1).toInt = i.toInt + 1 := by rw [ktI_add] <;> omega
      exact ⟨fun _ => ⟨⟨⟨by omega, by omega⟩, bu, ke.trans ht.ke⟩, by omega⟩, fun _ => ⟨bu, ke.trans ht.ke⟩⟩
  simp only [M_Ma_fillGlobals, ok_B, ok_C, ok_R, ok_L, ok_K, ok_GI, ok_GL, ok_PI, ok_PL, ok_AI, ok_AL, ok_SI, ok_SL, ok_CI, cmp_lt, cmp_le, cmp_gt, cmp_ge, cmp_eq, nar0, nar1, Sum.elim_inl, Sum.elim_inr, ok_PzT, ok_PzC, ok_PzP, ok_PrC, ok_PrP, ok_PrF, ok_PrN, ok_Ln, ok_CL, ok_Nw, ok_S, ok_Ks, ok_Nz]
  refine ok_mono L ?_
  rintro (m | m) t q
  · simp only [Sum.elim_inl, ok_B, ok_C, ok_R, ok_L, ok_K, ok_GI, ok_GL, ok_PI, ok_PL, ok_AI, ok_AL, ok_SI, ok_SL, ok_CI, cmp_lt, cmp_le, cmp_gt, cmp_ge, cmp_eq, nar0, nar1, Sum.elim_inl, Sum.elim_inr, ok_PzT, ok_PzC, ok_PzP, ok_PrC, ok_PrP, ok_PrF, ok_PrN, ok_Ln, ok_CL, ok_Nw, ok_S, ok_Ks, ok_Nz]
    exact ⟨q.1, q.2, .inl rfl⟩
  · simp only [Sum.elim_inr, ok_B, ok_C, ok_R, ok_L, ok_K, ok_GI, ok_GL, ok_PI, ok_PL, ok_AI, ok_AL, ok_SI, ok_SL, ok_CI, cmp_lt, cmp_le, cmp_gt, cmp_ge, cmp_eq, nar0, nar1, Sum.elim_inl, Sum.elim_inr, ok_PzT, ok_PzC, ok_PzP, ok_PrC, ok_PrP, ok_PrF, ok_PrN, ok_Ln, ok_CL, ok_Nw, ok_S, ok_Ks, ok_Nz]
    exact ⟨q.1, q.2, .inr rfl⟩
