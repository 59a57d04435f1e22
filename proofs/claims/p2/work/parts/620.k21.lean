/-! The class: the search for a register's variable. -/
/-- a register has a variable -/
def hasV (s : S1) (c r : Int32) : Prop := ∃ y, cOp s c y ∧ cPl s y = r
/-- where the search ends: behind a, at x -/
def osE (s : S1) (c r a x : Int32) : Prop := ((a = -1 ∧ x = oNo s c) ∨ (0 ≤ a ∧ cOp s c a ∧ r.toInt < (cPl s a).toInt ∧ cNx s a = x)) ∧ (x < 0 ∨ (cOp s c x ∧ (cPl s x).toInt ≤ r.toInt))
def osQ (s : S1) (c r : Int32) (n : Nat × Nat) (e : Int32 × Int32 × Int32 × Int32 × (Nat × Nat)) (s' : S1) : Prop := s' = s ∧ ∃ a x, e = (c, r, a, x, n) ∧ osE s c r a x
theorem opSearch_ok {s : S1} {c r : Int32} (n : Nat × Nat) (hc : cCn s c) (pts : ∀ y, cOp s c y → pT s y) : ok (oW M_He_openVariable_L11 (c, r, -1, oNo s c, 0, n)) s (osQ s c r n) := by
  obtain ⟨⟨l1, l2, l3, l4, l5⟩, hb'⟩ := hc
  dsimp only at l2 l3 l4 l5
  have e0 : (0 : Int32).toInt = 0 := rfl
  have e4 : (4000 : Int32).toInt = 4000 := rfl
  have e1 : (1 : Int32).toInt = 1 := rfl
  have hb : ∀ y, cOp s c y → 0 ≤ (cPl s y).toInt ∧ (cPl s y).toInt < 4000 := fun y a => by
    have := hb' y a
    rw [i32_le, i32_lt] at this
    omega
  clear hb'
  refine ok_W (fun y s1 => s1 = s ∧ (y.1 = c ∧ y.2.1 = r ∧ y.2.2.2.2.2 = n) ∧ ((y.2.2.1 = -1 ∧ y.2.2.2.1 = oNo s c) ∨ (0 ≤ y.2.2.1 ∧ cOp s c y.2.2.1 ∧ r.toInt < (cPl s y.2.2.1).toInt ∧ cNx s y.2.2.1 = y.2.2.2.1)) ∧ (0 ≤ y.2.2.2.1 → cOp s c y.2.2.2.1 ∧ y.2.2.2.2.1.toInt + (cPl s y.2.2.2.1).toInt ≤ 3999) ∧ (0 ≤ y.2.2.2.2.1.toInt ∧ y.2.2.2.2.1.toInt ≤ 4000)) (fun y _ => (4000 - y.2.2.2.2.1.toInt).toNat) ?_ _ _ ⟨rfl, ⟨rfl, rfl, rfl⟩, .inl ⟨rfl, rfl⟩, fun a => ⟨l1 a, ?_⟩, by dsimp only; omega, by dsimp only; omega⟩
  · rintro ⟨c', r', a, x, k, n'⟩ s1 ⟨rfl, ⟨rfl, rfl, rfl⟩, ha, hx, hk⟩
    dsimp only at ha hx hk l1 l2 l3 l4 l5 hb pts
    simp only [M_He_openVariable_L11, ok_B, ok_C, ok_R, ok_L, ok_K, ok_GI, ok_GL, ok_PI, ok_PL, ok_AI, ok_AL, ok_SI, ok_SL, ok_CI, cmp_lt, cmp_le, cmp_gt, cmp_ge, cmp_eq, nar0, nar1, Sum.elim_inl, Sum.elim_inr, ok_PzT, ok_PzC, ok_PzP, ok_PrC, ok_PrP, ok_PrF, ok_PrN, ok_Ln, ok_CL, ok_Nw, ok_S, ok_Ks, ok_Nz]
    refine ⟨fun d => ⟨rfl, a, x, rfl, ha, .inl d⟩, fun d => ?_⟩
    have x0 : 0 ≤ x := by
      rw [i32_lt] at d
      rw [i32_le]
      omega
    obtain ⟨ox, kx⟩ := hx x0
    have bx := hb x ox
    have px := pts x ox
    refine ⟨px, fun f => ⟨rfl, a, x, rfl, ha, .inr ⟨ox, ?_⟩⟩, fun f => ⟨fun g => ?_, fun g => ⟨px, ?_⟩⟩⟩
    · change cPl s1 x ≤ r' at f
      rw [i32_le] at f
      exact f
    · rw [i32_le] at g
      omega
    · change ¬ cPl s1 x ≤ r' at f
      rw [i32_le] at f g
      have en : (k + 1).toInt = k.toInt + 1 := by
        rw [ktI_add] <;> omega
      refine ⟨⟨by trivial, ⟨by trivial, by trivial, by trivial⟩, .inr ⟨x0, ox, by omega, by trivial⟩, fun q => ?_, ?_⟩, ?_⟩
      · have w := l3 x ox q
        have w2 := w.2
        refine ⟨w.1, ?_⟩
        show (k + 1).toInt + (cPl s1 (cNx s1 x)).toInt ≤ 3999
        omega
      · rw [en]
        omega
      · rw [en]
        omega
  · have := hb _ (l1 a)
    show (0 : Int32).toInt + (cPl s (oNo s c)).toInt ≤ 3999
    omega
/-- a chain's heads and members are at the end of a search as they were behind a collection that leaves the coroutine -/
theorem osE.gc {s s0 : S1} {c r a x : Int32} (g : cGc s s0) (hc : pC s c) (hl : 0 ≤ oSl s0 c) (h : osE s c r a x) : osE s0 c r a x := by
  obtain ⟨e1, e2⟩ := g.2.2.2.2.2.2.2.2.1 c hc hl
  have ep : ∀ y, cPl s0 y = cPl s y := fun y => g.1 _ _ (by decide)
  obtain ⟨h1, h2⟩ := h
  refine ⟨?_, ?_⟩
  · rcases h1 with ⟨b1, b2⟩ | ⟨b1, b2, b3, b4⟩
    · exact .inl ⟨b1, by rw [e1]; exact b2⟩
    · exact .inr ⟨b1, (e2 a b2).1, by rw [ep]; exact b3, by rw [(e2 a b2).2]; exact b4⟩
  · rcases h2 with b | ⟨b1, b2⟩
    · exact .inl b
    · exact .inr ⟨(e2 x b1).1, by rw [ep]; exact b2⟩
theorem osE.mg {s s0 : S1} {c r a x : Int32} (g : cMg s s0) (hc : pC s c) (hl : 0 ≤ oSl s0 c) (h : osE s c r a x) : osE s0 c r a x := by
  rcases g with rfl | g
  · exact h
  · exact h.gc g.2 hc hl
theorem hasV.mg {s s0 : S1} {c r : Int32} (g : cMg s s0) (hc : pC s c) (hl : 0 ≤ oSl s0 c) (h : hasV s c r) : hasV s0 c r := by
  rcases g with rfl | g
  · exact h
  · obtain ⟨y, h1, h2⟩ := h
    refine ⟨y, ((g.2.2.2.2.2.2.2.2.2.1 c hc hl).2 y h1).1, ?_⟩
    rw [show cPl s0 y = cPl s y from g.2.1 _ _ (by decide)]
    exact h2
