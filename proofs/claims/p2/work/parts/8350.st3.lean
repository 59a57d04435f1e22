/-! A string is looked for. -/
theorem same_ok (s : S1) (r : Nat) (u a n h y f : Int32) (hy : 0 ≤ y ∧ y < 4100) (hf : f ≠ 0 → a_second s y = n) (hs : 0 ≤ a_first s y ∧ a_first s y ≤ 400000 ∧ a_second s y ≤ 400000 ∧ a_first s y + a_second s y ≤ 400000)
    (ha : 0 ≤ a ∧ a ≤ 400000) (hn : 0 ≤ n ∧ n ≤ 400000) (hl : a + n ≤ lnI r) :
    ok (oW M_Mo_string_L46 (r, u, a, n, h, y, f, 0)) s (fun e s' => s' = s ∧ ∃ g, e = (r, u, a, n, h, y, g)) := by
  refine ok_W (fun z s' => s' = s ∧ ∃ g k, z = (r, u, a, n, h, y, g, k) ∧ (0 ≤ k ∧ k ≤ n) ∧ (g ≠ 0 → a_second s y = n)) (fun z _ => (n - z.2.2.2.2.2.2.2).toNatClampNeg) ?_ _ _ ⟨rfl, f, 0, rfl, ⟨by decide, hn.1⟩, hf⟩
  rintro z s1 ⟨es, g, k, ez, ⟨k1, k2⟩, hg⟩
  subst es ez
  simp only [M_Mo_string_L46, M_Mo_string_j86, ok_B, ok_C, ok_R, ok_L, ok_K, ok_GI, ok_GL, ok_PI, ok_PL, ok_AI, ok_AL, ok_SI, ok_SL, ok_Pr, ok_CI, cmp_lt, cmp_le, cmp_gt, cmp_ge, cmp_eq, nar0, nar1, Sum.elim_inl, Sum.elim_inr]
  refine ⟨fun _ => ⟨by trivial, g, rfl⟩, fun c => ⟨fun _ => ⟨by trivial, g, rfl⟩, fun d => ?_⟩⟩
  have hk := Int32.not_le.mp d
  have e2 := hg c
  have n1 : 0 ≤ k + 1 ∧ k + 1 ≤ n ∧ (n - (k + 1)).toNatClampNeg < (n - k).toNatClampNeg := by
    clear hs hg hf e2 hl
    exact ⟨by grind, by grind, clamp_lt (by grind) (by grind)⟩
  have b1 := add_in (a := a_first s1 y) (i := k) (n := n) (L := 400000) ⟨hs.1, hs.2.1⟩ k1 hk hn.2 (by rw [← e2]; exact hs.2.2.2)
  have b2 := add_in ha k1 hk hn.2 hl
  exact ⟨hy, b1, b2, fun _ => ⟨⟨by trivial, 1, k + 1, rfl, ⟨n1.1, n1.2.1⟩, fun _ => e2⟩, n1.2.2⟩, fun _ => ⟨⟨by trivial, 0, k + 1, rfl, ⟨n1.1, n1.2.1⟩, fun w => absurd rfl w⟩, n1.2.2⟩⟩
theorem q_find_ok (s : S1) (hst : Str s) (hu : f_used s ≤ 4000) (r : Nat) (u a n h y : Int32) (hh : 0 ≤ h ∧ h < 1024) (hy : y < 0 ∨ Sg s y h) (ha : 0 ≤ a ∧ a ≤ 400000) (hn : 0 ≤ n ∧ n ≤ 400000) (hl : a + n ≤ lnI r) :
    ok (oW M_Mo_string_L20 (r, u, a, n, h, y)) s (fun e s' => s' = s ∧ ((∃ x, e = Sum.inl x ∧ Sg s x h) ∨ e = Sum.inr (r, u, a, n, h))) := by
  obtain ⟨t1, t2, t3, t4, t5, t6⟩ := hst
  refine ok_W (fun z s' => s' = s ∧ ∃ y, z = (r, u, a, n, h, y) ∧ (y < 0 ∨ Sg s y h)) (fun z _ => if z.2.2.2.2.2 < 0 then 0 else (a_tag s z.2.2.2.2.2).toNatClampNeg + 1) ?_ _ _ ⟨rfl, y, rfl, hy⟩
  rintro z s1 ⟨es, y, ez, hy⟩
  subst es ez
  simp only [M_Mo_string_L20, M_Mo_string_j41, M_Mo_string_j94, ok_B, ok_C, ok_R, ok_L, ok_K, ok_GI, ok_GL, ok_PI, ok_PL, ok_AI, ok_AL, ok_SI, ok_SL, ok_Pr, ok_CI, cmp_lt, cmp_le, cmp_gt, cmp_ge, cmp_eq, nar0, nar1, Sum.elim_inl, Sum.elim_inr]
  refine ⟨fun c => ⟨by trivial, Or.inr (by trivial)⟩, fun c => ?_⟩
  have hg : Sg s1 y h := hy.resolve_left c
  have hy1 : 0 ≤ y ∧ y < 4100 := ⟨hg.1, Int32.lt_trans (Int32.lt_of_lt_of_le hg.2.1 hu) (by decide)⟩
  have b := t2 y hg.1 hg.2.1 hg.2.2.1
  obtain ⟨c1, c2, c3⟩ := t4 y h hg
  have fin : ∀ f, (f ≠ 0 → a_second s1 y = n) → ok (oW M_Mo_string_L46 (r, u, a, n, h, y, f, 0)) s1 (fun e s' => (e.2.2.2.2.2.2 = 0 → (0 ≤ e.2.2.2.2.2.1 ∧ e.2.2.2.2.2.1 < 4100) ∧ (s' = s1 ∧ ∃ y', (e.1, e.2.1, e.2.2.1, e.2.2.2.1, e.2.2.2.2.1, gA s' 65 0 e.2.2.2.2.2.1 - 1) = (r, u, a, n, h, y') ∧ (y' < 0 ∨ Sg s1 y' h)) ∧ (if gA s' 65 0 e.2.2.2.2.2.1 - 1 < 0 then 0 else (a_tag s1 (gA s' 65 0 e.2.2.2.2.2.1 - 1)).toNatClampNeg + 1) < (if y < 0 then 0 else (a_tag s1 y).toNatClampNeg + 1)) ∧ (¬ e.2.2.2.2.2.2 = 0 → s' = s1 ∧ ((∃ x, (Sum.inl e.2.2.2.2.2.1 : Int32 ⊕ (Nat × Int32 × Int32 × Int32 × Int32)) = Sum.inl x ∧ Sg s1 x h) ∨ (Sum.inl e.2.2.2.2.2.1 : Int32 ⊕ (Nat × Int32 × Int32 × Int32 × Int32)) = Sum.inr (r, u, a, n, h)))) := fun f hf => by
    refine ok_mono (same_ok s1 r u a n h y f hy1 hf ⟨b.1, b.2.2.1, b.2.2.2.1, Int32.le_trans b.2.2.2.2 t1.2⟩ ha hn hl) fun e s' ⟨e1, g, e2⟩ => ?_
    subst e1 e2
    refine ⟨fun _ => ⟨hy1, ⟨rfl, _, rfl, ?_⟩, ?_⟩, fun _ => ⟨rfl, Or.inl ⟨y, rfl, hg⟩⟩⟩
    · by_cases d : a_chain s' y = 0
      · left
        show a_chain s' y - 1 < 0
        rw [d]
        decide
      · exact Or.inr (c3 d).1
    · rw [if_neg c]
      by_cases d : a_chain s' y = 0
      · rw [if_pos (by show a_chain s' y - 1 < 0; rw [d]; decide)]
        omega
      · have q := c3 d
        have q1 := q.1.1
        rw [if_neg (by
          show ¬ a_chain s' y - 1 < 0
          exact fun w => absurd (Int32.lt_of_le_of_lt q1 w) Int32.lt_irrefl)]
        have := clamp_lt (t4 _ h q.1).2.1 q.2
        show (a_tag s' (a_chain s' y - 1)).toNatClampNeg + 1 < _
        omega
  exact ⟨hy1, fun d => fin 1 (fun _ => d), fun d => fin 0 (fun w => absurd rfl w)⟩
