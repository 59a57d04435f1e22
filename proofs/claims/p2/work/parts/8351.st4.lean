/-! A new string goes into its bucket. -/
theorem hN_gen {s s' : S1} {r r' : Nat} {u u' a a' n : Int32} (N : Nat) (h : ∀ k, k < N → gA s' r' u' (a' + Int32.ofNat k) = gA s r u (a + Int32.ofNat k)) : hN s' r' u' a' n N = hN s r u a n N := by
  induction N with
  | zero => rfl
  | succ N ih =>
    show 31 * hN s' r' u' a' n N + gA s' r' u' _ = 31 * hN s r u a n N + gA s r u _
    rw [ih (fun k hk => h k (by omega)), h N (by omega)]
theorem hF_gen {s s' : S1} {r r' : Nat} {u u' a a' n : Int32} (hn : 0 ≤ n) (h : ∀ k, 0 ≤ k → k < n → gA s' r' u' (a' + k) = gA s r u (a + k)) : hF s' r' u' a' n = hF s r u a n := by
  unfold hF
  rw [hN_gen n.toNatClampNeg fun k hk => ?_]
  have h0 : (0 : Int32).toInt = 0 := rfl
  rw [i32_le] at hn
  have hlt := Int32.toInt_lt n
  unfold Int32.toNatClampNeg at hk
  have e : (Int32.ofNat k).toInt = k := Int32.toInt_ofNat_of_lt (by omega)
  exact h _ (by rw [i32_le, e]; omega) (by rw [i32_lt, e]; omega)
def Ns (s s' : S1) (x h n : Int32) : Prop := (0 ≤ x ∧ x < f_used s') ∧ (∀ z, z < f_used s → z < f_used s') ∧ (∀ z, z ≠ x → z < f_used s' → z < f_used s) ∧ (x < f_used s → a_sort s x = 0) ∧ (∀ z, a_sort s' z = if z = x then 4 else a_sort s z) ∧
  (∀ z, z ≠ x → a_first s' z = a_first s z ∧ a_second s' z = a_second s z ∧ a_tag s' z = a_tag s z ∧ a_chain s' z = a_chain s z) ∧ (a_first s' x = f_textMade s ∧ a_second s' x = n ∧ a_tag s' x = f_made s ∧ a_chain s' x = a_heads s h) ∧
  (∀ q, a_heads s' q = if q = h then x + 1 else a_heads s q) ∧ (∀ j, 0 ≤ j → j < f_textMade s → a_text s' j = a_text s j) ∧ hF s' 67 0 (f_textMade s) n = h ∧ f_textMade s' = f_textMade s + n ∧ (0 ≤ n ∧ n ≤ 400000 ∧ f_textMade s + n ≤ 400000) ∧ x < 4000
theorem Str.ins {s s' : S1} {x h n : Int32} (hst : Str s) (tm : ∀ y q, Sg s y q → a_tag s y < f_made s) (hm : 0 ≤ f_made s) (hs : Ns s s' x h n) : Str s' := by
  obtain ⟨⟨x1, x2⟩, u1, u2, x0, eS, eP, ⟨f1, f2, f3, f4⟩, eH, eT, eF, eM, ⟨n1, n2, n3⟩, x4⟩ := hs
  obtain ⟨t1, t2, t3, t4, t5, t6⟩ := hst
  have nneg : ∀ p q : Int32, 0 ≤ p → p ≤ 400000 → 0 ≤ q → q ≤ 400000 → p ≤ p + q ∧ 0 ≤ p + q := fun p q a b c d => by
    clear t2 t3 t4 t5 t6 tm eS eP eH eT u1 u2 x0
    grind
  have hlt : 0 ≤ h ∧ h < 1024 := by rw [← eF]; exact hF_lt _ _ _ _ _
  have xh : x + 1 - 1 = x ∧ x + 1 ≠ 0 ∧ 0 ≤ x + 1 := by
    clear t2 t3 t4 t5 t6 tm eS eP eH eT u1 u2 x0
    refine ⟨by grind, by grind, by grind⟩
  have ne : ∀ z q, Sg s z q → z ≠ x := fun z q hz e => by
    have e1 := hz.2.2.1
    have e2 := hz.2.1
    rw [e] at e1 e2
    rw [x0 e2] at e1
    exact absurd e1 (by decide)
  have old : ∀ z, z ≠ x → 0 ≤ z → z < f_used s → a_sort s z = 4 → hF s' 67 0 (a_first s' z) (a_second s' z) = hF s 67 0 (a_first s z) (a_second s z) := fun z c a b d => by
    have w := t2 z a b d
    rw [(eP z c).1, (eP z c).2.1]
    refine hF_gen w.2.1 fun k k1 k2 => ?_
    have := add_in ⟨w.1, w.2.2.1⟩ k1 k2 w.2.2.2.1 w.2.2.2.2
    exact eT _ this.1 this.2
  have g : ∀ z q, Sg s' z q ↔ Sg s z q ∨ (z = x ∧ q = h) := fun z q => by
    constructor
    · rintro ⟨a, b, c, d⟩
      by_cases e : z = x
      · right
        refine ⟨e, ?_⟩
        rw [e, f1, f2, eF] at d
        exact d.symm
      · left
        rw [eS, if_neg e] at c
        have b' := u2 z e b
        rw [old z e a b' c] at d
        exact ⟨a, b', c, d⟩
    · rintro (w | ⟨w1, w2⟩)
      · have e := ne z q w
        refine ⟨w.1, u1 z w.2.1, ?_, ?_⟩
        · rw [eS, if_neg e]
          exact w.2.2.1
        · rw [old z e w.1 w.2.1 w.2.2.1]
          exact w.2.2.2
      · refine ⟨by rw [w1]; exact x1, by rw [w1]; exact x2, by rw [eS, if_pos w1], ?_⟩
        rw [w1, w2, f1, f2]
        exact eF
  have tg : ∀ z q, Sg s z q → a_tag s' z = a_tag s z := fun z q hz => (eP z (ne z q hz)).2.2.1
  have ch : ∀ z q, Sg s z q → a_chain s' z = a_chain s z := fun z q hz => (eP z (ne z q hz)).2.2.2
  have hx : Sg s' x h := (g x h).mpr (Or.inr ⟨rfl, rfl⟩)
  obtain ⟨d1, d2, d3⟩ := t3 h hlt.1 hlt.2
  refine ⟨?_, fun z a b w => ?_, fun q q1 q2 => ?_, fun z q hz => ?_, fun z y q hz hy e => ?_, fun z y q q' hz hy e => ?_⟩
  · rw [eM]
    exact ⟨(nneg _ _ t1.1 t1.2 n1 n2).2, n3⟩
  · rw [eM]
    by_cases c : z = x
    · rw [c, f1, f2]
      exact ⟨t1.1, n1, t1.2, n2, Int32.le_refl _⟩
    · rw [eS, if_neg c] at w
      have v := t2 z a (u2 z c b) w
      rw [(eP z c).1, (eP z c).2.1]
      exact ⟨v.1, v.2.1, v.2.2.1, v.2.2.2.1, Int32.le_trans v.2.2.2.2 (nneg _ _ t1.1 t1.2 n1 n2).1⟩
  · rw [eH]
    by_cases c : q = h
    · rw [if_pos c, xh.1, c]
      refine ⟨xh.2.2, fun _ => hx, fun z hz => ⟨xh.2.1, ?_⟩⟩
      rcases (g z h).mp hz with w | w
      · rw [tg z h w, f3]
        exact Int32.le_of_lt (tm z h w)
      · rw [w.1]
        exact Int32.le_refl _
    · rw [if_neg c]
      obtain ⟨p1, p2, p3⟩ := t3 q q1 q2
      refine ⟨p1, fun w => (g _ _).mpr (Or.inl (p2 w)), fun z hz => ?_⟩
      rcases (g z q).mp hz with w | w
      · obtain ⟨v1, v2⟩ := p3 z w
        rw [tg z q w, tg _ q (p2 v1)]
        exact ⟨v1, v2⟩
      · exact absurd w.2 c
  · rcases (g z q).mp hz with w | ⟨w1, w2⟩
    · obtain ⟨a, b, c⟩ := t4 z q w
      rw [ch z q w, tg z q w]
      exact ⟨a, b, fun v => ⟨(g _ _).mpr (Or.inl (c v).1), by rw [tg _ q (c v).1]; exact (c v).2⟩⟩
    · rw [w1, w2, f4, f3]
      exact ⟨d1, hm, fun v => ⟨(g _ _).mpr (Or.inl (d2 v)), by rw [tg _ h (d2 v)]; exact tm _ h (d2 v)⟩⟩
  · rcases (g y q).mp hy with v | ⟨v1, v2⟩
    · rcases (g z q).mp hz with w | ⟨w1, w2⟩
      · rw [tg z q w, tg y q v] at e
        obtain ⟨a, b⟩ := t5 z y q w v e
        rw [ch y q v, tg z q w, tg _ q ((t4 y q v).2.2 a).1]
        exact ⟨a, b⟩
      · rw [w1, f3, tg y q v] at e
        exact absurd (Int32.lt_trans e (tm y q v)) Int32.lt_irrefl
    · rcases (g z q).mp hz with w | ⟨w1, w2⟩
      · rw [v2] at w
        obtain ⟨a, b⟩ := d3 z w
        rw [v1, f4, tg z h w, tg _ h (d2 a)]
        exact ⟨a, b⟩
      · rw [v1, w1] at e
        exact absurd e Int32.lt_irrefl
  · rcases (g z q).mp hz with w | ⟨w1, w2⟩
    · rcases (g y q').mp hy with v | ⟨v1, v2⟩
      · rw [tg z q w, tg y q' v] at e
        exact t6 z y q q' w v e
      · rw [tg z q w, v1, f3] at e
        have := tm z q w
        rw [e] at this
        exact absurd this Int32.lt_irrefl
    · rcases (g y q').mp hy with v | ⟨v1, v2⟩
      · rw [tg y q' v, w1, f3] at e
        have := tm y q' v
        rw [← e] at this
        exact absurd this Int32.lt_irrefl
      · rw [w1, v1]
