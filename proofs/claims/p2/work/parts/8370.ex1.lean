/-! The room of entries: regions don't overlap, chains fall. -/
def q_Rg (s : S1) (x lo n : Int32) : Prop := (0 ≤ x ∧ x < f_used s) ∧ ((a_sort s x = 5 ∧ lo = a_first s x ∧ n = a_second s x) ∨ (a_sort s x = 6 ∧ 0 ≤ a_first s x ∧ lo = a_second s x ∧ n = a_third s x))
def q_Dj (s : S1) : Prop := ∀ x y a n b m, q_Rg s x a n → q_Rg s y b m → x ≠ y → ∀ j, a ≤ j → j < a + n → b ≤ j → j < b + m → False
def Tch (s : S1) (x : Int32) : Prop := (∀ j, 0 ≤ j → j < a_second s x → 0 ≤ a_bucket s (a_first s x + j) ∧ a_bucket s (a_first s x + j) ≤ a_third s x) ∧ ∀ e, 0 ≤ e → e < a_third s x → 0 ≤ a_follow s (a_first s x + e) ∧ a_follow s (a_first s x + e) ≤ e
def Fu (s : S1) (x : Int32) : Prop := 0 ≤ a_first s x → a_first s x < f_protos s ∧ a_third s x = a_upvalues s (a_first s x)
def Ex (s : S1) : Prop := q_Dj s ∧ ∀ x, 0 ≤ x → x < f_used s → (a_sort s x = 5 → Tch s x) ∧ (a_sort s x = 6 → Fu s x)
theorem q_Rg.le {s : S1} {x a n : Int32} (h : q_Rg s x a n) (hv : Hv s) : (0 ≤ a ∧ a ≤ 300000) ∧ (0 ≤ n ∧ n ≤ 300000) ∧ a + n ≤ f_entryTop s := by
  obtain ⟨⟨h1, h2⟩, h3⟩ := h
  obtain ⟨q5, q6, -⟩ := (hv.2.2 x h1 h2).1
  rcases h3 with ⟨w, e1, e2⟩ | ⟨w, w2, e1, e2⟩
  · subst e1 e2
    have := q5 w
    exact ⟨⟨this.1, this.2.2.2.1⟩, ⟨Int32.le_trans this.2.1 this.2.2.1, this.2.2.2.2.1⟩, this.2.2.2.2.2⟩
  · subst e1 e2
    have := (q6 w).2 w2
    exact ⟨⟨this.1, this.2.2.1⟩, ⟨this.2.1, Int32.le_trans this.2.2.2.1 (by decide)⟩, this.2.2.2.2⟩
theorem Ex.gcx {s s' : S1} (h : Ex s) (hg : Gcx s s') : Ex s' := by
  obtain ⟨h1, h2⟩ := h
  have eu : f_used s' = f_used s := hg.I 40 (by decide) 0
  have hso := hg.2.2.2.2.2.1
  have so : ∀ x k, 0 ≤ x → x < f_used s → a_sort s' x = k → k ≠ 0 → a_sort s x = k := fun x k a b c d => by
    rcases hso x a b with w | w
    · exact absurd (c.symm.trans w) d
    · exact w.symm.trans c
  have e1 : ∀ x k, a_sort s x = k → k ≠ 8 → a_first s' x = a_first s x := fun x k a b => hg.2.2.2.2.1 x (by rw [a]; exact b)
  have e2 : ∀ x, a_second s' x = a_second s x := fun x => hg.A 63 (by decide) 0 x
  have e3 : ∀ x, a_third s' x = a_third s x := fun x => hg.A 64 (by decide) 0 x
  have rg : ∀ x a n, q_Rg s' x a n → q_Rg s x a n := fun x a n ⟨⟨p1, p2⟩, p3⟩ => by
    rw [eu] at p2
    refine ⟨⟨p1, p2⟩, ?_⟩
    rcases p3 with ⟨w, q1, q2⟩ | ⟨w, w2, q1, q2⟩
    · have w' := so x 5 p1 p2 w (by decide)
      rw [e1 x 5 w' (by decide)] at q1
      rw [e2] at q2
      exact Or.inl ⟨w', q1, q2⟩
    · have w' := so x 6 p1 p2 w (by decide)
      rw [e1 x 6 w' (by decide)] at w2
      rw [e2] at q1
      rw [e3] at q2
      exact Or.inr ⟨w', w2, q1, q2⟩
  refine ⟨fun x y a n b m p q => h1 x y a n b m (rg x a n p) (rg y b m q), fun x a b => ⟨fun c => ?_, fun c => ?_⟩⟩
  · rw [eu] at b
    have w := so x 5 a b c (by decide)
    have := (h2 x a b).1 w
    unfold Tch at *
    rw [e1 x 5 w (by decide), e2, e3]
    simp only [a_bucket, a_follow, hg.A 74 (by decide), hg.A 73 (by decide)] at *
    exact this
  · rw [eu] at b
    have w := so x 6 a b c (by decide)
    have := (h2 x a b).2 w
    unfold Fu at *
    rw [e1 x 6 w (by decide), e3]
    simp only [f_protos, a_upvalues, hg.I 23 (by decide), hg.A 45 (by decide)] at *
    exact this
theorem Ex.mk2 {s s' : S1} {x k : Int32} (h : Ex s) (hv : Hv s) (hM : Mk2 s s' x k) (h5 : k = 5 → a_second s' x = 0 ∧ a_third s' x = 0) (h6 : k = 6 → 0 ≤ a_first s' x → a_second s' x = f_entryTop s ∧ a_first s' x < f_protos s ∧ a_third s' x = a_upvalues s (a_first s' x)) : Ex s' := by
  obtain ⟨h1, h2⟩ := h
  have rg : ∀ z a n, z ≠ x → q_Rg s' z a n → q_Rg s z a n := fun z a n d ⟨⟨p1, p2⟩, p3⟩ => by
    obtain ⟨q1, q2, q3, -⟩ := hM.P d
    have es := hM.S z
    rw [if_neg d] at es
    rw [es, q1, q2, q3] at p3
    exact ⟨⟨p1, hM.2.2.1 z d p2⟩, p3⟩
  have rx : ∀ a n j, q_Rg s' x a n → a ≤ j → j < a + n → f_entryTop s ≤ j := fun a n j ⟨_, p3⟩ c d => by
    have es := hM.S x
    rw [if_pos rfl] at es
    rcases p3 with ⟨w, q1, q2⟩ | ⟨w, w2, q1, q2⟩
    · have e := (h5 (es.symm.trans w)).1
      rw [q2, e] at d
      have : a + 0 = a := Int32.add_zero a
      rw [this] at d
      exact absurd (Int32.lt_of_le_of_lt c d) Int32.lt_irrefl
    · have e := (h6 (es.symm.trans w) w2).1
      rw [q1, e] at c
      exact c
  have old : ∀ z b m j, q_Rg s z b m → b ≤ j → j < b + m → j < f_entryTop s := fun z b m j p c d => Int32.lt_of_lt_of_le d (p.le hv).2.2
  refine ⟨fun y z a n b m p q d j j1 j2 j3 j4 => ?_, fun z a b => ?_⟩
  · by_cases dy : y = x
    · subst dy
      have c1 := rx a n j p j1 j2
      have c2 := old z b m j (rg z b m (fun e => d e.symm) q) j3 j4
      exact absurd (Int32.lt_of_le_of_lt c1 c2) Int32.lt_irrefl
    · by_cases dz : z = x
      · subst dz
        have c1 := rx b m j q j3 j4
        have c2 := old y a n j (rg y a n dy p) j1 j2
        exact absurd (Int32.lt_of_le_of_lt c1 c2) Int32.lt_irrefl
      · exact h1 y z a n b m (rg y a n dy p) (rg z b m dz q) d j j1 j2 j3 j4
  · by_cases dz : z = x
    · subst dz
      have es := hM.S z
      rw [if_pos rfl] at es
      refine ⟨fun c => ?_, fun c => ?_⟩
      · obtain ⟨q1, q2⟩ := h5 (es.symm.trans c)
        unfold Tch
        rw [q1, q2]
        exact ⟨fun j p q => absurd (Int32.lt_of_le_of_lt p q) Int32.lt_irrefl, fun j p q => absurd (Int32.lt_of_le_of_lt p q) Int32.lt_irrefl⟩
      · intro w
        have q := h6 (es.symm.trans c) w
        show _ < gI s' 23 0 ∧ _ = gA s' 45 0 _
        rw [hM.I 23 (by decide), hM.A 45 (by decide)]
        exact q.2
    · obtain ⟨q1, q2, q3, -⟩ := hM.P dz
      have es := hM.S z
      rw [if_neg dz] at es
      have b' := hM.2.2.1 z dz b
      rw [es]
      refine ⟨fun c => ?_, fun c => ?_⟩
      · have t := (h2 z a b').1 c
        have sh := (hv.2.2 z a b').1.1 c
        unfold Tch at *
        rw [q1, q2, q3]
        refine ⟨fun j p q => ?_, fun j p q => ?_⟩
        · show 0 ≤ gA s' 74 0 _ ∧ gA s' 74 0 _ ≤ _
          rw [hM.A 74 (by decide)]
          exact t.1 j p q
        · have hin := add_in (a := a_first s z) (i := j) (n := a_second s z) (L := f_entryTop s) ⟨sh.1, Int32.le_trans sh.2.2.2.1 (by decide)⟩ p (Int32.lt_of_lt_of_le q sh.2.2.1) (Int32.le_trans sh.2.2.2.2.1 (by decide)) sh.2.2.2.2.2
          rw [hM.2.2.2.2.2.2.2.2.2.2.2.1 _ hin.2]
          exact t.2 j p q
      · have t := (h2 z a b').2 c
        unfold Fu at *
        rw [q1, q3]
        show _ → _ < gI s' 23 0 ∧ _ = gA s' 45 0 _
        rw [hM.I 23 (by decide), hM.A 45 (by decide)]
        exact t
