/-! A thread goes. -/
def Ball (s : S1) : Prop := ∀ x, 0 ≤ x → x < f_used s → PcV false s x ∧ (a_marked s x ≠ 0 → PcV true s x) ∧ ShN s x
def Ov (s : S1) : Prop := ∀ t, 0 ≤ t → t < 33 → 0 ≤ t_place s t → (∀ k, 0 ≤ k → k < t_openCount s t → Lv false s (t_open s t k) 8 ∧ a_first s (t_open s t k) = t) ∧ ∀ k j, 0 ≤ k → k < j → j < t_openCount s t → t_open s t k ≠ t_open s t j
def Cv (s : S1) : Prop := ∀ x, Lv false s x 8 → 0 ≤ a_first s x → 0 ≤ t_place s (a_first s x) ∧ ∃ k, 0 ≤ k ∧ k < t_openCount s (a_first s x) ∧ t_open s (a_first s x) k = x
def q_Tp (s : S1) : Prop := ∀ t, 0 ≤ t → t < 33 → 0 ≤ t_place s t → Lv false s (t_place s t) 7 ∧ a_first s (t_place s t) = t
def q_Pq (s : S1) (i : Int32) : Prop := ∀ x, 0 ≤ x → x < f_used s → a_sort s x = 7 → (a_marked s x ≠ 0 ∨ i ≤ x) → t_place s (a_first s x) = x
theorem Ball.fn {s : S1} (h : Ball s) {x : Int32} (h0 : 0 ≤ x) (h1 : x < f_used s) (h7 : a_sort s x = 7) : FrF s (a_first s x) := ((h x h0 h1).1.2.2.1 h7).fn ((h x h0 h1).2.2.2.2.1 h7).2.2
theorem Ball.cl {s s' : S1} {y : Int32} (h : Ball s) (hs : Cl s s' y) (hy : a_sort s y = 8) : Ball s' := by
  intro x a b
  have b' : x < f_used s := by
    show x < gI s 40 0
    rw [← hs.I 40 (by decide)]
    exact b
  have hf : a_sort s x = 7 → FrF s (a_first s x) := h.fn a b'
  obtain ⟨h1, h2, h3⟩ := h x a b'
  refine ⟨h1.cl hs hy hf, fun c => (h2 ?_).cl hs hy hf, h3.cl hs hy hf⟩
  show gA s 59 0 x ≠ 0
  rw [← hs.A 59 (by decide)]
  exact c
/-- the open variables of t are closed, those before the k-th -/
def Tg (s s' : S1) (t k : Int32) : Prop := (∀ f i, f ≠ 66 → gI s' f i = gI s f i) ∧ (∀ f i, f ≠ 67 → gL s' f i = gL s f i) ∧ (∀ a i j, a ≠ 5 → a ≠ 62 → gA s' a i j = gA s a i j) ∧ (∀ a i j, a ≠ 6 → gB s' a i j = gB s a i j) ∧
  (∀ z, (∀ j, 0 ≤ j → j < k → z ≠ t_open s t j) → a_first s' z = a_first s z) ∧ ∀ j, 0 ≤ j → j < k → a_first s' (t_open s t j) = -1
theorem closeAll_ok (s : S1) (t : Int32) (ht : 0 ≤ t ∧ t < 33) (hu : f_used s ≤ 4000) (hb : Ball s) (ho : Ov s) (hp : 0 ≤ t_place s t) (hc : 0 ≤ t_openCount s t ∧ t_openCount s t ≤ 4100) :
    ok (oW M_Mo_threadGoes_L2 (t, 0)) s (fun y s' => y = t ∧ Tg s s' t (t_openCount s t) ∧ Ball s') := by
  obtain ⟨o1, o2⟩ := ho t ht.1 ht.2 hp
  refine ok_W (fun y s' => y.1 = t ∧ (0 ≤ y.2 ∧ y.2 ≤ t_openCount s t) ∧ Tg s s' t y.2 ∧ Ball s') (fun y _ => (t_openCount s t - y.2).toNatClampNeg) ?_ _ _
    ⟨rfl, ⟨(show (0 : Int32) ≤ 0 by decide), hc.1⟩, ⟨fun _ _ _ => rfl, fun _ _ _ => rfl, fun _ _ _ _ _ => rfl, fun _ _ _ _ => rfl, fun _ _ => rfl, fun j a b => absurd (Int32.lt_of_le_of_lt a b) Int32.lt_irrefl⟩, hb⟩
  rintro ⟨t', k⟩ s1 ⟨e1, ⟨h1, h2⟩, ⟨g1, g2, g3, g4, g5, g6⟩, hb1⟩
  dsimp only at e1 h1 h2 g5 g6
  subst e1
  simp only [M_Mo_threadGoes_L2, ok_B, ok_C, ok_R, ok_L, ok_K, ok_GI, ok_GL, ok_PI, ok_PL, ok_AI, ok_AL, ok_SI, ok_SL, ok_Pr, ok_CI, cmp_lt, cmp_le, cmp_gt, cmp_ge, cmp_eq, nar0, nar1, Sum.elim_inl, Sum.elim_inr]
  have e87 : gI s1 3587 t' = t_openCount s t' := g1 3587 t' (by decide)
  have e29 : gA s1 29 t' k = t_open s t' k := g3 29 t' k (by decide) (by decide)
  rw [e87, e29]
  refine ⟨fun c => ?_, fun c => ⟨?_, ?_⟩⟩
  · have : k = t_openCount s t' := Int32.le_antisymm h2 c
    rw [← this]
    exact ⟨by trivial, ⟨g1, g2, g3, g4, g5, g6⟩, hb1⟩
  · clear g1 g2 g3 g4 g5 g6 hb1 hb ho o1 o2
    grind
  have hk := Int32.not_le.mp c
  obtain ⟨l1, l2⟩ := o1 k h1 hk
  have hne : ∀ j, 0 ≤ j → j < k → t_open s t' k ≠ t_open s t' j := fun j a b => (o2 j k a b hk).symm
  have ef : a_first s1 (t_open s t' k) = t' := (g5 _ hne).trans l2
  have e40 : f_used s1 = f_used s := g1 40 0 (by decide)
  have e58 : a_sort s1 (t_open s t' k) = 8 := (g3 58 0 _ (by decide) (by decide)).trans l1.2.2.1
  obtain ⟨b1, b2, b3⟩ := hb1 _ l1.1 (by rw [e40]; exact l1.2.1)
  have b4 := b3.2.2.2 e58
  refine ok_mono (closeVariable_ok s1 _ ⟨l1.1, ?_⟩ ⟨b4.1, fun z => ⟨(b4.2 z).1, Int32.lt_trans (b4.2 z).2 (by decide)⟩⟩ (b1.2.2.2 e58).ld.kind) fun _ s2 hs => ?_
  · have := l1.2.1
    clear g1 g2 g3 g4 g5 g6 hb1 hb ho o1 o2 b1 b2 b3 b4 l1
    grind
  have nx : ∀ j, j < k + 1 → j = k ∨ j < k := fun j z => by clear g1 g2 g3 g4 g5 g6 hb1 hb ho o1 o2 b1 b2 b3 b4 l1 hs hne; grind
  refine ⟨⟨by trivial, ⟨?_, ?_⟩, ⟨fun f i a => (hs.1 f i a).trans (g1 f i a), fun f i a => (hs.2.1 f i a).trans (g2 f i a), fun a i j b d => (hs.2.2.1 a i j b d).trans (g3 a i j b d), fun a i j b => (hs.2.2.2.1 a i j b).trans (g4 a i j b), fun z hz => ?_, fun j a b => ?_⟩, hb1.cl hs e58⟩, ?_⟩
  · clear g1 g2 g3 g4 g5 g6 hb1 hb ho o1 o2 b1 b2 b3 b4 l1 hs hne nx
    grind
  · clear g1 g2 g3 g4 g5 g6 hb1 hb ho o1 o2 b1 b2 b3 b4 l1 hs hne nx
    grind
  · rw [show a_first s2 z = a_first s1 z from hs.F (hz k h1 (by clear g1 g2 g3 g4 g5 g6 hb1 hb ho o1 o2 b1 b2 b3 b4 l1 hs hne nx; grind))]
    exact g5 z fun j a b => hz j a (by clear g1 g2 g3 g4 g5 g6 hb1 hb ho o1 o2 b1 b2 b3 b4 l1 hs hne nx; grind)
  · by_cases d : t_open s t' j = t_open s t' k
    · show gA s2 62 0 _ = -1
      rw [hs.2.2.2.2.1, if_pos d]
    · rw [show a_first s2 (t_open s t' j) = a_first s1 (t_open s t' j) from hs.F d]
      rcases nx j b with e | e
      · exact absurd (by rw [e]) d
      · exact g6 j a e
  · clear g1 g2 g3 g4 g5 g6 hb1 hb ho o1 o2 b1 b2 b3 b4 l1 hs hne nx
    exact clamp_lt (by grind) (by grind)
