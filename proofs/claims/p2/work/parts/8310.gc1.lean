/-- n different numbers below u -/
theorem pigeon (f : Int32 → Int32) (n u : Int32) (hn : 0 ≤ n) (hu : 0 ≤ u) (hr : ∀ i, 0 ≤ i → i < n → 0 ≤ f i ∧ f i < u)
    (hi : ∀ i j, 0 ≤ i → i < j → j < n → f i ≠ f j) : n ≤ u := by
  have h0 : (0 : Int32).toInt = 0 := rfl
  have key : ∀ (k : Nat) (m : Nat), (∃ g : Nat → Nat, (∀ i, i < k → g i < m) ∧ (∀ i j, i < j → j < k → g i ≠ g j)) → k ≤ m := by
    intro k m
    induction m generalizing k with
    | zero => intro ⟨g, h1, h2⟩; exact Nat.le_of_not_lt fun h => absurd (h1 0 h) (by omega)
    | succ m ih =>
      intro ⟨g, h1, h2⟩
      by_cases hx : ∃ i, i < k ∧ g i = m
      · obtain ⟨i0, h3, h4⟩ := hx
        have := ih (k - 1) ⟨fun i => if i < i0 then g i else g (i + 1), ?_, ?_⟩
        · omega
        · intro i hi
          have a1 := h1 i (by omega); have a2 := h1 (i + 1) (by omega)
          by_cases hc : i < i0
          · have := h2 i i0 hc h3; simp only [hc, if_true]; omega
          · have := h2 i0 (i + 1) (by omega) (by omega); simp only [hc, if_false]; omega
        · intro i j hij hj
          by_cases hc : i < i0 <;> by_cases hd : j < i0 <;> simp only [hc, hd, if_true, if_false]
          · exact h2 i j hij (by omega)
          · exact h2 i (j + 1) (by omega) (by omega)
          · omega
          · exact h2 (i + 1) (j + 1) (by omega) (by omega)
      · have := ih k ⟨g, fun i hi => by have := h1 i hi; have : g i ≠ m := fun e => hx ⟨i, hi, e⟩; omega, h2⟩
        omega
  have hk := key n.toNatClampNeg u.toNatClampNeg ⟨fun i => (f (Int32.ofNat i)).toNatClampNeg, ?_, ?_⟩
  · rw [i32_le] at *; unfold Int32.toNatClampNeg at hk; omega
  · intro i hi'
    have e : (Int32.ofNat i).toInt = i := Int32.toInt_ofNat_of_lt (by unfold Int32.toNatClampNeg at hi'; have := Int32.toInt_lt n; omega)
    have h1 := hr (Int32.ofNat i) (by rw [i32_le, e]; omega) (by rw [i32_lt, e]; unfold Int32.toNatClampNeg at hi'; omega)
    exact clamp_lt h1.1 h1.2
  · intro i j hij hj
    have ej : (Int32.ofNat j).toInt = j := Int32.toInt_ofNat_of_lt (by unfold Int32.toNatClampNeg at hj; have := Int32.toInt_lt n; omega)
    have ei : (Int32.ofNat i).toInt = i := Int32.toInt_ofNat_of_lt (by unfold Int32.toNatClampNeg at hj; have := Int32.toInt_lt n; omega)
    have a1 : 0 ≤ Int32.ofNat i := by rw [i32_le, ei]; omega
    have a2 : Int32.ofNat i < Int32.ofNat j := by rw [i32_lt, ei, ej]; omega
    have a3 : Int32.ofNat j < n := by rw [i32_lt, ej]; unfold Int32.toNatClampNeg at hj; omega
    have h1 := hr _ a1 (by grind)
    have h2 := hr (Int32.ofNat j) (by grind) a3
    intro he
    dsimp only at he
    apply hi _ _ a1 a2 a3
    have b1 := h1.1; have b2 := h2.1
    rw [i32_le] at b1 b2
    rw [← Int32.toInt_inj]
    unfold Int32.toNatClampNeg at he; omega
/-- while marking: what is grey is marked, below `used`, and no two are the same -/
def Grey (s : S1) : Prop := (0 ≤ f_used s ∧ f_used s ≤ 4100) ∧ 0 ≤ f_greys s ∧ (∀ i, 0 ≤ i → i < f_greys s → 0 ≤ a_grey s i ∧ a_grey s i < f_used s ∧ a_marked s (a_grey s i) ≠ 0) ∧ ∀ i j, 0 ≤ i → i < j → j < f_greys s → a_grey s i ≠ a_grey s j
theorem Grey.le {s : S1} (h : Grey s) : f_greys s ≤ f_used s :=
  pigeon (a_grey s) _ _ h.2.1 h.1.1 (fun i a b => ⟨(h.2.2.1 i a b).1, (h.2.2.1 i a b).2.1⟩) h.2.2.2
theorem Grey.lt {s : S1} (h : Grey s) {x : Int32} (hx : 0 ≤ x ∧ x < f_used s) (hm : a_marked s x = 0) : f_greys s < f_used s := by
  have hu := h.1
  have hle := h.le
  have := pigeon (fun i => if i = f_greys s then x else a_grey s i) (f_greys s + 1) (f_used s) (by have := h.2.1; grind) h.1.1
    (fun i a b => by have := h.2.2.1 i a; have := h.2.1; grind)
    (fun i j a b c => by have := h.2.2.1 i a; have := h.2.2.2 i j a b; have := h.2.1; grind)
  grind
theorem countP_one (p p' : Nat → Bool) (m : Nat) (h : p m = false) (h' : p' m = true) (n : Nat) (he : ∀ i, i < n → i ≠ m → p' i = p i) : (List.range n).countP p' = (List.range n).countP p + if m < n then 1 else 0 := by
  induction n with
  | zero => simp
  | succ n ih =>
    rw [List.range_succ, List.countP_append, List.countP_append, ih (fun i hi => he i (by omega))]
    by_cases hm : n = m
    · subst hm
      simp [h, h']
    · have e := he n (by omega) hm
      have : (m < n + 1) ↔ m < n := by omega
      simp only [List.countP_cons, List.countP_nil, e, this]
      omega
/-- how many places are marked -/
def q_cnt (s : S1) : Nat := (List.range 4100).countP (fun n => decide (a_marked s (Int32.ofNat n) ≠ 0))
theorem clamp_succ {g : Int32} (h1 : 0 ≤ g) (h2 : g < 1000000) : (g + 1).toNatClampNeg = g.toNatClampNeg + 1 := by
  rw [i32_le] at h1
  rw [i32_lt] at h2
  have h0 : (0 : Int32).toInt = 0 := rfl
  have hm : (1000000 : Int32).toInt = 1000000 := rfl
  have h3 : (1 : Int32).toInt = 1 := rfl
  unfold Int32.toNatClampNeg
  rw [Int32.toInt_add, h3, Int.bmod_eq_of_le (by omega) (by omega)]
  omega
theorem q_ofNat_clamp {x : Int32} (h : 0 ≤ x) : Int32.ofNat x.toNatClampNeg = x := by
  rw [i32_le] at h
  have h0 : (0 : Int32).toInt = 0 := rfl
  rw [← Int32.toInt_inj, Int32.toInt_ofNat_of_lt (by unfold Int32.toNatClampNeg; have := Int32.toInt_lt x; omega)]
  unfold Int32.toNatClampNeg
  omega
theorem cnt_one {s s' : S1} {x : Int32} (hx : 0 ≤ x ∧ x < 4100) (h : a_marked s x = 0) (h' : a_marked s' x ≠ 0) (he : ∀ y, y ≠ x → a_marked s' y = a_marked s y) : q_cnt s' = q_cnt s + 1 := by
  have e := q_ofNat_clamp hx.1
  have hlt := clamp_lt hx.1 hx.2
  have h4 : (4100 : Int32).toNatClampNeg = 4100 := rfl
  unfold q_cnt
  rw [countP_one (fun n => decide (a_marked s (Int32.ofNat n) ≠ 0)) (fun n => decide (a_marked s' (Int32.ofNat n) ≠ 0)) x.toNatClampNeg (by rw [e, h]; rfl) (by rw [e]; exact decide_eq_true h') 4100 ?_, if_pos (by omega)]
  intro i hi0 hi
  by_cases hc : Int32.ofNat i = x
  · exfalso
    apply hi
    rw [← hc]
    unfold Int32.toNatClampNeg
    rw [Int32.toInt_ofNat_of_lt (by omega)]
    omega
  · rw [he _ hc]
theorem cnt_le (s : S1) : q_cnt s ≤ 4100 := by
  have := List.countP_le_length (p := fun n => decide (a_marked s (Int32.ofNat n) ≠ 0)) (l := List.range 4100)
  rw [List.length_range] at this
  exact this
/-- marking goes on: what was marked stays so, what is newly marked is grey; nothing else changes -/
def MStep (s s' : S1) : Prop := ((∀ f i, f ≠ 66 → f ≠ 69 → gI s' f i = gI s f i) ∧ (∀ f i, f ≠ 67 → gL s' f i = gL s f i) ∧ (∀ a i j, a ≠ 59 → a ≠ 75 → gA s' a i j = gA s a i j) ∧ ∀ a i j, gB s' a i j = gB s a i j) ∧
  (∀ y, a_marked s y ≠ 0 → a_marked s' y ≠ 0) ∧ f_greys s ≤ f_greys s' ∧ (∀ i, 0 ≤ i → i < f_greys s → a_grey s' i = a_grey s i) ∧ (∀ y, a_marked s' y ≠ 0 → a_marked s y ≠ 0 ∨ ∃ i, f_greys s ≤ i ∧ i < f_greys s' ∧ a_grey s' i = y) ∧
  q_cnt s' + (f_greys s).toNatClampNeg = q_cnt s + (f_greys s').toNatClampNeg
theorem MStep.refl (s : S1) : MStep s s := ⟨⟨fun _ _ _ _ => rfl, fun _ _ _ => rfl, fun _ _ _ _ _ => rfl, fun _ _ _ => rfl⟩, fun _ h => h, by grind, fun _ _ _ => rfl, fun _ h => Or.inl h, rfl⟩
theorem MStep.I {s s' : S1} (h : MStep s s') (f : Nat) (hf : f ≠ 66 ∧ f ≠ 69) (i : Int32) : gI s' f i = gI s f i := h.1.1 f i hf.1 hf.2
theorem MStep.A {s s' : S1} (h : MStep s s') (f : Nat) (hf : f ≠ 59 ∧ f ≠ 75) (i j : Int32) : gA s' f i j = gA s f i j := h.1.2.2.1 f i j hf.1 hf.2
theorem MStep.B {s s' : S1} (h : MStep s s') (f : Nat) (i j : Int32) : gB s' f i j = gB s f i j := h.1.2.2.2 f i j
theorem MStep.trans {a b c : S1} (h1 : MStep a b) (h2 : MStep b c) (h0 : 0 ≤ f_greys a) : MStep a c := by
  obtain ⟨⟨p1, p2, p3, p4⟩, p5, p6, p7, p8, p9⟩ := h1
  obtain ⟨⟨q1, q2, q3, q4⟩, q5, q6, q7, q8, q9⟩ := h2
  refine ⟨⟨fun f i h h' => (q1 f i h h').trans (p1 f i h h'), fun f i h => (q2 f i h).trans (p2 f i h), fun x i j h h' => (q3 x i j h h').trans (p3 x i j h h'), fun x i j => (q4 x i j).trans (p4 x i j)⟩, fun y hy => q5 y (p5 y hy), by clear p8 q8; grind, fun i x y => (q7 i x (by clear p8 q8; grind)).trans (p7 i x y), fun y hy => ?_, by omega⟩
  rcases q8 y hy with h | ⟨i, x, z, w⟩
  · rcases p8 y h with h | ⟨i, x, z, w⟩
    · exact Or.inl h
    · exact Or.inr ⟨i, x, by grind, by rw [q7 i (by grind) z]; exact w⟩
  · exact Or.inr ⟨i, by grind, z, w⟩
theorem place_ok (s : S1) (x : Int32) (h : Grey s) (hx : x < f_used s) : ok (M_Mo_place x) s (fun _ s' => Grey s' ∧ MStep s s' ∧ (0 ≤ x → a_marked s' x ≠ 0)) := by
  have hu := h.1
  simp only [M_Mo_place, ok_B, ok_C, ok_R, ok_AI, ok_SI, ok_GI, ok_PI, nar1]
  refine ⟨fun hneg => ⟨h, MStep.refl s, by grind⟩, fun hpos => ⟨by grind, fun hm => ?_, fun hm => ⟨h, MStep.refl s, by grind⟩⟩⟩
  have hlt := h.lt ⟨by grind, hx⟩ hm
  have hn := h.2.1
  simp only [gI_sA, gI_sI, gA_sA, gA_sI, gL_sA, gL_sI, gB_sA, gB_sI, Grey, MStep, f_used, f_greys, a_grey, a_marked, Nat.reduceEqDiff, false_and, true_and, and_true, if_true, if_false] at *
  refine ⟨by grind, by grind, ⟨hu, by grind, fun i a b => ?_, fun i j a b c => ?_⟩, ⟨⟨fun f i _ hf => by simp [hf], fun _ _ _ => trivial, fun y j k h1 h2 => by simp [h1, h2], fun _ _ _ => trivial⟩, fun y hy => by grind, by grind, fun i a b => by grind, fun y hy => ?_, ?_⟩, by grind⟩
  · have := h.2.2.1 i a
    clear h
    grind
  · have h1 := h.2.2.2 i j a b
    have h2 := h.2.2.1 i a
    clear h
    grind
  · clear h
    by_cases hc : y = x
    · exact Or.inr ⟨gI s 69 0, by grind, by grind, by grind⟩
    · exact Or.inl (by grind)
  · rw [cnt_one (s := s) (x := x) ⟨by grind, by grind⟩ hm ?_ ?_, clamp_succ hn (by grind)]
    · omega
    · simp only [a_marked, gI_sI, gI_sL, gI_sA, gI_sB, gI_sAf, gI_sBf, gL_sI, gL_sL, gL_sA, gL_sB, gL_sAf, gL_sBf, gA_sI, gA_sL, gA_sA, gA_sB, gA_sAf, gA_sBf, gB_sI, gB_sL, gB_sA, gB_sB, gB_sAf, gB_sBf, Nat.reduceEqDiff, Nat.reduceMul, Nat.reduceAdd, false_and, true_and, and_true, and_false, if_true, if_false]
      decide
    · intro y hy
      simp only [a_marked, gI_sI, gI_sL, gI_sA, gI_sB, gI_sAf, gI_sBf, gL_sI, gL_sL, gL_sA, gL_sB, gL_sAf, gL_sBf, gA_sI, gA_sL, gA_sA, gA_sB, gA_sAf, gA_sBf, gB_sI, gB_sL, gB_sA, gB_sB, gB_sAf, gB_sBf, Nat.reduceEqDiff, Nat.reduceMul, Nat.reduceAdd, false_and, true_and, and_true, and_false, if_true, if_false, hy]
/-- a value that names no place, or one that is marked -/
def Mk (s : S1) (k : Int32) (v : Int64) : Prop := k < 4 ∨ (k = 6 ∧ v < 0) ∨ v.toInt32 < 0 ∨ a_marked s v.toInt32 ≠ 0
theorem Mk.step {s s' : S1} {k : Int32} {v : Int64} (h : Mk s k v) (hs : MStep s s') : Mk s' k v := by
  have := hs.2.1 v.toInt32
  unfold Mk at *
  clear hs
  grind
/-- a value whose place lies below `used` -/
def Lo (s : S1) (k : Int32) (v : Int64) : Prop := k < 4 ∨ (k = 6 ∧ v < 0) ∨ v.toInt32 < f_used s
theorem mark_ok (s : S1) (k : Int32) (v : Int64) (h : Grey s) (hv : Lo s k v) : ok (M_Mo_mark k v) s (fun _ s' => Grey s' ∧ MStep s s' ∧ Mk s' k v) := by
  simp only [M_Mo_mark, M_Mo_mark_j18, ok_B, ok_C, ok_R, ok_L, ok_K, ok_GI, ok_GL, ok_PI, ok_PL, ok_AI, ok_AL, ok_SI, ok_SL, ok_Pr, ok_CI, cmp_lt, cmp_le, cmp_gt, cmp_ge, cmp_eq, nar0, nar1, Sum.elim_inl, Sum.elim_inr]
  unfold Lo at hv
  have hp : (¬ (k < 4)) → ¬ (k = 6 ∧ v < 0) → ok (M_Mo_place v.toInt32) s (fun _ s' => Grey s' ∧ MStep s s' ∧ Mk s' k v) := fun a b =>
    ok_mono (place_ok s _ h (by grind)) fun _ r hr => ⟨hr.1, hr.2.1, by
      unfold Mk
      have := hr.2.2
      clear hr
      grind⟩
  have hr := MStep.refl s
  have hm : k < 4 ∨ (k = 6 ∧ v < 0) → Mk s k v := fun z => by
    unfold Mk
    clear hp hr h
    grind
  refine ⟨fun a => ⟨h, hr, hm (Or.inl a)⟩, fun a => ⟨fun b => ⟨fun c => hp a (fun z => by have := z.2; grind), fun c => ⟨h, hr, hm (Or.inr ⟨b, by grind⟩)⟩⟩, fun b => hp a (fun z => b z.1)⟩⟩
theorem markRow_ok (s : S1) (r : Nat) (u a n : Int32) (h : Grey s) (hl1 : lnI (r + 1) ≤ 20001) (hl2 : lnI (r + 1) = lnI (r + 2)) (ha : 0 ≤ a ∧ a ≤ 20001) (hn : 0 ≤ n ∧ n ≤ 20001) (hl : a + n ≤ lnI (r + 1))
    (hne : r + 1 ≠ 59 ∧ r + 1 ≠ 75) (hv : ∀ i, a ≤ i → i < a + n → Lo s (gA s (r + 1) u i) (gB s (r + 2) u i)) :
    ok (M_Mo_markRow r u a n) s (fun _ s' => Grey s' ∧ MStep s s' ∧ ∀ i, a ≤ i → i < a + n → Mk s' (gA s (r + 1) u i) (gB s (r + 2) u i)) := by
  simp only [M_Mo_markRow, ok_B, ok_R]
  refine ok_W (fun x s' => (x.1 = r ∧ x.2.1 = u ∧ x.2.2.1 = a ∧ x.2.2.2.1 = n) ∧ (a ≤ x.2.2.2.2 ∧ x.2.2.2.2 ≤ a + n) ∧ Grey s' ∧ MStep s s' ∧ ∀ j, a ≤ j → j < x.2.2.2.2 → Mk s' (gA s (r + 1) u j) (gB s (r + 2) u j))
    (fun x _ => (a + n - x.2.2.2.2).toNatClampNeg) ?_ _ _ ⟨⟨rfl, rfl, rfl, rfl⟩, ⟨by grind, by grind⟩, h, MStep.refl s, fun j x y => by grind⟩
  rintro ⟨r', u', a', n', i⟩ s' ⟨⟨e1, e2, e3, e4⟩, ⟨h1, h2⟩, hg, hs, hm⟩
  dsimp only at e1 e2 e3 e4 h1 h2 hm
  subst e1 e2 e3 e4
  simp only [M_Mo_markRow_L3, ok_B, ok_C, ok_R, ok_L, ok_K, ok_GI, ok_GL, ok_PI, ok_PL, ok_AI, ok_AL, ok_SI, ok_SL, ok_Pr, ok_CI, cmp_lt, cmp_le, cmp_gt, cmp_ge, cmp_eq, nar0, nar1, Sum.elim_inl, Sum.elim_inr]
  refine ⟨fun h3 => ⟨hg, hs, fun j x y => hm j x (by clear hm hv hs hg; grind)⟩, fun h3 => ⟨by clear hm hv hs hg; grind, by clear hm hv hs hg; grind, ?_⟩⟩
  have e5 : gA s' (r' + 1) u' i = gA s (r' + 1) u' i := hs.A _ hne _ _
  have e6 : gB s' (r' + 2) u' i = gB s (r' + 2) u' i := hs.B _ _ _
  have e7 : f_used s' = f_used s := hs.I 40 (by decide) 0
  have hlo := hv i h1 (by clear hm hv hs hg; grind)
  rw [e5, e6]
  refine ok_mono (mark_ok s' _ _ hg (by unfold Lo at *; rw [e7]; exact hlo)) fun _ s2 hr2 => ?_
  refine ⟨⟨⟨by trivial, by trivial, by trivial, by trivial⟩, ⟨by clear hm hv hs hg hr2; grind, by clear hm hv hs hg hr2; grind⟩, hr2.1, hs.trans hr2.2.1 h.2.1, fun j x y => ?_⟩, ?_⟩
  · by_cases hj : j = i
    · subst hj
      exact hr2.2.2
    · exact (hm j x (by clear hm hv hs hg hr2; grind)).step hr2.2.1
  · clear hm hv hs hg hr2
    exact clamp_lt (by grind) (by grind)
