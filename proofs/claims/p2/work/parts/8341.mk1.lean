/-! Room for one more, and a new place. -/
def Gcx (s s' : S1) : Prop := (∀ f i, f ≠ 34 → f ≠ 35 → f ≠ 36 → f ≠ 39 → f ≠ 54 → f ≠ 64 → f ≠ 66 → f ≠ 69 → f ≠ 73 → f ≠ 3584 → f ≠ 3587 → gI s' f i = gI s f i) ∧ (∀ f i, f ≠ 65 → f ≠ 67 → gL s' f i = gL s f i) ∧
  (∀ a i j, a ≠ 5 → a ≠ 58 → a ≠ 59 → a ≠ 62 → a ≠ 65 → a ≠ 66 → a ≠ 68 → a ≠ 75 → gA s' a i j = gA s a i j) ∧ (∀ a i j, a ≠ 6 → gB s' a i j = gB s a i j) ∧ (∀ z, a_sort s z ≠ 8 → a_first s' z = a_first s z) ∧ (∀ z, 0 ≤ z → z < f_used s → a_sort s' z = 0 ∨ a_sort s' z = a_sort s z) ∧
  (∀ x k, Lv false s x k → k ≠ 0 → a_fixed s x ≠ 0 → Lv false s' x k) ∧ PT s s'
theorem Gc.refl (s : S1) : Gc s s := ⟨fun _ _ _ _ _ _ _ _ _ _ _ => rfl, fun _ _ _ => rfl, fun _ _ _ _ _ _ _ _ _ _ _ => rfl, fun _ _ _ _ => rfl, fun _ _ => rfl, fun _ _ _ => Or.inr rfl, fun _ _ h _ _ => h, PT.refl s⟩
theorem Gc.x {s s' : S1} (h : Gc s s') : Gcx s s' := ⟨fun f i a b c d e _ g k _ l m => h.1 f i a b c d e g k l m, fun f i _ b => h.2.1 f i b, h.2.2.1, h.2.2.2.1, h.2.2.2.2.1, h.2.2.2.2.2⟩
theorem Gcx.raise {s s' : S1} (h : Gcx s s') (n c : Int32) : Gcx s (sI (sL (sI s' 64 0 3) 65 0 n.toInt64) 73 0 c) := by
  obtain ⟨h1, h2, h3, h4, h5, h7, h6, h8⟩ := h
  refine ⟨fun f i a1 a2 a3 a4 a5 a6 a7 a8 a9 a10 a11 => ?_, fun f i a b => ?_, h3, h4, h5, h7, fun x k a b d => ?_, h8.trans (PT.same (fun t => by simp only [gI_sI, gI_sL, gI_sA, gI_sB, gI_sAf, gI_sBf, gL_sI, gL_sL, gL_sA, gL_sB, gL_sAf, gL_sBf, gA_sI, gA_sL, gA_sA, gA_sB, gA_sAf, gA_sBf, gB_sI, gB_sL, gB_sA, gB_sB, gB_sAf, gB_sBf, Nat.reduceEqDiff, Nat.reduceMul, Nat.reduceAdd, false_and, true_and, and_true, and_false, if_true, if_false]) (by simp only [gI_sI, gI_sL, gI_sA, gI_sB, gI_sAf, gI_sBf, gL_sI, gL_sL, gL_sA, gL_sB, gL_sAf, gL_sBf, gA_sI, gA_sL, gA_sA, gA_sB, gA_sAf, gA_sBf, gB_sI, gB_sL, gB_sA, gB_sB, gB_sAf, gB_sBf, Nat.reduceEqDiff, Nat.reduceMul, Nat.reduceAdd, false_and, true_and, and_true, and_false, if_true, if_false]))⟩
  · rw [gI_sI, if_neg (fun z => a9 z.1), gI_sL, gI_sI, if_neg (fun z => a6 z.1)]
    exact h1 f i a1 a2 a3 a4 a5 a6 a7 a8 a9 a10 a11
  · rw [gL_sI, gL_sL, if_neg (fun z => a z.1), gL_sI]
    exact h2 f i a b
  · have := h6 x k a b d
    unfold Lv at *
    simp only [f_used, a_sort, gI_sI, gI_sL, gI_sA, gI_sB, gI_sAf, gI_sBf, gL_sI, gL_sL, gL_sA, gL_sB, gL_sAf, gL_sBf, gA_sI, gA_sL, gA_sA, gA_sB, gA_sAf, gA_sBf, gB_sI, gB_sL, gB_sA, gB_sB, gB_sAf, gB_sBf, Nat.reduceEqDiff, Nat.reduceMul, Nat.reduceAdd, false_and, true_and, and_true, and_false, if_true, if_false] at *
    exact this
/-- what is to be done next stays, or it is an error -/
def Td (s s' : S1) : Prop := f_todo s' = f_todo s ∨ f_todo s' = 3 ∨ f_todo s' = 4
theorem Td.trans {a b c : S1} (h : Td a b) (k : Td b c) : Td a c := by
  rcases k with k | k
  · unfold Td
    rw [k]
    exact h
  · exact Or.inr k
/-- where no collection may come, what lived lives on -/
def Kl (s s' : S1) : Prop := Td s s' ∧ (f_noCollection s ≠ 0 → (∀ x k, Lv false s x k → Lv false s' x k) ∧ (Vl false s (f_errorKind s) (f_errorValue s) → Vl false s' (f_errorKind s') (f_errorValue s')))
theorem Kl.refl (s : S1) : Kl s s := ⟨Or.inl rfl, fun _ => ⟨fun _ _ h => h, fun h => h⟩⟩
theorem Kl.raise {s s' : S1} (h : Kl s s') (n c : Int32) (hc : c = 3 ∨ c = 4) : Kl s (sI (sL (sI s' 64 0 3) 65 0 n.toInt64) 73 0 c) := by
  refine ⟨Or.inr ?_, fun z => ⟨fun x k hx => ?_, fun _ => Or.inl ?_⟩⟩
  · simp only [f_todo, gI_sI, gI_sL, gI_sA, gI_sB, gI_sAf, gI_sBf, gL_sI, gL_sL, gL_sA, gL_sB, gL_sAf, gL_sBf, gA_sI, gA_sL, gA_sA, gA_sB, gA_sAf, gA_sBf, gB_sI, gB_sL, gB_sA, gB_sB, gB_sAf, gB_sBf, Nat.reduceEqDiff, Nat.reduceMul, Nat.reduceAdd, false_and, true_and, and_true, and_false, if_true, if_false]
    exact hc
  · have := (h.2 z).1 x k hx
    unfold Lv at *
    simp only [f_used, a_sort, gI_sI, gI_sL, gI_sA, gI_sB, gI_sAf, gI_sBf, gL_sI, gL_sL, gL_sA, gL_sB, gL_sAf, gL_sBf, gA_sI, gA_sL, gA_sA, gA_sB, gA_sAf, gA_sBf, gB_sI, gB_sL, gB_sA, gB_sB, gB_sAf, gB_sBf, Nat.reduceEqDiff, Nat.reduceMul, Nat.reduceAdd, false_and, true_and, and_true, and_false, if_true, if_false] at *
    exact this
  · simp only [f_errorKind, gI_sI, gI_sL, gI_sA, gI_sB, gI_sAf, gI_sBf, gL_sI, gL_sL, gL_sA, gL_sB, gL_sAf, gL_sBf, gA_sI, gA_sL, gA_sA, gA_sB, gA_sAf, gA_sBf, gB_sI, gB_sL, gB_sA, gB_sB, gB_sAf, gB_sBf, Nat.reduceEqDiff, Nat.reduceMul, Nat.reduceAdd, false_and, true_and, and_true, and_false, if_true, if_false]
    exact ⟨by decide, by decide⟩
def MayP (s : S1) (t : Int32) (v : Int32) (s' : S1) : Prop := Gm s' ∧ Gcx s s' ∧ Kl s s' ∧ (v = 0 ∨ v = 1) ∧ (v ≠ 0 → Gc s s' ∧ f_existing s' < f_limit s' ∧ f_madeAll s' ≠ 60000 ∧ (t ≠ 0 → f_coroutines s' < 32))
theorem may56_ok (s s' : S1) (t : Int32) (h : Gm s') (hg : Gc s s') (hl : Kl s s') (hm : f_madeAll s' ≠ 60000) : ok (M_Mo_may_j56 t) s' (MayP s t) := by
  have no : ok M_Mo_may_j82 s' (MayP s t) := by
    simp only [M_Mo_may_j82, ok_B, ok_C, ok_R, ok_L, ok_K, ok_GI, ok_GL, ok_PI, ok_PL, ok_AI, ok_AL, ok_SI, ok_SL, ok_Pr, ok_CI, cmp_lt, cmp_le, cmp_gt, cmp_ge, cmp_eq, nar0, nar1, Sum.elim_inl, Sum.elim_inr]
    refine ok_mono (q_raise_ok s' 10) fun v s2 ⟨_, e⟩ => ?_
    subst e
    exact ⟨h.raise 10 _, hg.x.raise 10 _, hl.raise 10 _ (by decide), Or.inl rfl, fun z => absurd rfl z⟩
  simp only [M_Mo_may_j56, ok_B, ok_C, ok_R, ok_L, ok_K, ok_GI, ok_GL, ok_PI, ok_PL, ok_AI, ok_AL, ok_SI, ok_SL, ok_Pr, ok_CI, cmp_lt, cmp_le, cmp_gt, cmp_ge, cmp_eq, nar0, nar1, Sum.elim_inl, Sum.elim_inr]
  refine ⟨fun _ => no, fun c => ⟨fun d => ?_, fun d => ⟨fun _ => no, fun e => ?_⟩⟩⟩
  · exact ⟨h, hg.x, hl, Or.inr rfl, fun _ => ⟨hg, Int32.not_le.mp c, hm, fun z => absurd d z⟩⟩
  · exact ⟨h, hg.x, hl, Or.inr rfl, fun _ => ⟨hg, Int32.not_le.mp c, hm, fun _ => Int32.not_le.mp e⟩⟩
theorem may45_ok (s : S1) (t : Int32) (h : Gm s) (hm : f_madeAll s ≠ 60000) : ok (M_Mo_may_j45 t) s (MayP s t) := by
  simp only [M_Mo_may_j45, ok_B, ok_C, ok_R, ok_L, ok_K, ok_GI, ok_GL, ok_PI, ok_PL, ok_AI, ok_AL, ok_SI, ok_SL, ok_Pr, ok_CI, cmp_lt, cmp_le, cmp_gt, cmp_ge, cmp_eq, nar0, nar1, Sum.elim_inl, Sum.elim_inr]
  refine ⟨fun c => ?_, fun c => may56_ok s s t h (Gc.refl s) (Kl.refl s) hm⟩
  obtain ⟨r1, r2⟩ := h.2 c
  refine ok_mono (gc_ok s (Hp.mk h.1 r1 r2)) fun _ s' ⟨hp, hg⟩ => may56_ok s s' t ⟨hp.q, fun _ => ⟨hp.2.2.2.2.2.2.1, hp.2.2.2.2.2.2.2⟩⟩ hg ⟨Or.inl (hg.1 73 0 (by decide) (by decide) (by decide) (by decide) (by decide) (by decide) (by decide) (by decide) (by decide)), fun z => absurd c z⟩ ?_
  show gI s' 42 0 ≠ 60000
  rw [hg.1 42 0 (by decide) (by decide) (by decide) (by decide) (by decide) (by decide) (by decide) (by decide) (by decide)]
  exact hm
theorem may_ok (s : S1) (t : Int32) (h : Gm s) : ok (M_Mo_may t) s (MayP s t) := by
  simp only [M_Mo_may, ok_B, ok_C, ok_R, ok_L, ok_K, ok_GI, ok_GL, ok_PI, ok_PL, ok_AI, ok_AL, ok_SI, ok_SL, ok_Pr, ok_CI, cmp_lt, cmp_le, cmp_gt, cmp_ge, cmp_eq, nar0, nar1, Sum.elim_inl, Sum.elim_inr]
  refine ⟨fun _ => ?_, fun c => ⟨fun d => may45_ok s t h c, fun d => ⟨fun e => ?_, fun e => ⟨fun f => may45_ok s t h c, fun f => ?_⟩⟩⟩⟩
  · refine ok_mono (q_raise_ok s 11) fun v s2 ⟨_, e⟩ => ?_
    subst e
    exact ⟨h.raise 11 _, (Gc.refl s).x.raise 11 _, (Kl.refl s).raise 11 _ (by decide), Or.inl rfl, fun z => absurd rfl z⟩
  · exact ⟨h, (Gc.refl s).x, Kl.refl s, Or.inr rfl, fun _ => ⟨Gc.refl s, Int32.not_le.mp d, c, fun z => absurd e z⟩⟩
  · exact ⟨h, (Gc.refl s).x, Kl.refl s, Or.inr rfl, fun _ => ⟨Gc.refl s, Int32.not_le.mp d, c, fun _ => Int32.not_le.mp f⟩⟩
/-- a new place x of sort k; nothing is in it yet -/
def Nw (s s' : S1) (x k : Int32) : Prop := (0 ≤ x ∧ x < f_used s' ∧ f_used s' ≤ 4000) ∧ (∀ z, z < f_used s → z < f_used s') ∧ (∀ z, z ≠ x → z < f_used s' → z < f_used s) ∧ (x < f_used s → a_sort s x = 0) ∧ Frl s' ∧
  (∀ f i, f ≠ 33 → f ≠ 34 → f ≠ 40 → f ≠ 42 → f ≠ 54 → gI s' f i = gI s f i) ∧ (∀ f i, gL s' f i = gL s f i) ∧ (∀ a i j, a ≠ 58 → a ≠ 60 → a ≠ 61 → gA s' a i j = gA s a i j) ∧ (∀ a i j, gB s' a i j = gB s a i j) ∧
  (∀ z, a_sort s' z = if z = x then k else a_sort s z) ∧ (∀ z, a_fixed s' z = if z = x then 0 else a_fixed s z) ∧ (∀ z, a_tag s' z = if z = x then f_made s else a_tag s z) ∧ f_made s' = f_made s + 1 ∧ f_madeAll s' = f_madeAll s + 1
def O37 (s s' : S1) (x k : Int32) : Prop := (∀ f i, f ≠ 33 → f ≠ 34 → f ≠ 42 → gI s' f i = gI s f i) ∧ (∀ f i, gL s' f i = gL s f i) ∧ (∀ a i j, a ≠ 58 → a ≠ 60 → a ≠ 61 → gA s' a i j = gA s a i j) ∧ (∀ a i j, gB s' a i j = gB s a i j) ∧
  (∀ z, gA s' 58 0 z = if z = x then k else gA s 58 0 z) ∧ (∀ z, gA s' 60 0 z = if z = x then 0 else gA s 60 0 z) ∧ (∀ z, gA s' 61 0 z = if z = x then gI s 33 0 else gA s 61 0 z) ∧ gI s' 33 0 = gI s 33 0 + 1 ∧ gI s' 42 0 = gI s 42 0 + 1 ∧ gI s' 34 0 = gI s 34 0 + 1
theorem obj37_ok (s : S1) (k x : Int32) (hk : 0 ≤ k ∧ k ≤ 8) (hx : 0 ≤ x ∧ x < 4100) : ok (M_Mo_object_j37 k x) s (fun y s' => y = x ∧ O37 s s' x k) := by
  simp only [M_Mo_object_j37, ok_B, ok_C, ok_R, ok_L, ok_K, ok_GI, ok_GL, ok_PI, ok_PL, ok_AI, ok_AL, ok_SI, ok_SL, ok_Pr, ok_CI, cmp_lt, cmp_le, cmp_gt, cmp_ge, cmp_eq, nar0, nar1, Sum.elim_inl, Sum.elim_inr, i8_id hk]
  simp only [gI_sI, gI_sL, gI_sA, gI_sB, gI_sAf, gI_sBf, gL_sI, gL_sL, gL_sA, gL_sB, gL_sAf, gL_sBf, gA_sI, gA_sL, gA_sA, gA_sB, gA_sAf, gA_sBf, gB_sI, gB_sL, gB_sA, gB_sB, gB_sAf, gB_sBf, Nat.reduceEqDiff, Nat.reduceMul, Nat.reduceAdd, false_and, true_and, and_true, and_false, if_true, if_false]
  refine ⟨hx, hx, hx, fun f i a b c => ?_, fun f i => rfl, fun f i j a b c => ?_, fun f i j => rfl, fun z => ?_, fun z => ?_, fun z => ?_, ?_, ?_, ?_⟩
  · simp only [gI_sI, gI_sL, gI_sA, gI_sB, gI_sAf, gI_sBf, gL_sI, gL_sL, gL_sA, gL_sB, gL_sAf, gL_sBf, gA_sI, gA_sL, gA_sA, gA_sB, gA_sAf, gA_sBf, gB_sI, gB_sL, gB_sA, gB_sB, gB_sAf, gB_sBf, Nat.reduceEqDiff, Nat.reduceMul, Nat.reduceAdd, false_and, true_and, and_true, and_false, if_true, if_false, a, b, c]
  · simp only [gI_sI, gI_sL, gI_sA, gI_sB, gI_sAf, gI_sBf, gL_sI, gL_sL, gL_sA, gL_sB, gL_sAf, gL_sBf, gA_sI, gA_sL, gA_sA, gA_sB, gA_sAf, gA_sBf, gB_sI, gB_sL, gB_sA, gB_sB, gB_sAf, gB_sBf, Nat.reduceEqDiff, Nat.reduceMul, Nat.reduceAdd, false_and, true_and, and_true, and_false, if_true, if_false, a, b, c]
  · simp only [gI_sI, gI_sL, gI_sA, gI_sB, gI_sAf, gI_sBf, gL_sI, gL_sL, gL_sA, gL_sB, gL_sAf, gL_sBf, gA_sI, gA_sL, gA_sA, gA_sB, gA_sAf, gA_sBf, gB_sI, gB_sL, gB_sA, gB_sB, gB_sAf, gB_sBf, Nat.reduceEqDiff, Nat.reduceMul, Nat.reduceAdd, false_and, true_and, and_true, and_false, if_true, if_false]
  · simp only [gI_sI, gI_sL, gI_sA, gI_sB, gI_sAf, gI_sBf, gL_sI, gL_sL, gL_sA, gL_sB, gL_sAf, gL_sBf, gA_sI, gA_sL, gA_sA, gA_sB, gA_sAf, gA_sBf, gB_sI, gB_sL, gB_sA, gB_sB, gB_sAf, gB_sBf, Nat.reduceEqDiff, Nat.reduceMul, Nat.reduceAdd, false_and, true_and, and_true, and_false, if_true, if_false]
  · simp only [gI_sI, gI_sL, gI_sA, gI_sB, gI_sAf, gI_sBf, gL_sI, gL_sL, gL_sA, gL_sB, gL_sAf, gL_sBf, gA_sI, gA_sL, gA_sA, gA_sB, gA_sAf, gA_sBf, gB_sI, gB_sL, gB_sA, gB_sB, gB_sAf, gB_sBf, Nat.reduceEqDiff, Nat.reduceMul, Nat.reduceAdd, false_and, true_and, and_true, and_false, if_true, if_false]
  · simp only [gI_sI, gI_sL, gI_sA, gI_sB, gI_sAf, gI_sBf, gL_sI, gL_sL, gL_sA, gL_sB, gL_sAf, gL_sBf, gA_sI, gA_sL, gA_sA, gA_sB, gA_sAf, gA_sBf, gB_sI, gB_sL, gB_sA, gB_sB, gB_sAf, gB_sBf, Nat.reduceEqDiff, Nat.reduceMul, Nat.reduceAdd, false_and, true_and, and_true, and_false, if_true, if_false]
  · simp only [gI_sI, gI_sL, gI_sA, gI_sB, gI_sAf, gI_sBf, gL_sI, gL_sL, gL_sA, gL_sB, gL_sAf, gL_sBf, gA_sI, gA_sL, gA_sA, gA_sB, gA_sAf, gA_sBf, gB_sI, gB_sL, gB_sA, gB_sB, gB_sAf, gB_sBf, Nat.reduceEqDiff, Nat.reduceMul, Nat.reduceAdd, false_and, true_and, and_true, and_false, if_true, if_false]
  · simp only [gI_sI, gI_sL, gI_sA, gI_sB, gI_sAf, gI_sBf, gL_sI, gL_sL, gL_sA, gL_sB, gL_sAf, gL_sBf, gA_sI, gA_sL, gA_sA, gA_sB, gA_sAf, gA_sBf, gB_sI, gB_sL, gB_sA, gB_sB, gB_sAf, gB_sBf, Nat.reduceEqDiff, Nat.reduceMul, Nat.reduceAdd, false_and, true_and, and_true, and_false, if_true, if_false]
theorem object_ok (s : S1) (k : Int32) (hk : 0 < k ∧ k ≤ 8) (hu : 0 ≤ f_used s ∧ f_used s ≤ 4000) (hf : Frl s) (he : f_existing s < 4000) : ok (M_Mo_object k) s (fun x s' => Nw s s' x k) := by
  have hle := hf.le hu.1
  have hk0 : 0 ≤ k ∧ k ≤ 8 := ⟨Int32.le_of_lt hk.1, hk.2⟩
  obtain ⟨f1, f2, f3, f4⟩ := hf
  simp only [M_Mo_object, ok_B, ok_C, ok_R, ok_L, ok_K, ok_GI, ok_GL, ok_PI, ok_PL, ok_AI, ok_AL, ok_SI, ok_SL, ok_Pr, ok_CI, cmp_lt, cmp_le, cmp_gt, cmp_ge, cmp_eq, nar0, nar1, Sum.elim_inl, Sum.elim_inr]
  refine ⟨fun c => ?_, fun c => ?_⟩
  · have e0 : gI s 54 0 = 0 := by
      simp only [f_freed] at *
      exact Int32.le_antisymm c f1
    have e4 : gI s 34 0 = gI s 40 0 := by
      simp only [f_existing, f_freed, f_used] at *
      clear f2 f3
      grind
    have hb : (0 ≤ gI s 40 0 ∧ gI s 40 0 < 4100) ∧ gI s 40 0 < gI s 40 0 + 1 ∧ gI s 40 0 + 1 ≤ 4000 ∧ (∀ z, z < gI s 40 0 → z < gI s 40 0 + 1) ∧ ∀ z, z ≠ gI s 40 0 → z < gI s 40 0 + 1 → z < gI s 40 0 := by
      simp only [f_existing, f_freed, f_used] at *
      clear f2 f3
      refine ⟨by grind, by grind, by grind, fun z a => by grind, fun z a b => by grind⟩
    obtain ⟨b1, b2, b3, b4, b5⟩ := hb
    refine ok_mono (obj37_ok _ k _ hk0 b1) fun x s' ⟨ex, o1, o2, o3, o4, o5, o6, o7, o8, o9, o10⟩ => ?_
    subst ex
    have eu : gI s' 40 0 = gI s 40 0 + 1 := by
      rw [o1 40 0 (by decide) (by decide) (by decide)]
      simp only [gI_sI, gI_sL, gI_sA, gI_sB, gI_sAf, gI_sBf, gL_sI, gL_sL, gL_sA, gL_sB, gL_sAf, gL_sBf, gA_sI, gA_sL, gA_sA, gA_sB, gA_sAf, gA_sBf, gB_sI, gB_sL, gB_sA, gB_sB, gB_sAf, gB_sBf, Nat.reduceEqDiff, Nat.reduceMul, Nat.reduceAdd, false_and, true_and, and_true, and_false, if_true, if_false]
    have ef : gI s' 54 0 = 0 := by
      rw [o1 54 0 (by decide) (by decide) (by decide)]
      simp only [gI_sI, gI_sL, gI_sA, gI_sB, gI_sAf, gI_sBf, gL_sI, gL_sL, gL_sA, gL_sB, gL_sAf, gL_sBf, gA_sI, gA_sL, gA_sA, gA_sB, gA_sAf, gA_sBf, gB_sI, gB_sL, gB_sA, gB_sB, gB_sAf, gB_sBf, Nat.reduceEqDiff, Nat.reduceMul, Nat.reduceAdd, false_and, true_and, and_true, and_false, if_true, if_false]
      exact e0
    have ee : gI s' 34 0 = gI s 34 0 + 1 := by
      rw [o10]
      simp only [gI_sI, gI_sL, gI_sA, gI_sB, gI_sAf, gI_sBf, gL_sI, gL_sL, gL_sA, gL_sB, gL_sAf, gL_sBf, gA_sI, gA_sL, gA_sA, gA_sB, gA_sAf, gA_sBf, gB_sI, gB_sL, gB_sA, gB_sB, gB_sAf, gB_sBf, Nat.reduceEqDiff, Nat.reduceMul, Nat.reduceAdd, false_and, true_and, and_true, and_false, if_true, if_false]
    refine ⟨⟨b1.1, ?_, ?_⟩, fun z a => ?_, fun z a b => ?_, fun a => ?_, ⟨?_, fun j a b => ?_, fun i j a b d => ?_, ?_⟩, fun f i a b d e g => ?_, fun f i => ?_, fun a i j b d e => ?_, fun a i j => ?_, fun z => ?_, fun z => ?_, fun z => ?_, ?_, ?_⟩
    · show _ < gI s' 40 0
      rw [eu]
      exact b2
    · show gI s' 40 0 ≤ 4000
      rw [eu]
      exact b3
    · show z < gI s' 40 0
      rw [eu]
      exact b4 z a
    · have b' : z < gI s' 40 0 := b
      rw [eu] at b'
      exact b5 z a b'
    · exact absurd a Int32.lt_irrefl
    · show 0 ≤ gI s' 54 0
      rw [ef]
      decide
    · have b' : j < gI s' 54 0 := b
      rw [ef] at b'
      exact absurd (Int32.lt_of_le_of_lt a b') Int32.lt_irrefl
    · have d' : j < gI s' 54 0 := d
      rw [ef] at d'
      exact absurd (Int32.lt_of_le_of_lt a (Int32.lt_trans b d')) Int32.lt_irrefl
    · show gI s' 34 0 + gI s' 54 0 = gI s' 40 0
      rw [ef, ee, eu, e4]
      clear f2 f3 o1 o2 o3 o4 o5 o6 o7
      grind
    · rw [o1 f i a b e, gI_sI, if_neg (fun z => d z.1)]
    · rw [o2, gL_sI]
    · rw [o3 a i j b d e, gA_sI]
    · rw [o4, gB_sI]
    · exact o5 z
    · exact o6 z
    · refine (o7 z).trans ?_
      simp only [gI_sI, gI_sL, gI_sA, gI_sB, gI_sAf, gI_sBf, gL_sI, gL_sL, gL_sA, gL_sB, gL_sAf, gL_sBf, gA_sI, gA_sL, gA_sA, gA_sB, gA_sAf, gA_sBf, gB_sI, gB_sL, gB_sA, gB_sB, gB_sAf, gB_sBf, Nat.reduceEqDiff, Nat.reduceMul, Nat.reduceAdd, false_and, true_and, and_true, and_false, if_true, if_false]
    · refine o8.trans ?_
      simp only [gI_sI, gI_sL, gI_sA, gI_sB, gI_sAf, gI_sBf, gL_sI, gL_sL, gL_sA, gL_sB, gL_sAf, gL_sBf, gA_sI, gA_sL, gA_sA, gA_sB, gA_sAf, gA_sBf, gB_sI, gB_sL, gB_sA, gB_sB, gB_sAf, gB_sBf, Nat.reduceEqDiff, Nat.reduceMul, Nat.reduceAdd, false_and, true_and, and_true, and_false, if_true, if_false]
    · refine o9.trans ?_
      simp only [gI_sI, gI_sL, gI_sA, gI_sB, gI_sAf, gI_sBf, gL_sI, gL_sL, gL_sA, gL_sB, gL_sAf, gL_sBf, gA_sI, gA_sL, gA_sA, gA_sB, gA_sAf, gA_sBf, gB_sI, gB_sL, gB_sA, gB_sB, gB_sAf, gB_sBf, Nat.reduceEqDiff, Nat.reduceMul, Nat.reduceAdd, false_and, true_and, and_true, and_false, if_true, if_false]
  · have hb : 0 ≤ gI s 54 0 - 1 ∧ gI s 54 0 - 1 < gI s 54 0 ∧ gI s 54 0 - 1 < 4100 ∧ ∀ j, j < gI s 54 0 - 1 → j < gI s 54 0 := by
      simp only [f_existing, f_freed, f_used] at *
      clear f2 f3
      refine ⟨by grind, by grind, by grind, fun j a => by grind⟩
    obtain ⟨b1, b2, b3, b4⟩ := hb
    have q := f2 _ b1 b2
    refine ⟨⟨b1, b3⟩, ?_⟩
    refine ok_mono (obj37_ok _ k _ hk0 ⟨q.1, ?_⟩) fun x s' ⟨ex, o1, o2, o3, o4, o5, o6, o7, o8, o9, o10⟩ => ?_
    · have := q.2.1
      simp only [gI_sI, gI_sL, gI_sA, gI_sB, gI_sAf, gI_sBf, gL_sI, gL_sL, gL_sA, gL_sB, gL_sAf, gL_sBf, gA_sI, gA_sL, gA_sA, gA_sB, gA_sAf, gA_sBf, gB_sI, gB_sL, gB_sA, gB_sB, gB_sAf, gB_sBf, Nat.reduceEqDiff, Nat.reduceMul, Nat.reduceAdd, false_and, true_and, and_true, and_false, if_true, if_false]
      simp only [f_existing, f_freed, f_used, a_free] at *
      clear f2 f3
      grind
    subst ex
    simp only [gA_sI] at *
    have eu : gI s' 40 0 = gI s 40 0 := by
      rw [o1 40 0 (by decide) (by decide) (by decide)]
      simp only [gI_sI, gI_sL, gI_sA, gI_sB, gI_sAf, gI_sBf, gL_sI, gL_sL, gL_sA, gL_sB, gL_sAf, gL_sBf, gA_sI, gA_sL, gA_sA, gA_sB, gA_sAf, gA_sBf, gB_sI, gB_sL, gB_sA, gB_sB, gB_sAf, gB_sBf, Nat.reduceEqDiff, Nat.reduceMul, Nat.reduceAdd, false_and, true_and, and_true, and_false, if_true, if_false]
    have ef : gI s' 54 0 = gI s 54 0 - 1 := by
      rw [o1 54 0 (by decide) (by decide) (by decide)]
      simp only [gI_sI, gI_sL, gI_sA, gI_sB, gI_sAf, gI_sBf, gL_sI, gL_sL, gL_sA, gL_sB, gL_sAf, gL_sBf, gA_sI, gA_sL, gA_sA, gA_sB, gA_sAf, gA_sBf, gB_sI, gB_sL, gB_sA, gB_sB, gB_sAf, gB_sBf, Nat.reduceEqDiff, Nat.reduceMul, Nat.reduceAdd, false_and, true_and, and_true, and_false, if_true, if_false]
    have ee : gI s' 34 0 = gI s 34 0 + 1 := by
      rw [o10]
      simp only [gI_sI, gI_sL, gI_sA, gI_sB, gI_sAf, gI_sBf, gL_sI, gL_sL, gL_sA, gL_sB, gL_sAf, gL_sBf, gA_sI, gA_sL, gA_sA, gA_sB, gA_sAf, gA_sBf, gB_sI, gB_sL, gB_sA, gB_sB, gB_sAf, gB_sBf, Nat.reduceEqDiff, Nat.reduceMul, Nat.reduceAdd, false_and, true_and, and_true, and_false, if_true, if_false]
    have e66 : ∀ j, a_free s' j = a_free s j := fun j => o3 66 0 j (by decide) (by decide) (by decide)
    refine ⟨⟨q.1, ?_, ?_⟩, fun z a => ?_, fun z a b => ?_, fun a => q.2.2, ⟨?_, fun j a b => ?_, fun i j a b d => ?_, ?_⟩, fun f i a b d e g => ?_, fun f i => ?_, fun a i j b d e => ?_, fun a i j => ?_, fun z => ?_, fun z => ?_, fun z => ?_, ?_, ?_⟩
    · show _ < gI s' 40 0
      rw [eu]
      exact q.2.1
    · show gI s' 40 0 ≤ 4000
      rw [eu]
      exact hu.2
    · show z < gI s' 40 0
      rw [eu]
      exact a
    · have b' : z < gI s' 40 0 := b
      rw [eu] at b'
      exact b'
    · show 0 ≤ gI s' 54 0
      rw [ef]
      exact b1
    · have b' : j < gI s' 54 0 := b
      rw [ef] at b'
      have w := f2 j a (b4 j b')
      rw [e66]
      refine ⟨w.1, ?_, ?_⟩
      · show _ < gI s' 40 0
        rw [eu]
        exact w.2.1
      · show gA s' 58 0 _ = 0
        exact (o5 _).trans ((if_neg (f3 j _ a b' b2)).trans w.2.2)
    · have d' : j < gI s' 54 0 := d
      rw [ef] at d'
      rw [e66, e66]
      exact f3 i j a b (b4 j d')
    · show gI s' 34 0 + gI s' 54 0 = gI s' 40 0
      have f4' : gI s 34 0 + gI s 54 0 = gI s 40 0 := f4
      rw [ef, ee, eu, ← f4']
      clear f2 f3 o1 o2 o3 o4 o5 o6 o7
      grind
    · rw [o1 f i a b e, gI_sI, if_neg (fun z => g z.1)]
    · rw [o2, gL_sI]
    · rw [o3 a i j b d e]
    · rw [o4, gB_sI]
    · exact o5 z
    · exact o6 z
    · refine (o7 z).trans ?_
      simp only [gI_sI, gI_sL, gI_sA, gI_sB, gI_sAf, gI_sBf, gL_sI, gL_sL, gL_sA, gL_sB, gL_sAf, gL_sBf, gA_sI, gA_sL, gA_sA, gA_sB, gA_sAf, gA_sBf, gB_sI, gB_sL, gB_sA, gB_sB, gB_sAf, gB_sBf, Nat.reduceEqDiff, Nat.reduceMul, Nat.reduceAdd, false_and, true_and, and_true, and_false, if_true, if_false]
    · refine o8.trans ?_
      simp only [gI_sI, gI_sL, gI_sA, gI_sB, gI_sAf, gI_sBf, gL_sI, gL_sL, gL_sA, gL_sB, gL_sAf, gL_sBf, gA_sI, gA_sL, gA_sA, gA_sB, gA_sAf, gA_sBf, gB_sI, gB_sL, gB_sA, gB_sB, gB_sAf, gB_sBf, Nat.reduceEqDiff, Nat.reduceMul, Nat.reduceAdd, false_and, true_and, and_true, and_false, if_true, if_false]
    · refine o9.trans ?_
      simp only [gI_sI, gI_sL, gI_sA, gI_sB, gI_sAf, gI_sBf, gL_sI, gL_sL, gL_sA, gL_sB, gL_sAf, gL_sBf, gA_sI, gA_sL, gA_sA, gA_sB, gA_sAf, gA_sBf, gB_sI, gB_sL, gB_sA, gB_sB, gB_sAf, gB_sBf, Nat.reduceEqDiff, Nat.reduceMul, Nat.reduceAdd, false_and, true_and, and_true, and_false, if_true, if_false]
