/-! The reference's room is emptied: clear. -/
theorem rfillI_ok (s : S1) (r : Nat) (u v : Int32) (hl : 0 ≤ lnI r ∧ lnI r ≤ 500000) : ok (M_Arr_fill r u v) s (fun _ s' => Flld s s' r u 0 (lnI r) v) := by
  simp only [M_Arr_fill, ok_B, ok_C, ok_R, ok_L, ok_K, ok_GI, ok_GL, ok_PI, ok_PL, ok_AI, ok_AL, ok_SI, ok_SL, ok_Pr, ok_CI, cmp_lt, cmp_le, cmp_gt, cmp_ge, cmp_eq, nar0, nar1, Sum.elim_inl, Sum.elim_inr]
  refine ok_W (fun y s' => (y.1 = r ∧ y.2.1 = u ∧ y.2.2.1 = v ∧ y.2.2.2.2 = lnI r) ∧ (0 ≤ y.2.2.2.1 ∧ y.2.2.2.1 ≤ lnI r) ∧ Flld s s' r u 0 y.2.2.2.1 v) (fun y _ => (lnI r - y.2.2.2.1).toNatClampNeg) ?_ _ _ ⟨⟨rfl, rfl, rfl, rfl⟩, ⟨by show (0 : Int32) ≤ 0; decide, hl.1⟩, Flld.nil⟩
  rintro ⟨r', u', v', i, n⟩ s1 ⟨⟨e1, e2, e3, e4⟩, ⟨h1, h2⟩, hf⟩
  dsimp only at e1 e2 e3 e4 h1 h2 hf
  subst e1 e2 e3 e4
  simp only [M_Arr_fill_L5, ok_B, ok_C, ok_R, ok_L, ok_K, ok_GI, ok_GL, ok_PI, ok_PL, ok_AI, ok_AL, ok_SI, ok_SL, ok_Pr, ok_CI, cmp_lt, cmp_le, cmp_gt, cmp_ge, cmp_eq, nar0, nar1, Sum.elim_inl, Sum.elim_inr]
  refine ⟨fun c => ?_, fun c => ⟨?_, ⟨⟨by trivial, by trivial, by trivial, by trivial⟩, ⟨?_, ?_⟩, ?_⟩, ?_⟩⟩
  · have : i = lnI r' := by clear hf; grind
    rw [← this]
    exact hf
  · clear hf
    grind
  · clear hf
    grind
  · clear hf
    grind
  · exact hf.next ⟨h1, by clear hf; grind⟩
  · clear hf
    exact clamp_lt (by grind) (by grind)
theorem fillY_ok (s : S1) (r : Nat) (u v : Int32) (hl : 0 ≤ lnI r ∧ lnI r ≤ 500000) : ok (M_Arr_fill___ r u v) s (fun _ s' => Flld s s' r u 0 (lnI r) v.toInt8.toInt32) := by
  simp only [M_Arr_fill___, ok_B, ok_C, ok_R, ok_L, ok_K, ok_GI, ok_GL, ok_PI, ok_PL, ok_AI, ok_AL, ok_SI, ok_SL, ok_Pr, ok_CI, cmp_lt, cmp_le, cmp_gt, cmp_ge, cmp_eq, nar0, nar1, Sum.elim_inl, Sum.elim_inr]
  refine ok_W (fun y s' => (y.1 = r ∧ y.2.1 = u ∧ y.2.2.1 = v ∧ y.2.2.2.2 = lnI r) ∧ (0 ≤ y.2.2.2.1 ∧ y.2.2.2.1 ≤ lnI r) ∧ Flld s s' r u 0 y.2.2.2.1 v.toInt8.toInt32) (fun y _ => (lnI r - y.2.2.2.1).toNatClampNeg) ?_ _ _ ⟨⟨rfl, rfl, rfl, rfl⟩, ⟨by show (0 : Int32) ≤ 0; decide, hl.1⟩, Flld.nil⟩
  rintro ⟨r', u', v', i, n⟩ s1 ⟨⟨e1, e2, e3, e4⟩, ⟨h1, h2⟩, hf⟩
  dsimp only at e1 e2 e3 e4 h1 h2 hf
  subst e1 e2 e3 e4
  simp only [M_Arr_fill____L5, ok_B, ok_C, ok_R, ok_L, ok_K, ok_GI, ok_GL, ok_PI, ok_PL, ok_AI, ok_AL, ok_SI, ok_SL, ok_Pr, ok_CI, cmp_lt, cmp_le, cmp_gt, cmp_ge, cmp_eq, nar0, nar1, Sum.elim_inl, Sum.elim_inr]
  refine ⟨fun c => ?_, fun c => ⟨?_, ⟨⟨by trivial, by trivial, by trivial, by trivial⟩, ⟨?_, ?_⟩, ?_⟩, ?_⟩⟩
  · have : i = lnI r' := by clear hf; grind
    rw [← this]
    exact hf
  · clear hf
    grind
  · clear hf
    grind
  · clear hf
    grind
  · exact hf.next ⟨h1, by clear hf; grind⟩
  · clear hf
    exact clamp_lt (by grind) (by grind)
/-- all threads lose their places -/
theorem clearT_ok (n : Nat × Nat) (s : S1) : ok (oW M_Mo_clear_L129 (0, n)) s (fun m s' => m = n ∧ (∀ f i, gI s' f i = if f = 3584 ∧ 0 ≤ i ∧ i < 33 then -1 else gI s f i) ∧ s'.2 = s.2) := by
  refine ok_W (fun y s' => y.2 = n ∧ (0 ≤ y.1 ∧ y.1 ≤ 33) ∧ (∀ f i, gI s' f i = if f = 3584 ∧ 0 ≤ i ∧ i < y.1 then -1 else gI s f i) ∧ s'.2 = s.2) (fun y _ => (33 - y.1).toNatClampNeg) ?_ _ _ ⟨rfl, ⟨by show (0 : Int32) ≤ 0; decide, by show (0 : Int32) ≤ 33; decide⟩, fun f i => ?_, rfl⟩
  · rintro ⟨i, m⟩ s1 ⟨h0, h1, h2, h3⟩
    dsimp only at h0 h1 h2
    simp only [M_Mo_clear_L129, ok_B, ok_C, ok_R, ok_L, ok_K, ok_GI, ok_GL, ok_PI, ok_PL, ok_AI, ok_AL, ok_SI, ok_SL, ok_Pr, ok_CI, cmp_lt, cmp_le, cmp_gt, cmp_ge, cmp_eq, nar0, nar1, Sum.elim_inl, Sum.elim_inr]
    refine ⟨fun c => ⟨h0, ?_, h3⟩, fun c => ⟨?_, ⟨h0, ?_, fun f j => ?_, h3⟩, ?_⟩⟩
    · have : i = 33 := by clear h2 h3; grind
      rw [← this]
      exact h2
    · clear h2 h3
      grind
    · clear h2 h3
      grind
    · rw [gI_sI, h2 f j]
      clear h2 h3
      by_cases e : f = 3584
      · subst e
        simp only [true_and]
        by_cases d : j = i
        · subst d
          rw [if_pos rfl, if_pos (by grind)]
        · rw [if_neg d]
          by_cases k : 0 ≤ j ∧ j < i
          · rw [if_pos k, if_pos (by grind)]
          · rw [if_neg k, if_neg (by grind)]
      · simp [e]
    · clear h2 h3
      exact clamp_lt (by grind) (by grind)
  · rw [if_neg]
    rintro ⟨-, a, b⟩
    dsimp only at b
    grind
def clF (f : Nat) : Prop := (33 ≤ f ∧ f ≤ 41) ∨ f = 54 ∨ f = 64 ∨ (72 ≤ f ∧ f ≤ 75) ∨ f = 80 ∨ f = 92 ∨ f = 95 ∨ f = 898 ∨ f = 1282 ∨ f = 1666 ∨ f = 2050 ∨ f = 3584 ∨ (8832 ≤ f ∧ f ≤ 9599)
/-- what clear leaves as it was -/
def ClK (s s' : S1) : Prop := (∀ f i, ¬ clF f → f ≠ 3590 → gI s' f i = gI s f i) ∧ (∀ i, gI s' 3590 i = if i = 0 then -1 else gI s 3590 i) ∧ (∀ f i, f ≠ 81 → gL s' f i = gL s f i) ∧ (∀ a i j, ¬ (a = 58 ∨ a = 68 ∨ (69 ≤ a ∧ a ≤ 74)) → gA s' a i j = gA s a i j) ∧ ∀ a i j, ¬ (69 ≤ a ∧ a ≤ 74) → gB s' a i j = gB s a i j
def Lf (s : S1) : Prop := (0 ≤ f_roomAll s ∧ f_roomAll s ≤ 300000) ∧ (0 ≤ f_textAll s ∧ f_textAll s ≤ 400000) ∧ (0 ≤ f_madeAll s ∧ f_madeAll s ≤ 60000) ∧ f_limit s ≤ 4000
def clP (s T : S1) : Prop := Cl0 T ∧ ClK s T ∧ gI T 95 0 = 0 ∧ gI T 80 0 = 0 ∧ gI T 8959 0 = 1
theorem clear_key {s T : S1} (hR : Rm s) (hl : Lf s) (TI : ∀ f i, gI T f i = if f = 92 ∧ i = 0 then 1 else if f = 3590 ∧ i = 0 then -1 else if f = 72 ∧ i = 0 then 0 else if f = 74 ∧ i = 0 then -1 else if f = 95 ∧ i = 0 then 0 else if f = 80 ∧ i = 0 then 0 else if f = 73 ∧ i = 0 then 0 else if f = 75 ∧ i = 0 then 0 else if f = 64 ∧ i = 0 then 0 else if f = 2050 ∧ i = 0 then 0 else if f = 1666 ∧ i = 0 then 0 else if f = 1282 ∧ i = 0 then 0 else if f = 898 ∧ i = 0 then 0 else if f = 3584 ∧ 0 ≤ i ∧ i < 33 then -1 else if f = 54 ∧ i = 0 then 0 else if f = 41 ∧ i = 0 then 0 else if f = 40 ∧ i = 0 then 0 else if f = 39 ∧ i = 0 then 0 else if f = 38 ∧ i = 0 then 0 else if f = 37 ∧ i = 0 then 0 else if f = 36 ∧ i = 0 then 0 else if f = 35 ∧ i = 0 then 0 else if f = 34 ∧ i = 0 then 0 else if f = 33 ∧ i = 0 then 0 else gI s f i) (TL : ∀ f i, gL T f i = if f = 81 ∧ i = 0 then 0 else gL s f i) (TA : ∀ a i j, gA T a i j = if a = 58 ∧ i = 0 ∧ 0 ≤ j ∧ j < lnI 58 then (0 : Int32).toInt8.toInt32 else if a = 68 ∧ i = 0 ∧ 0 ≤ j ∧ j < lnI 68 then 0 else gA s a i j) (TB : ∀ a i j, gB T a i j = gB s a i j) : clP s T := by
  have I : ∀ f i, ¬ clF f → f ≠ 3590 → gI T f i = gI s f i := fun f i q z => by
    unfold clF at q
    rw [TI, if_neg (fun z => by omega), if_neg (fun z => by omega), if_neg (fun z => by omega), if_neg (fun z => by omega), if_neg (fun z => by omega), if_neg (fun z => by omega), if_neg (fun z => by omega), if_neg (fun z => by omega), if_neg (fun z => by omega), if_neg (fun z => by omega), if_neg (fun z => by omega), if_neg (fun z => by omega), if_neg (fun z => by omega), if_neg (fun z => by omega), if_neg (fun z => by omega), if_neg (fun z => by omega), if_neg (fun z => by omega), if_neg (fun z => by omega), if_neg (fun z => by omega), if_neg (fun z => by omega), if_neg (fun z => by omega), if_neg (fun z => by omega), if_neg (fun z => by omega), if_neg (fun z => by omega)]
  have J : ∀ f i, 8832 ≤ f ∧ f ≤ 9599 → gI T f i = gI s f i := fun f i q => by
    rw [TI, if_neg (fun z => by omega), if_neg (fun z => by omega), if_neg (fun z => by omega), if_neg (fun z => by omega), if_neg (fun z => by omega), if_neg (fun z => by omega), if_neg (fun z => by omega), if_neg (fun z => by omega), if_neg (fun z => by omega), if_neg (fun z => by omega), if_neg (fun z => by omega), if_neg (fun z => by omega), if_neg (fun z => by omega), if_neg (fun z => by omega), if_neg (fun z => by omega), if_neg (fun z => by omega), if_neg (fun z => by omega), if_neg (fun z => by omega), if_neg (fun z => by omega), if_neg (fun z => by omega), if_neg (fun z => by omega), if_neg (fun z => by omega), if_neg (fun z => by omega), if_neg (fun z => by omega)]
  obtain ⟨q1, q2, q3, q4, q5, q6⟩ := hR
  have hRT : Rm T := ⟨(J _ _ (by decide)).trans q1, (J _ _ (by decide)).trans q2, (J _ _ (by decide)).trans q3, (J _ _ (by decide)).trans q4, (J _ _ (by decide)).trans q5, (J _ _ (by decide)).trans q6⟩
  refine ⟨⟨hRT, ⟨?_, ?_, ?_, ?_, ?_, ?_, ?_, ?_⟩, fun h h0 h1 => ?_, fun t t0 t1 => ?_, ⟨?_, ?_, ?_, ?_⟩, ⟨?_, ?_, ?_, ?_, ?_, ?_⟩, ?_⟩, ⟨I, fun i => ?_, fun f i q => ?_, fun a i j q => ?_, fun a i j _ => TB a i j⟩, ?_, ?_, hRT.1⟩
  case refine_9 =>
    show gA T 68 0 h = 0
    have e68 : lnI 68 = 1024 := by decide
    rw [TA, e68, if_neg (fun z => absurd z.1 (by decide)), if_pos ⟨rfl, rfl, h0, h1⟩]
  case refine_10 =>
    show gI T 3584 t = -1
    rw [TI]
    simp [t0, t1]
  case refine_21 =>
    unfold Lf at hl
    simp only [f_roomAll, f_textAll, f_madeAll, f_limit] at hl ⊢
    rw [I 43 0 (by unfold clF; decide) (by decide), I 44 0 (by unfold clF; decide) (by decide), I 42 0 (by unfold clF; decide) (by decide), I 32 0 (by unfold clF; decide) (by decide)]
    exact hl
  case refine_22 =>
    rw [TI]
    by_cases z : i = 0
    · simp [z]
    · simp [z]
  case refine_23 => rw [TL, if_neg (fun z => q z.1)]
  case refine_24 => rw [TA, if_neg (fun z => by omega), if_neg (fun z => by omega)]
  all_goals
    first
      | (show gI T _ _ = _; rw [TI]; simp)
