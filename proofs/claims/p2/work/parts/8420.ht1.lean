/-! What holds behind a program if it goes through. -/
def ht {α : Type} (f : M α) (s : S1) (Q : α → S1 → Prop) : Prop := ∀ a s', f s = some (a, s') → Q a s'
theorem ok.and {α : Type} {f : M α} {s : S1} {P Q : α → S1 → Prop} (h : ok f s P) (k : ht f s Q) : ok f s (fun a s' => P a s' ∧ Q a s') := by
  obtain ⟨a, s', h1, h2⟩ := ok_out h
  exact ok_in h1 ⟨h2, k a s' h1⟩
theorem ht_any {α : Type} {f : M α} {s : S1} {Q : α → S1 → Prop} (h : ∀ a s', Q a s') : ht f s Q := fun a s' _ => h a s'
theorem ht_mono {α : Type} {f : M α} {s : S1} {P Q : α → S1 → Prop} (h : ht f s P) (hq : ∀ a s', P a s' → Q a s') : ht f s Q := fun a s' e => hq a s' (h a s' e)
theorem ht_some {α : Type} {f : M α} {s : S1} {a : α} {s' : S1} (h : f s = some (a, s')) (Q : α → S1 → Prop) : ht f s Q ↔ Q a s' := by
  refine ⟨fun k => k a s' h, fun q b t e => ?_⟩
  rw [h] at e
  cases e
  exact q
theorem ht_ifs {α : Type} {f : M α} {s : S1} {c : Prop} [Decidable c] {a : α} {s' : S1} (h : f s = if c then some (a, s') else none) (Q : α → S1 → Prop) : ht f s Q ↔ (c → Q a s') := by
  by_cases d : c
  · rw [if_pos d] at h
    rw [ht_some h]
    exact ⟨fun q _ => q, fun q => q d⟩
  · rw [if_neg d] at h
    refine ⟨fun _ z => absurd z d, fun _ b t e => ?_⟩
    rw [h] at e
    cases e
theorem ht_R {α : Type} (a : α) (s : S1) (Q : α → S1 → Prop) : ht (oR a) s Q ↔ Q a s := ht_some rfl Q
theorem ht_B {α β : Type} (f : M α) (g : α → M β) (s : S1) (Q : β → S1 → Prop) : ht (oB f g) s Q ↔ ht f s (fun a s' => ht (g a) s' Q) := by
  constructor
  · intro k a s' e b t e2
    refine k b t ?_
    unfold oB
    rw [e]
    exact e2
  · intro k b t e
    unfold oB at e
    cases c : f s with
    | none => rw [c] at e; cases e
    | some q => rw [c] at e; exact k q.1 q.2 c b t e
theorem ht_C {α : Type} (c : Prop) [Decidable c] (f g : M α) (s : S1) (Q : α → S1 → Prop) : ht (oC c f g) s Q ↔ (c → ht f s Q) ∧ (¬ c → ht g s Q) := by
  unfold ht oC
  by_cases d : c
  · simp only [if_pos d]
    exact ⟨fun q => ⟨fun _ => q, fun z => absurd d z⟩, fun q => q.1 d⟩
  · simp only [if_neg d]
    exact ⟨fun q => ⟨fun z => absurd z d, fun _ => q⟩, fun q => q.2 d⟩
theorem ht_L {α β : Type} (x : α) (g : α → M β) (s : S1) (Q : β → S1 → Prop) : ht (oL x g) s Q ↔ ht (g x) s Q := Iff.rfl
theorem ht_K (c : Prop) [Decidable c] (s : S1) (Q : Unit → S1 → Prop) : ht (oK c) s Q ↔ (c → Q () s) := ht_ifs rfl Q
theorem ht_GI (f : Nat) (i : Int32) (s : S1) (Q : Int32 → S1 → Prop) : ht (oGI f i) s Q ↔ Q (gI s f i) s := ht_some rfl Q
theorem ht_GL (f : Nat) (i : Int32) (s : S1) (Q : Int64 → S1 → Prop) : ht (oGL f i) s Q ↔ Q (gL s f i) s := ht_some rfl Q
theorem ht_PI (f : Nat) (i x : Int32) (s : S1) (Q : Unit → S1 → Prop) : ht (oPI f i x) s Q ↔ Q () (sI s f i x) := ht_some rfl Q
theorem ht_PL (f : Nat) (i : Int32) (x : Int64) (s : S1) (Q : Unit → S1 → Prop) : ht (oPL f i x) s Q ↔ Q () (sL s f i x) := ht_some rfl Q
theorem ht_AI (a : Nat) (n i j : Int32) (s : S1) (Q : Int32 → S1 → Prop) : ht (oAI a n i j) s Q ↔ ((0 ≤ j ∧ j < n) → Q (gA s a i j) s) := ht_ifs rfl Q
theorem ht_W {σ ρ : Type} {body : σ → M (σ ⊕ ρ)} (I : σ → S1 → Prop) {Q : ρ → S1 → Prop} (hb : ∀ x s, I x s → ht (body x) s (fun y s' => Sum.elim (fun z => I z s') (fun e => Q e s') y)) : ∀ x s, I x s → ht (oW body x) s Q := by
  intro x s hx a s' h
  obtain ⟨n, hn⟩ := oW_n body x s (a, s') h
  clear h
  induction n generalizing x s with
  | zero => cases hn
  | succ n ih =>
    cases hc : body x s with
    | none => simp only [oWn, hc] at hn; cases hn
    | some p =>
      obtain ⟨y, s2⟩ := p
      have w := hb x s hx y s2 hc
      cases y with
      | inl y =>
        simp only [oWn, hc] at hn
        exact ih y s2 w hn
      | inr e =>
        simp only [oWn, hc] at hn
        cases hn
        exact w
/-- an error was told -/
def Er (s : S1) : Prop := f_todo s = 3 ∨ f_todo s = 4
theorem raise_er (s : S1) (n : Int32) : ht (M_Mo_raise n) s (fun v s' => v = -1 ∧ Er s') := by
  obtain ⟨v, s', e, e1, e2⟩ := ok_out (q_raise_ok s n)
  rw [ht_some e]
  refine ⟨e1, ?_⟩
  rw [e2]
  unfold Er
  simp only [f_todo, gI_sI, gI_sL, gI_sA, gI_sB, gI_sAf, gI_sBf, gL_sI, gL_sL, gL_sA, gL_sB, gL_sAf, gL_sBf, gA_sI, gA_sL, gA_sA, gA_sB, gA_sAf, gA_sBf, gB_sI, gB_sL, gB_sA, gB_sB, gB_sAf, gB_sBf, Nat.reduceEqDiff, Nat.reduceMul, Nat.reduceAdd, false_and, true_and, and_true, and_false, if_true, if_false]
  by_cases c : n = 11
  · rw [if_pos c]
    exact Or.inr rfl
  · rw [if_neg c]
    exact Or.inl rfl
theorem may82_er (s : S1) : ht M_Mo_may_j82 s (fun v s' => v = 0 → Er s') := by
  simp only [M_Mo_may_j82, ht_B, ht_R]
  exact ht_mono (raise_er s 10) fun _ _ w _ => w.2
theorem may56_er (s : S1) (t : Int32) : ht (M_Mo_may_j56 t) s (fun v s' => v = 0 → Er s') := by
  simp only [M_Mo_may_j56, ht_B, ht_R, ht_C, ht_GI]
  exact ⟨fun _ => may82_er s, fun _ => ⟨fun _ z => absurd z (by decide), fun _ => ⟨fun _ => may82_er s, fun _ z => absurd z (by decide)⟩⟩⟩
theorem may45_er (s : S1) (t : Int32) : ht (M_Mo_may_j45 t) s (fun v s' => v = 0 → Er s') := by
  simp only [M_Mo_may_j45, ht_B, ht_C, ht_GI]
  exact ⟨fun _ => ht_any fun _ s1 => may56_er s1 t, fun _ => may56_er s t⟩
theorem may_er (s : S1) (t : Int32) : ht (M_Mo_may t) s (fun v s' => v = 0 → Er s') := by
  simp only [M_Mo_may, ht_B, ht_R, ht_C, ht_GI]
  exact ⟨fun _ => ht_mono (raise_er s 11) fun _ _ w _ => w.2, fun _ => ⟨fun _ => may45_er s t, fun _ => ⟨fun _ z => absurd z (by decide), fun _ => ⟨fun _ => may45_er s t, fun _ z => absurd z (by decide)⟩⟩⟩⟩
theorem grow59_er (s : S1) (a b : Int32) : ht (M_Mo_grow_j59 a b) s (fun v s' => v = 0 → Er s') := by
  simp only [M_Mo_grow_j59, ht_B, ht_R, ht_C, ht_GI, ht_PI, ht_AI]
  exact ⟨fun _ _ => ht_any fun _ _ z => absurd z (by decide), fun _ => ht_mono (raise_er s 10) fun _ _ w _ => w.2⟩
theorem grow21_er (s : S1) (a b : Int32) : ht (M_Mo_grow_j21 a b) s (fun v s' => v = 0 → Er s') := by
  simp only [M_Mo_grow_j21, ht_B, ht_R, ht_C, ht_GI]
  exact ⟨fun _ => ⟨fun _ => grow59_er s a b, fun _ => ht_any fun _ s1 => grow59_er s1 a b⟩, fun _ => ht_mono (raise_er s 11) fun _ _ w _ => w.2⟩
theorem grow_er (s : S1) (a : Int32) : ht (M_Mo_grow a) s (fun v s' => v = 0 → Er s') := by
  simp only [M_Mo_grow, ht_B, ht_C, ht_AI]
  exact fun _ => ⟨fun _ => grow21_er s a 4, fun _ _ => grow21_er s a _⟩
theorem put192_er (s : S1) (a b d : Int32) (c e : Int64) : ht (M_Mo_put_j192 a b c d e) s (fun v s' => v = 0 → Er s') := by
  simp only [M_Mo_put_j192, ht_B, ht_R]
  exact ht_any fun _ _ z => absurd z (by decide)
theorem put169_er (s : S1) (a b d l : Int32) (c e : Int64) : ht (M_Mo_put_j169 a b c d e l) s (fun v s' => v = 0 → Er s') := by
  simp only [M_Mo_put_j169, M_Mo_put_j174, ht_B, ht_R, ht_C, ht_PI]
  exact ⟨fun z => absurd z (by decide), fun _ => put192_er _ a b d c e⟩
theorem put161_er (s : S1) (a b d l : Int32) (c e : Int64) : ht (M_Mo_put_j161 a b c d e l) s (fun v s' => v = 0 → Er s') := by
  simp only [M_Mo_put_j161, M_Mo_put_j174, ht_B, ht_R, ht_C, ht_PI]
  refine ht_mono (grow_er s a) fun v s1 w => ⟨fun z => ⟨fun _ _ => ?_, fun q => absurd trivial q⟩, fun _ => put169_er s1 a b d l c e⟩
  have := w z
  unfold Er at *
  simp only [f_todo, gI_sI, gI_sL, gI_sA, gI_sB, gI_sAf, gI_sBf, gL_sI, gL_sL, gL_sA, gL_sB, gL_sAf, gL_sBf, gA_sI, gA_sL, gA_sA, gA_sB, gA_sAf, gA_sBf, gB_sI, gB_sL, gB_sA, gB_sB, gB_sAf, gB_sBf, Nat.reduceEqDiff, Nat.reduceMul, Nat.reduceAdd, false_and, true_and, and_true, and_false, if_true, if_false] at *
  exact this
theorem put96_er (s : S1) (a b d : Int32) (c e : Int64) : ht (M_Mo_put_j96 a b c d e) s (fun v s' => v = 0 → Er s') := by
  simp only [M_Mo_put_j96, ht_B, ht_C, ht_GI, ht_AI]
  exact ht_any fun _ _ => ht_any fun _ _ => ht_any fun _ s3 _ _ => ⟨fun _ => put161_er s3 a b d _ c e, fun _ _ => ⟨fun _ => put169_er s3 a b d _ c e, fun _ => put161_er s3 a b d _ c e⟩⟩
theorem put_er (s : S1) (a b d : Int32) (c e : Int64) : ht (M_Mo_put a b c d e) s (fun v s' => v = 0 → Er s') := by
  unfold M_Mo_put
  rw [ht_C]
  refine ⟨fun _ => ?_, fun _ => ?_⟩
  · rw [ht_B]
    exact ht_mono (raise_er s 6) fun _ _ w => by
      rw [ht_R]
      exact fun _ => w.2
  · rw [ht_B]
    refine ht_any fun v s1 => ?_
    rw [ht_C]
    refine ⟨fun _ => ?_, fun _ => ?_⟩
    · simp only [ht_B, ht_R, ht_C, ht_AI]
      exact ⟨fun _ z => absurd z (by decide), fun _ _ _ => ⟨fun _ _ => ⟨fun _ => put96_er s1 a b d c e, fun _ _ _ => ht_any fun _ s2 => put96_er s2 a b d c e⟩, fun _ => put192_er s1 a b d c e⟩⟩
    · simp only [ht_B, ht_R]
      exact ht_any fun _ _ => ht_any fun _ _ => ht_any fun _ _ => ht_any fun _ _ => ht_any fun _ _ => ht_any fun _ _ z => absurd z (by decide)
