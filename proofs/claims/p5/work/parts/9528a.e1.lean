/-! Both readings side by side: rules. -/
/-- the reference's fault stays once it is told -/
def Srk (s t : S1) : Prop := gI s 3 0 ≠ 0 → gI t 3 0 = gI s 3 0 ∧ gI t 4 0 = gI s 4 0
theorem Srk.refl (s : S1) : Srk s s := fun _ => ⟨rfl, rfl⟩
theorem Srk.trans {s t u : S1} (a : Srk s t) (b : Srk t u) : Srk s u := fun z => by
  obtain ⟨a1, a2⟩ := a z
  obtain ⟨b1, b2⟩ := b (by rw [a1]; exact z)
  exact ⟨b1.trans a1, b2.trans a2⟩
def Skk {α : Type} (f : M α) : Prop := ∀ s a t, f s = some (a, t) → Srk s t
theorem skk_id {α : Type} {f : M α} (h : ∀ s a t, f s = some (a, t) → t = s) : Skk f := fun s a t e => by
  rw [h s a t e]
  exact Srk.refl s
theorem skk_R {α : Type} (a : α) : Skk (oR a) := skk_id fun s a t e => by cases e; rfl
theorem skk_F {α : Type} : Skk (oF : M α) := fun s a t e => by cases e
theorem skk_GI (f : Nat) (i : Int32) : Skk (oGI f i) := skk_id fun s a t e => by cases e; rfl
theorem skk_K (c : Prop) [Decidable c] : Skk (oK c) := skk_id fun s a t e => ifs_st e
theorem skk_AI (a : Nat) (k i j : Int32) : Skk (oAI a k i j) := skk_id fun s x t e => ifs_st (x := (gA s a i j, s)) e
theorem skk_PI {f : Nat} {i x : Int32} (h : f ≠ 3 ∧ f ≠ 4) : Skk (oPI f i x) := fun s a t e => by
  cases e
  intro _
  exact ⟨by show gI (sI s f i x) 3 0 = gI s 3 0; rw [gI_sI, if_neg (fun z => h.1 z.1.symm)], by show gI (sI s f i x) 4 0 = gI s 4 0; rw [gI_sI, if_neg (fun z => h.2 z.1.symm)]⟩
theorem skk_SI {a : Nat} {n i j x : Int32} : Skk (oSI a n i j x) := fun s y t e => by
  rw [ifs_st (x := ((), sA s a i j x)) e]
  exact fun _ => ⟨rfl, rfl⟩
theorem skk_SL {a : Nat} {n i j : Int32} {x : Int64} : Skk (oSL a n i j x) := fun s y t e => by
  rw [ifs_st (x := ((), sB s a i j x)) e]
  exact fun _ => ⟨rfl, rfl⟩
theorem skk_B {α β : Type} {f : M α} {g : α → M β} (hf : Skk f) (hg : ∀ a, Skk (g a)) : Skk (oB f g) := fun s c t e => by
  unfold oB at e
  cases h : f s with
  | none => rw [h] at e; cases e
  | some q =>
    rw [h] at e
    obtain ⟨a, u⟩ := q
    exact (hf s a u h).trans (hg a u c t e)
theorem skk_C {α : Type} {c : Prop} [Decidable c] {f g : M α} (hf : Skk f) (hg : Skk g) : Skk (oC c f g) := fun s a t e => by
  unfold oC at e
  by_cases d : c
  · rw [if_pos d] at e
    exact hf s a t e
  · rw [if_neg d] at e
    exact hg s a t e
theorem skk_L {α β : Type} {x : α} {g : α → M β} (h : Skk (g x)) : Skk (oL x g) := h
theorem skk_W {σ ρ : Type} {body : σ → M (σ ⊕ ρ)} (h : ∀ x, Skk (body x)) (x : σ) : Skk (oW body x) := fun s a t e => by
  obtain ⟨k, hn⟩ := oW_n body x s (a, t) e
  clear e
  induction k generalizing x s with
  | zero => cases hn
  | succ k ih =>
    cases hc : body x s with
    | none => simp only [oWn, hc] at hn; cases hn
    | some p =>
      obtain ⟨y, s2⟩ := p
      have w := h x s y s2 hc
      cases y with
      | inl y =>
        simp only [oWn, hc] at hn
        exact w.trans (ih y s2 hn)
      | inr e =>
        simp only [oWn, hc] at hn
        cases hn
        exact w
theorem skk_E {α β γ : Type} {f : α → M γ} {g : β → M γ} (hf : ∀ a, Skk (f a)) (hg : ∀ c, Skk (g c)) (y : α ⊕ β) : Skk (Sum.elim f g y) := by
  rcases y with y | y
  · exact hf y
  · exact hg y
theorem Skk.hu {α : Type} {f : M α} (h : Skk f) (s : S1) : hu f s (fun _ t => Srk s t) := fun a t e => h s a t e
theorem skk_Mo_bad (l1 l2 : Int32) : Skk (M_Mo_bad l1 l2) := fun s a t e => by
  intro z
  have w : hu (M_Mo_bad l1 l2) s (fun _ t => t = s) := by
    unfold M_Mo_bad
    rw [hu_B, hu_GI, hu_C]
    exact ⟨fun c => absurd c z, fun _ => (hu_R _ _ _).2 rfl⟩
  rw [w a t e]
  exact ⟨rfl, rfl⟩
theorem hu_SI (a : Nat) (n i j x : Int32) (s : S1) (Q : Unit → S1 → Prop) : hu (oSI a n i j x) s Q ↔ ((0 ≤ j ∧ j < n) → Q () (sA s a i j x)) := hu_ifs rfl Q
theorem hu_SL (a : Nat) (n i j : Int32) (x : Int64) (s : S1) (Q : Unit → S1 → Prop) : hu (oSL a n i j x) s Q ↔ ((0 ≤ j ∧ j < n) → Q () (sB s a i j x)) := hu_ifs rfl Q
theorem hu_AI (a : Nat) (n i j : Int32) (s : S1) (Q : Int32 → S1 → Prop) : hu (oAI a n i j) s Q ↔ ((0 ≤ j ∧ j < n) → Q (gA s a i j) s) := hu_ifs rfl Q
theorem hu_Nw (n : Nat × Nat) (k : Nat) (s : S1) (Q : Nat × Nat → S1 → Prop) : hu (oNw n k) s Q ↔ ((1 ≤ n.1 ∧ k ≤ n.2) → Q (n.1 - 1, n.2 - k) s) := hu_ifs rfl Q
theorem hu_St (f : S1 → S1) (s : S1) (Q : Unit → S1 → Prop) : hu (oS f) s Q ↔ Q () (f s) := hu_some rfl Q
/-- a loop, one turn taken out -/
theorem hu_Wu {σ ρ : Type} (body : σ → M (σ ⊕ ρ)) (x : σ) (s : S1) (Q : ρ → S1 → Prop) : hu (oW body x) s Q ↔ hu (body x) s (fun y s' => Sum.elim (fun z => hu (oW body z) s' Q) (fun e => Q e s') y) := by
  constructor
  · intro h y s' e
    cases y with
    | inl z =>
      intro a u e2
      refine h a u ?_
      unfold oW
      rw [e]
      exact e2
    | inr e' =>
      refine h e' s' ?_
      unfold oW
      rw [e]
  · intro h a u e
    unfold oW at e
    cases k : body x s with
    | none => rw [k] at e; cases e
    | some q =>
      obtain ⟨y, s'⟩ := q
      rw [k] at e
      cases y with
      | inl z => exact h _ _ k a u e
      | inr e' =>
        cases e
        exact h _ _ k
/-- two loops, turn by turn; where the first ends, the second's rest is looked at -/
theorem hu2W {σ ρ τ ω : Type} {b1 : σ → M (σ ⊕ ρ)} {b2 : τ → M (τ ⊕ ω)} (I : σ → S1 → τ → S1 → Prop) {Q : ρ → S1 → ω → S1 → Prop}
    (hb : ∀ x s y t, I x s y t → hu (b1 x) s (fun r s' => Sum.elim (fun x' => hu (b2 y) t (fun q t' => Sum.elim (fun y' => I x' s' y' t') (fun _ => False) q)) (fun e => hu (oW b2 y) t (fun e2 t' => Q e s' e2 t')) r)) :
    ∀ x s y t, I x s y t → hu (oW b1 x) s (fun e s' => hu (oW b2 y) t (fun e2 t' => Q e s' e2 t')) := by
  intro x s y t hI
  refine hu_W (body := b1) (fun x s => (∃ y' t', I x s y' t' ∧ ∀ P : ω → S1 → Prop, hu (oW b2 y') t' P → hu (oW b2 y) t P) ∨ ∀ P : ω → S1 → Prop, hu (oW b2 y) t P) ?_ x s (.inl ⟨y, t, hI, fun _ h => h⟩)
  rintro x s (⟨y', t', hI, hP⟩ | hP)
  · refine hu_mono (hb x s y' t' hI) ?_
    intro r s' h
    cases r with
    | inl x' =>
      have h : hu (b2 y') t' (fun q t' => Sum.elim (fun y' => I x' s' y' t') (fun _ => False) q) := h
      cases k : b2 y' t' with
      | none =>
        refine .inr fun P => hP P ?_
        rw [hu_Wu]
        intro a u e
        rw [k] at e
        cases e
      | some q =>
        obtain ⟨q, t2⟩ := q
        have w := h q t2 k
        cases q with
        | inl y2 =>
          refine .inl ⟨y2, t2, w, fun P hh => hP P ?_⟩
          rw [hu_Wu]
          intro a u e
          rw [k] at e
          cases e
          exact hh
        | inr e => exact absurd w id
    | inr e => exact hP _ h
  · intro r s' e
    cases r with
    | inl x' => exact .inr hP
    | inr e => exact hP _
