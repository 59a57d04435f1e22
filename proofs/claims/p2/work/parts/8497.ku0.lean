/-! The reference: what was printed stays within its row. -/
def Ur (s t : S1) : Prop := (∀ f, f = 1 ∨ f = 5 ∨ f = 32 → gI t f 0 = gI s f 0) ∧ ((gI s 95 0).toInt ≤ 20000 → (gI t 95 0).toInt ≤ 20000)
theorem Ur.refl (s : S1) : Ur s s := ⟨fun _ _ => rfl, fun h => h⟩
theorem Ur.trans {s t u : S1} (h : Ur s t) (k : Ur t u) : Ur s u := ⟨fun f q => (k.1 f q).trans (h.1 f q), fun q => k.2 (h.2 q)⟩
def Up2 {α : Type} (f : M α) : Prop := ∀ s a t, f s = some (a, t) → ∀ f, f = 1 ∨ f = 5 ∨ f = 32 → gI t f 0 = gI s f 0
theorem u2_R {α : Type} (a : α) : Up2 (oR a) := fun s a' t e => by
  cases e
  exact fun _ _ => rfl
theorem u2_B {α β : Type} {f : M α} {g : α → M β} (hf : Up2 f) (hg : ∀ a, Up2 (g a)) : Up2 (oB f g) := fun s c t e => by
  unfold oB at e
  cases h : f s with
  | none => rw [h] at e; cases e
  | some q =>
    rw [h] at e
    obtain ⟨a, u⟩ := q
    exact fun k z => (hg a u c t e k z).trans (hf s a u h k z)
theorem u2_C {α : Type} {c : Prop} [Decidable c] {f g : M α} (hf : Up2 f) (hg : Up2 g) : Up2 (oC c f g) := fun s a t e => by
  unfold oC at e
  by_cases d : c
  · rw [if_pos d] at e
    exact hf s a t e
  · rw [if_neg d] at e
    exact hg s a t e
theorem u2_GI (f : Nat) (i : Int32) : Up2 (oGI f i) := fun s a t e => by
  cases e
  exact fun _ _ => rfl
theorem u2_AI (a : Nat) (n i j : Int32) : Up2 (oAI a n i j) := fun s x t e => by
  rw [ifs_st (x := (gA s a i j, s)) e]
  exact fun _ _ => rfl
theorem u2_SI {a : Nat} {n i j x : Int32} : Up2 (oSI a n i j x) := fun s y t e => by
  rw [ifs_st (x := ((), sA s a i j x)) e]
  exact fun _ _ => rfl
theorem u2_PI {f : Nat} {i x : Int32} (h : f ≠ 1 ∧ f ≠ 5 ∧ f ≠ 32) : Up2 (oPI f i x) := fun s a t e => by
  cases e
  exact fun g q => by rw [gI_sI, if_neg (fun z => by omega)]
def Up_ {α : Type} (J : α → Prop) (f : M α) : Prop := ∀ s a t, f s = some (a, t) → Ur s t ∧ J a
def Uk {α : Type} (f : M α) : Prop := ∀ s a t, f s = some (a, t) → Ur s t
theorem Uk.p {α : Type} {f : M α} (h : Uk f) : Up_ (fun _ => True) f := fun s a t e => ⟨h s a t e, trivial⟩
theorem Up_.k {α : Type} {J : α → Prop} {f : M α} (h : Up_ J f) : Uk f := fun s a t e => (h s a t e).1
theorem up_R {α : Type} {J : α → Prop} {a : α} (h : J a) : Up_ J (oR a) := fun s a' t e => by
  cases e
  exact ⟨Ur.refl s, h⟩
theorem up_B {α β : Type} {J : α → Prop} {K : β → Prop} {f : M α} {g : α → M β} (hf : Up_ J f) (hg : ∀ a, J a → Up_ K (g a)) : Up_ K (oB f g) := fun s c t e => by
  unfold oB at e
  cases h : f s with
  | none => rw [h] at e; cases e
  | some q =>
    rw [h] at e
    obtain ⟨a, u⟩ := q
    obtain ⟨k1, k2⟩ := hf s a u h
    obtain ⟨k3, k4⟩ := hg a k2 u c t e
    exact ⟨k1.trans k3, k4⟩
theorem up_C {α : Type} {J : α → Prop} {c : Prop} [Decidable c] {f g : M α} (hf : Up_ J f) (hg : Up_ J g) : Up_ J (oC c f g) := fun s a t e => by
  unfold oC at e
  by_cases d : c
  · rw [if_pos d] at e
    exact hf s a t e
  · rw [if_neg d] at e
    exact hg s a t e
theorem up_W {σ ρ : Type} {body : σ → M (σ ⊕ ρ)} {I : σ → Prop} {J : ρ → Prop} (h : ∀ x, I x → Up_ (Sum.elim I J) (body x)) (x : σ) (hx : I x) : Up_ J (oW body x) := fun s a t e => by
  obtain ⟨n, hn⟩ := oW_n body x s (a, t) e
  clear e
  induction n generalizing x s with
  | zero => cases hn
  | succ n ih =>
    cases hc : body x s with
    | none => simp only [oWn, hc] at hn; cases hn
    | some p =>
      obtain ⟨y, s2⟩ := p
      have w := h x hx s y s2 hc
      cases y with
      | inl y =>
        simp only [oWn, hc] at hn
        obtain ⟨k1, k2⟩ := ih y w.2 s2 hn
        exact ⟨w.1.trans k1, k2⟩
      | inr e =>
        simp only [oWn, hc] at hn
        cases hn
        exact w
theorem uk_R {α : Type} (a : α) : Uk (oR a) := (up_R (J := fun _ => True) trivial).k
theorem uk_F {α : Type} : Uk (oF : M α) := fun s a t e => by cases e
theorem uk_B {α β : Type} {f : M α} {g : α → M β} (hf : Uk f) (hg : ∀ a, Uk (g a)) : Uk (oB f g) := (up_B hf.p (fun a _ => (hg a).p)).k
theorem uk_C {α : Type} {c : Prop} [Decidable c] {f g : M α} (hf : Uk f) (hg : Uk g) : Uk (oC c f g) := (up_C hf.p hg.p).k
theorem uk_L {α β : Type} {x : α} {g : α → M β} (h : Uk (g x)) : Uk (oL x g) := h
theorem uk_W {σ ρ : Type} {body : σ → M (σ ⊕ ρ)} (h : ∀ x, Uk (body x)) (x : σ) : Uk (oW body x) := (up_W (I := fun _ => True) (J := fun _ => True) (fun x _ s a t e => ⟨h x s a t e, by cases a <;> trivial⟩) x trivial).k
theorem uk_E {α β γ : Type} {f : α → M γ} {g : β → M γ} (hf : ∀ a, Uk (f a)) (hg : ∀ c, Uk (g c)) (y : α ⊕ β) : Uk (Sum.elim f g y) := by
  rcases y with y | y
  · exact hf y
  · exact hg y
theorem uk_id {α : Type} {f : M α} (h : ∀ s a t, f s = some (a, t) → t = s) : Uk f := fun s a t e => by
  rw [h s a t e]
  exact Ur.refl s
theorem uk_K (c : Prop) [Decidable c] : Uk (oK c) := uk_id fun s a t e => ifs_st e

theorem uk_GI (f : Nat) (i : Int32) : Uk (oGI f i) := uk_id fun s a t e => by cases e; rfl
theorem uk_GL (f : Nat) (i : Int32) : Uk (oGL f i) := uk_id fun s a t e => by cases e; rfl

theorem uk_AI (a : Nat) (n i j : Int32) : Uk (oAI a n i j) := uk_id fun s x t e => ifs_st (x := (gA s a i j, s)) e
theorem uk_AL (a : Nat) (n i j : Int32) : Uk (oAL a n i j) := uk_id fun s x t e => ifs_st (x := (gB s a i j, s)) e
theorem uk_Pr (r : Nat) (i : Int32) : Uk (oPr r i) := uk_id fun s x t e => ifs_st (x := ((), s)) e


theorem uk_Nw (n : Nat × Nat) (k : Nat) : Uk (oNw n k) := uk_id fun s x t e => by
  unfold oNw at e
  exact ifs_st e
theorem uk_PI {f : Nat} {i x : Int32} (h : f ≠ 95 ∧ f ≠ 1 ∧ f ≠ 5 ∧ f ≠ 32) : Uk (oPI f i x) := fun s a t e => by
  cases e
  refine ⟨fun g q => ?_, fun q => ?_⟩
  · rw [gI_sI, if_neg (fun z => by omega)]
  · rw [gI_sI, if_neg (fun z => by omega)]
    exact q
theorem uk_PI0 {i : Int32} : Uk (oPI 95 i 0) := fun s a t e => by
  cases e
  refine ⟨fun g q => by rw [gI_sI, if_neg (fun z => by omega)], fun q => ?_⟩
  rw [gI_sI]
  by_cases z : (95 : Nat) = 95 ∧ (0 : Int32) = i
  · rw [if_pos z]
    decide
  · rw [if_neg z]
    exact q
theorem uk_PL {f : Nat} {i : Int32} {x : Int64} : Uk (oPL f i x) := fun s a t e => by
  cases e
  exact ⟨fun _ _ => rfl, fun q => q⟩
theorem uk_SI {a : Nat} {n i j x : Int32} : Uk (oSI a n i j x) := fun s y t e => by
  rw [ifs_st (x := ((), sA s a i j x)) e]
  exact ⟨fun _ _ => rfl, fun q => q⟩
theorem uk_SL {a : Nat} {n i j : Int32} {x : Int64} : Uk (oSL a n i j x) := fun s y t e => by
  rw [ifs_st (x := ((), sB s a i j x)) e]
  exact ⟨fun _ _ => rfl, fun q => q⟩
theorem uk_CI {ra : Nat} {ia na : Int32} {rb : Nat} {ib nb sp dp n : Int32} : Uk (oCI ra ia na rb ib nb sp dp n) := fun s y t e => by
  rw [ifs_st (x := ((), sAf s rb ib (cpI s ra ia rb ib sp dp n))) e]
  exact ⟨fun _ _ => rfl, fun q => q⟩
theorem uk_S {f : S1 → S1} (h : ∀ s, Ur s (f s)) : Uk (oS f) := fun s a t e => by
  cases e
  exact h s
theorem ur_nwR {r : Nat} {i : Int32} {n : Nat} (s : S1) : Ur s (nwR s r i n) := by
  refine ⟨fun f q => ?_, fun q => ?_⟩
  · show (if f = 128 * r + 127 ∧ (0 : Int32) = i then (1 : Int32) else if f = 128 * r + 126 ∧ (0 : Int32) = i then Int32.ofNat n else s.1 f 0) = s.1 f 0
    rw [if_neg (fun y => by omega), if_neg (fun y => by omega)]
  show (if 95 = 128 * r + 127 ∧ (0 : Int32) = i then (1 : Int32) else if 95 = 128 * r + 126 ∧ (0 : Int32) = i then Int32.ofNat n else s.1 95 0).toInt ≤ 20000
  rw [if_neg (fun y => by omega), if_neg (fun y => by omega)]
  exact q
theorem uk_Arr_rangeCheck (l0 l1 l2 : Int32) : Uk (M_Arr_rangeCheck l0 l1 l2) := by
  unfold M_Arr_rangeCheck
  exact uk_C (uk_C (uk_C (uk_R _) uk_F) uk_F) uk_F
theorem uk_Arr_fill (r : Nat) (x y : Int32) : Uk (M_Arr_fill r x y) := by
  unfold M_Arr_fill
  refine uk_L (uk_B (uk_W (fun x => ?_) _) (fun _ => uk_R _))
  unfold M_Arr_fill_L5
  exact uk_C (uk_R _) (uk_B uk_SI fun _ => uk_R _)
theorem uk_Arr_fill_ (r : Nat) (x y w v : Int32) : Uk (M_Arr_fill_ r x y w v) := by
  unfold M_Arr_fill_
  refine uk_B (uk_Arr_rangeCheck _ _ _) (fun _ => uk_B (uk_Pr _ _) (fun _ => uk_B (uk_W (fun x => ?_) _) (fun _ => uk_R _)))
  unfold M_Arr_fill__L10
  exact uk_C (uk_R _) (uk_B uk_SI fun _ => uk_R _)
theorem uk_Arr_fill__ (r : Nat) (x y w : Int32) (v : Int64) : Uk (M_Arr_fill__ r x y w v) := by
  unfold M_Arr_fill__
  refine uk_B (uk_Arr_rangeCheck _ _ _) (fun _ => uk_B (uk_Pr _ _) (fun _ => uk_B (uk_W (fun x => ?_) _) (fun _ => uk_R _)))
  unfold M_Arr_fill___L10
  exact uk_C (uk_R _) (uk_B uk_SL fun _ => uk_R _)
theorem uk_Arr_fill_____ (r : Nat) (x y w v : Int32) : Uk (M_Arr_fill_____ r x y w v) := by
  unfold M_Arr_fill_____
  refine uk_B (uk_Arr_rangeCheck _ _ _) (fun _ => uk_B (uk_Pr _ _) (fun _ => uk_B (uk_W (fun x => ?_) _) (fun _ => uk_R _)))
  unfold M_Arr_fill______L10
  exact uk_C (uk_R _) (uk_B uk_SI fun _ => uk_R _)
theorem uk_Arr_fill___ (r : Nat) (x y : Int32) : Uk (M_Arr_fill___ r x y) := by
  unfold M_Arr_fill___
  refine uk_L (uk_B (uk_W (fun x => ?_) _) (fun _ => uk_R _))
  unfold M_Arr_fill____L5
  exact uk_C (uk_R _) (uk_B uk_SI fun _ => uk_R _)
theorem uk_Arr_fill____ (r : Nat) (x y w v : Int32) : Uk (M_Arr_fill____ r x y w v) := by
  unfold M_Arr_fill____
  refine uk_B (uk_Arr_rangeCheck _ _ _) (fun _ => uk_B (uk_Pr _ _) (fun _ => uk_B (uk_W (fun x => ?_) _) (fun _ => uk_R _)))
  unfold M_Arr_fill_____L10
  exact uk_C (uk_R _) (uk_B uk_SI fun _ => uk_R _)
