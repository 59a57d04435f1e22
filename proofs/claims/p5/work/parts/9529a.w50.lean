/-! The reference: the fault and the tape stay (but in reading and feed). -/
def W5r (s t : S1) : Prop := (∀ f, f = 3 ∨ f = 4 → gI t f 0 = gI s f 0) ∧ ∀ j, gA t 41 0 j = gA s 41 0 j
theorem W5r.refl (s : S1) : W5r s s := ⟨fun _ _ => rfl, fun _ => rfl⟩
theorem W5r.trans {s t u : S1} (h : W5r s t) (k : W5r t u) : W5r s u := ⟨fun f q => (k.1 f q).trans (h.1 f q), fun j => (k.2 j).trans (h.2 j)⟩
def W5p {α : Type} (J : α → Prop) (f : M α) : Prop := ∀ s a t, f s = some (a, t) → W5r s t ∧ J a
def W5k {α : Type} (f : M α) : Prop := ∀ s a t, f s = some (a, t) → W5r s t
theorem W5k.p {α : Type} {f : M α} (h : W5k f) : W5p (fun _ => True) f := fun s a t e => ⟨h s a t e, trivial⟩
theorem W5p.k {α : Type} {J : α → Prop} {f : M α} (h : W5p J f) : W5k f := fun s a t e => (h s a t e).1
theorem w5p_R {α : Type} {J : α → Prop} {a : α} (h : J a) : W5p J (oR a) := fun s a' t e => by
  cases e
  exact ⟨W5r.refl s, h⟩
theorem w5p_B {α β : Type} {J : α → Prop} {K : β → Prop} {f : M α} {g : α → M β} (hf : W5p J f) (hg : ∀ a, J a → W5p K (g a)) : W5p K (oB f g) := fun s c t e => by
  unfold oB at e
  cases h : f s with
  | none => rw [h] at e; cases e
  | some q =>
    rw [h] at e
    obtain ⟨a, u⟩ := q
    obtain ⟨k1, k2⟩ := hf s a u h
    obtain ⟨k3, k4⟩ := hg a k2 u c t e
    exact ⟨k1.trans k3, k4⟩
theorem w5p_C {α : Type} {J : α → Prop} {c : Prop} [Decidable c] {f g : M α} (hf : W5p J f) (hg : W5p J g) : W5p J (oC c f g) := fun s a t e => by
  unfold oC at e
  by_cases d : c
  · rw [if_pos d] at e
    exact hf s a t e
  · rw [if_neg d] at e
    exact hg s a t e
theorem w5p_W {σ ρ : Type} {body : σ → M (σ ⊕ ρ)} {I : σ → Prop} {J : ρ → Prop} (h : ∀ x, I x → W5p (Sum.elim I J) (body x)) (x : σ) (hx : I x) : W5p J (oW body x) := fun s a t e => by
  obtain ⟨n, hn⟩ := oW_n body x s (a, t) e
  clear e
  induction n generalizing x s with
  | zero => cases hn
  | succ n ih =>
    cases hc : body x s with
    | none => simp only [oWn, hc] at hn; cases hn
    | some p =>
      obtain ⟨y, s2⟩ := p
      have w := h x hx s y s2 hc
      cases y with
      | inl y =>
        simp only [oWn, hc] at hn
        obtain ⟨k1, k2⟩ := ih y w.2 s2 hn
        exact ⟨w.1.trans k1, k2⟩
      | inr e =>
        simp only [oWn, hc] at hn
        cases hn
        exact w
theorem w5_R {α : Type} (a : α) : W5k (oR a) := (w5p_R (J := fun _ => True) trivial).k
theorem w5_F {α : Type} : W5k (oF : M α) := fun s a t e => by cases e
theorem w5_B {α β : Type} {f : M α} {g : α → M β} (hf : W5k f) (hg : ∀ a, W5k (g a)) : W5k (oB f g) := (w5p_B hf.p (fun a _ => (hg a).p)).k
theorem w5_C {α : Type} {c : Prop} [Decidable c] {f g : M α} (hf : W5k f) (hg : W5k g) : W5k (oC c f g) := (w5p_C hf.p hg.p).k
theorem w5_L {α β : Type} {x : α} {g : α → M β} (h : W5k (g x)) : W5k (oL x g) := h
theorem w5_W {σ ρ : Type} {body : σ → M (σ ⊕ ρ)} (h : ∀ x, W5k (body x)) (x : σ) : W5k (oW body x) := (w5p_W (I := fun _ => True) (J := fun _ => True) (fun x _ s a t e => ⟨h x s a t e, by cases a <;> trivial⟩) x trivial).k
theorem w5_E {α β γ : Type} {f : α → M γ} {g : β → M γ} (hf : ∀ a, W5k (f a)) (hg : ∀ c, W5k (g c)) (y : α ⊕ β) : W5k (Sum.elim f g y) := by
  rcases y with y | y
  · exact hf y
  · exact hg y
theorem w5_id {α : Type} {f : M α} (h : ∀ s a t, f s = some (a, t) → t = s) : W5k f := fun s a t e => by
  rw [h s a t e]
  exact W5r.refl s
theorem w5_K (c : Prop) [Decidable c] : W5k (oK c) := w5_id fun s a t e => ifs_st e

theorem w5_GI (f : Nat) (i : Int32) : W5k (oGI f i) := w5_id fun s a t e => by cases e; rfl
theorem w5_GL (f : Nat) (i : Int32) : W5k (oGL f i) := w5_id fun s a t e => by cases e; rfl

theorem w5_AI (a : Nat) (n i j : Int32) : W5k (oAI a n i j) := w5_id fun s x t e => ifs_st (x := (gA s a i j, s)) e
theorem w5_AL (a : Nat) (n i j : Int32) : W5k (oAL a n i j) := w5_id fun s x t e => ifs_st (x := (gB s a i j, s)) e
theorem w5_Pr (r : Nat) (i : Int32) : W5k (oPr r i) := w5_id fun s x t e => ifs_st (x := ((), s)) e


theorem w5_Nw (n : Nat × Nat) (k : Nat) : W5k (oNw n k) := w5_id fun s x t e => by
  unfold oNw at e
  exact ifs_st e
theorem w5_PI {f : Nat} {i x : Int32} (h : f ≠ 3 ∧ f ≠ 4) : W5k (oPI f i x) := fun s a t e => by
  cases e
  refine ⟨fun g q => ?_, fun _ => rfl⟩
  rw [gI_sI, if_neg (fun y => by omega)]
theorem w5_PL {f : Nat} {i : Int32} {x : Int64} : W5k (oPL f i x) := fun s a t e => by
  cases e
  exact ⟨fun _ _ => rfl, fun _ => rfl⟩
theorem w5_SI {a : Nat} {n i j x : Int32} (h : a ≠ 41) : W5k (oSI a n i j x) := fun s y t e => by
  rw [ifs_st (x := ((), sA s a i j x)) e]
  refine ⟨fun _ _ => rfl, fun k => ?_⟩
  show gA (sA s a i j x) 41 0 k = _
  rw [gA_sA, if_neg (fun y => h y.1.symm)]
theorem w5_SL {a : Nat} {n i j : Int32} {x : Int64} : W5k (oSL a n i j x) := fun s y t e => by
  rw [ifs_st (x := ((), sB s a i j x)) e]
  exact ⟨fun _ _ => rfl, fun _ => rfl⟩
theorem w5_CI {ra : Nat} {ia na : Int32} {rb : Nat} {ib nb sp dp n : Int32} (h : rb ≠ 41) : W5k (oCI ra ia na rb ib nb sp dp n) := fun s y t e => by
  rw [ifs_st (x := ((), sAf s rb ib (cpI s ra ia rb ib sp dp n))) e]
  refine ⟨fun _ _ => rfl, fun k => ?_⟩
  show gA (sAf s rb ib (cpI s ra ia rb ib sp dp n)) 41 0 k = _
  rw [gA_sAf, if_neg (fun y => h y.1.symm)]
theorem w5_S {f : S1 → S1} (h : ∀ s, W5r s (f s)) : W5k (oS f) := fun s a t e => by
  cases e
  exact h s
theorem w5r_nwR {r : Nat} {i : Int32} {n : Nat} (h : r ≠ 41) (s : S1) : W5r s (nwR s r i n) := by
  refine ⟨fun f q => ?_, fun k => ?_⟩
  · show (if f = 128 * r + 127 ∧ (0 : Int32) = i then (1 : Int32) else if f = 128 * r + 126 ∧ (0 : Int32) = i then Int32.ofNat n else s.1 f 0) = s.1 f 0
    rw [if_neg (fun y => by omega), if_neg (fun y => by omega)]
  · show (if 41 = r ∧ (0 : Int32) = i then 0 else s.2.2.1 41 0 k) = s.2.2.1 41 0 k
    rw [if_neg (fun y => h y.1.symm)]
theorem w5_Arr_rangeCheck (l0 l1 l2 : Int32) : W5k (M_Arr_rangeCheck l0 l1 l2) := by
  unfold M_Arr_rangeCheck
  exact w5_C (w5_C (w5_C (w5_R _) w5_F) w5_F) w5_F
theorem w5_Arr_fill (r : Nat) (x y : Int32) (h : r ≠ 41) : W5k (M_Arr_fill r x y) := by
  unfold M_Arr_fill
  refine w5_L (w5_B (w5p_W (I := fun x => x.1 ≠ 41) (J := fun _ => True) (fun x hx => ?_) _ h).k (fun _ => w5_R _))
  unfold M_Arr_fill_L5
  exact w5p_C (w5p_R trivial) (w5p_B (w5_SI hx).p fun _ _ => w5p_R hx)
theorem w5_Arr_fill_ (r : Nat) (x y w v : Int32) (h : r ≠ 41) : W5k (M_Arr_fill_ r x y w v) := by
  unfold M_Arr_fill_
  refine w5_B (w5_Arr_rangeCheck _ _ _) (fun _ => w5_B (w5_Pr _ _) (fun _ => w5_B (w5p_W (I := fun x => x.1 ≠ 41) (J := fun _ => True) (fun x hx => ?_) _ h).k (fun _ => w5_R _)))
  unfold M_Arr_fill__L10
  exact w5p_C (w5p_R trivial) (w5p_B (w5_SI hx).p fun _ _ => w5p_R hx)
theorem w5_Arr_fill__ (r : Nat) (x y w : Int32) (v : Int64) (h : r ≠ 41) : W5k (M_Arr_fill__ r x y w v) := by
  unfold M_Arr_fill__
  refine w5_B (w5_Arr_rangeCheck _ _ _) (fun _ => w5_B (w5_Pr _ _) (fun _ => w5_B (w5p_W (I := fun x => x.1 ≠ 41) (J := fun _ => True) (fun x hx => ?_) _ h).k (fun _ => w5_R _)))
  unfold M_Arr_fill___L10
  exact w5p_C (w5p_R trivial) (w5p_B (w5_SL).p fun _ _ => w5p_R hx)
theorem w5_Arr_fill_____ (r : Nat) (x y w v : Int32) (h : r ≠ 41) : W5k (M_Arr_fill_____ r x y w v) := by
  unfold M_Arr_fill_____
  refine w5_B (w5_Arr_rangeCheck _ _ _) (fun _ => w5_B (w5_Pr _ _) (fun _ => w5_B (w5p_W (I := fun x => x.1 ≠ 41) (J := fun _ => True) (fun x hx => ?_) _ h).k (fun _ => w5_R _)))
  unfold M_Arr_fill______L10
  exact w5p_C (w5p_R trivial) (w5p_B (w5_SI hx).p fun _ _ => w5p_R hx)
theorem w5_Arr_fill___ (r : Nat) (x y : Int32) (h : r ≠ 41) : W5k (M_Arr_fill___ r x y) := by
  unfold M_Arr_fill___
  refine w5_L (w5_B (w5p_W (I := fun x => x.1 ≠ 41) (J := fun _ => True) (fun x hx => ?_) _ h).k (fun _ => w5_R _))
  unfold M_Arr_fill____L5
  exact w5p_C (w5p_R trivial) (w5p_B (w5_SI hx).p fun _ _ => w5p_R hx)
theorem w5_Arr_fill____ (r : Nat) (x y w v : Int32) (h : r ≠ 41) : W5k (M_Arr_fill____ r x y w v) := by
  unfold M_Arr_fill____
  refine w5_B (w5_Arr_rangeCheck _ _ _) (fun _ => w5_B (w5_Pr _ _) (fun _ => w5_B (w5p_W (I := fun x => x.1 ≠ 41) (J := fun _ => True) (fun x hx => ?_) _ h).k (fun _ => w5_R _)))
  unfold M_Arr_fill_____L10
  exact w5p_C (w5p_R trivial) (w5p_B (w5_SI hx).p fun _ _ => w5p_R hx)
