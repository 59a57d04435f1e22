/-! The reference: what was printed stays within its row. -/
def V9r (s t : S1) : Prop := gI t 95 0 = gI s 95 0
theorem V9r.refl (s : S1) : V9r s s := rfl
theorem V9r.trans {s t u : S1} (h : V9r s t) (k : V9r t u) : V9r s u := Eq.trans k h
def V9p {α : Type} (J : α → Prop) (f : M α) : Prop := ∀ s a t, f s = some (a, t) → V9r s t ∧ J a
def V9k {α : Type} (f : M α) : Prop := ∀ s a t, f s = some (a, t) → V9r s t
theorem V9k.p {α : Type} {f : M α} (h : V9k f) : V9p (fun _ => True) f := fun s a t e => ⟨h s a t e, trivial⟩
theorem V9p.k {α : Type} {J : α → Prop} {f : M α} (h : V9p J f) : V9k f := fun s a t e => (h s a t e).1
theorem n9p_R {α : Type} {J : α → Prop} {a : α} (h : J a) : V9p J (oR a) := fun s a' t e => by
  cases e
  exact ⟨V9r.refl s, h⟩
theorem n9p_B {α β : Type} {J : α → Prop} {K : β → Prop} {f : M α} {g : α → M β} (hf : V9p J f) (hg : ∀ a, J a → V9p K (g a)) : V9p K (oB f g) := fun s c t e => by
  unfold oB at e
  cases h : f s with
  | none => rw [h] at e; cases e
  | some q =>
    rw [h] at e
    obtain ⟨a, u⟩ := q
    obtain ⟨k1, k2⟩ := hf s a u h
    obtain ⟨k3, k4⟩ := hg a k2 u c t e
    exact ⟨k1.trans k3, k4⟩
theorem n9p_C {α : Type} {J : α → Prop} {c : Prop} [Decidable c] {f g : M α} (hf : V9p J f) (hg : V9p J g) : V9p J (oC c f g) := fun s a t e => by
  unfold oC at e
  by_cases d : c
  · rw [if_pos d] at e
    exact hf s a t e
  · rw [if_neg d] at e
    exact hg s a t e
theorem n9p_W {σ ρ : Type} {body : σ → M (σ ⊕ ρ)} {I : σ → Prop} {J : ρ → Prop} (h : ∀ x, I x → V9p (Sum.elim I J) (body x)) (x : σ) (hx : I x) : V9p J (oW body x) := fun s a t e => by
  obtain ⟨n, hn⟩ := oW_n body x s (a, t) e
  clear e
  induction n generalizing x s with
  | zero => cases hn
  | succ n ih =>
    cases hc : body x s with
    | none => simp only [oWn, hc] at hn; cases hn
    | some p =>
      obtain ⟨y, s2⟩ := p
      have w := h x hx s y s2 hc
      cases y with
      | inl y =>
        simp only [oWn, hc] at hn
        obtain ⟨k1, k2⟩ := ih y w.2 s2 hn
        exact ⟨w.1.trans k1, k2⟩
      | inr e =>
        simp only [oWn, hc] at hn
        cases hn
        exact w
theorem n9k_R {α : Type} (a : α) : V9k (oR a) := (n9p_R (J := fun _ => True) trivial).k
theorem n9k_F {α : Type} : V9k (oF : M α) := fun s a t e => by cases e
theorem n9k_B {α β : Type} {f : M α} {g : α → M β} (hf : V9k f) (hg : ∀ a, V9k (g a)) : V9k (oB f g) := (n9p_B hf.p (fun a _ => (hg a).p)).k
theorem n9k_C {α : Type} {c : Prop} [Decidable c] {f g : M α} (hf : V9k f) (hg : V9k g) : V9k (oC c f g) := (n9p_C hf.p hg.p).k
theorem n9k_L {α β : Type} {x : α} {g : α → M β} (h : V9k (g x)) : V9k (oL x g) := h
theorem n9k_W {σ ρ : Type} {body : σ → M (σ ⊕ ρ)} (h : ∀ x, V9k (body x)) (x : σ) : V9k (oW body x) := (n9p_W (I := fun _ => True) (J := fun _ => True) (fun x _ s a t e => ⟨h x s a t e, by cases a <;> trivial⟩) x trivial).k
theorem n9k_E {α β γ : Type} {f : α → M γ} {g : β → M γ} (hf : ∀ a, V9k (f a)) (hg : ∀ c, V9k (g c)) (y : α ⊕ β) : V9k (Sum.elim f g y) := by
  rcases y with y | y
  · exact hf y
  · exact hg y
theorem n9k_id {α : Type} {f : M α} (h : ∀ s a t, f s = some (a, t) → t = s) : V9k f := fun s a t e => by
  rw [h s a t e]
  exact V9r.refl s
theorem n9k_K (c : Prop) [Decidable c] : V9k (oK c) := n9k_id fun s a t e => ifs_st e

theorem n9k_GI (f : Nat) (i : Int32) : V9k (oGI f i) := n9k_id fun s a t e => by cases e; rfl
theorem n9k_GL (f : Nat) (i : Int32) : V9k (oGL f i) := n9k_id fun s a t e => by cases e; rfl

theorem n9k_AI (a : Nat) (n i j : Int32) : V9k (oAI a n i j) := n9k_id fun s x t e => ifs_st (x := (gA s a i j, s)) e
theorem n9k_AL (a : Nat) (n i j : Int32) : V9k (oAL a n i j) := n9k_id fun s x t e => ifs_st (x := (gB s a i j, s)) e
theorem n9k_Pr (r : Nat) (i : Int32) : V9k (oPr r i) := n9k_id fun s x t e => ifs_st (x := ((), s)) e


theorem n9k_Nw (n : Nat × Nat) (k : Nat) : V9k (oNw n k) := n9k_id fun s x t e => by
  unfold oNw at e
  exact ifs_st e
theorem n9k_PI {f : Nat} {i x : Int32} (h : f ≠ 95) : V9k (oPI f i x) := fun s a t e => by
  cases e
  show gI (sI s f i x) 95 0 = gI s 95 0
  rw [gI_sI, if_neg (fun z => h z.1.symm)]
theorem n9k_PL {f : Nat} {i : Int32} {x : Int64} : V9k (oPL f i x) := fun s a t e => by
  cases e
  rfl
theorem n9k_SI {a : Nat} {n i j x : Int32} : V9k (oSI a n i j x) := fun s y t e => by
  rw [ifs_st (x := ((), sA s a i j x)) e]
  rfl
theorem n9k_SL {a : Nat} {n i j : Int32} {x : Int64} : V9k (oSL a n i j x) := fun s y t e => by
  rw [ifs_st (x := ((), sB s a i j x)) e]
  rfl
theorem n9k_CI {ra : Nat} {ia na : Int32} {rb : Nat} {ib nb sp dp n : Int32} : V9k (oCI ra ia na rb ib nb sp dp n) := fun s y t e => by
  rw [ifs_st (x := ((), sAf s rb ib (cpI s ra ia rb ib sp dp n))) e]
  rfl
theorem n9k_S {f : S1 → S1} (h : ∀ s, V9r s (f s)) : V9k (oS f) := fun s a t e => by
  cases e
  exact h s
theorem n9r_nwR {r : Nat} {i : Int32} {n : Nat} (s : S1) : V9r s (nwR s r i n) := by
  show (if 95 = 128 * r + 127 ∧ (0 : Int32) = i then (1 : Int32) else if 95 = 128 * r + 126 ∧ (0 : Int32) = i then Int32.ofNat n else s.1 95 0) = s.1 95 0
  rw [if_neg (fun y => by omega), if_neg (fun y => by omega)]
theorem n9k_Arr_rangeCheck (l0 l1 l2 : Int32) : V9k (M_Arr_rangeCheck l0 l1 l2) := by
  unfold M_Arr_rangeCheck
  exact n9k_C (n9k_C (n9k_C (n9k_R _) n9k_F) n9k_F) n9k_F
theorem n9k_Arr_fill (r : Nat) (x y : Int32) : V9k (M_Arr_fill r x y) := by
  unfold M_Arr_fill
  refine n9k_L (n9k_B (n9k_W (fun x => ?_) _) (fun _ => n9k_R _))
  unfold M_Arr_fill_L5
  exact n9k_C (n9k_R _) (n9k_B n9k_SI fun _ => n9k_R _)
theorem n9k_Arr_fill_ (r : Nat) (x y w v : Int32) : V9k (M_Arr_fill_ r x y w v) := by
  unfold M_Arr_fill_
  refine n9k_B (n9k_Arr_rangeCheck _ _ _) (fun _ => n9k_B (n9k_Pr _ _) (fun _ => n9k_B (n9k_W (fun x => ?_) _) (fun _ => n9k_R _)))
  unfold M_Arr_fill__L10
  exact n9k_C (n9k_R _) (n9k_B n9k_SI fun _ => n9k_R _)
theorem n9k_Arr_fill__ (r : Nat) (x y w : Int32) (v : Int64) : V9k (M_Arr_fill__ r x y w v) := by
  unfold M_Arr_fill__
  refine n9k_B (n9k_Arr_rangeCheck _ _ _) (fun _ => n9k_B (n9k_Pr _ _) (fun _ => n9k_B (n9k_W (fun x => ?_) _) (fun _ => n9k_R _)))
  unfold M_Arr_fill___L10
  exact n9k_C (n9k_R _) (n9k_B n9k_SL fun _ => n9k_R _)
theorem n9k_Arr_fill_____ (r : Nat) (x y w v : Int32) : V9k (M_Arr_fill_____ r x y w v) := by
  unfold M_Arr_fill_____
  refine n9k_B (n9k_Arr_rangeCheck _ _ _) (fun _ => n9k_B (n9k_Pr _ _) (fun _ => n9k_B (n9k_W (fun x => ?_) _) (fun _ => n9k_R _)))
  unfold M_Arr_fill______L10
  exact n9k_C (n9k_R _) (n9k_B n9k_SI fun _ => n9k_R _)
theorem n9k_Arr_fill___ (r : Nat) (x y : Int32) : V9k (M_Arr_fill___ r x y) := by
  unfold M_Arr_fill___
  refine n9k_L (n9k_B (n9k_W (fun x => ?_) _) (fun _ => n9k_R _))
  unfold M_Arr_fill____L5
  exact n9k_C (n9k_R _) (n9k_B n9k_SI fun _ => n9k_R _)
theorem n9k_Arr_fill____ (r : Nat) (x y w v : Int32) : V9k (M_Arr_fill____ r x y w v) := by
  unfold M_Arr_fill____
  refine n9k_B (n9k_Arr_rangeCheck _ _ _) (fun _ => n9k_B (n9k_Pr _ _) (fun _ => n9k_B (n9k_W (fun x => ?_) _) (fun _ => n9k_R _)))
  unfold M_Arr_fill_____L10
  exact n9k_C (n9k_R _) (n9k_B n9k_SI fun _ => n9k_R _)
