/-! The reference: what was printed stays within its row. -/
def Vr (s t : S1) : Prop := gI t 95 0 = gI s 95 0
theorem Vr.refl (s : S1) : Vr s s := rfl
theorem Vr.trans {s t u : S1} (h : Vr s t) (k : Vr t u) : Vr s u := k.trans h
def Vp_ {α : Type} (J : α → Prop) (f : M α) : Prop := ∀ s a t, f s = some (a, t) → Vr s t ∧ J a
def Vk {α : Type} (f : M α) : Prop := ∀ s a t, f s = some (a, t) → Vr s t
theorem Vk.p {α : Type} {f : M α} (h : Vk f) : Vp_ (fun _ => True) f := fun s a t e => ⟨h s a t e, trivial⟩
theorem Vp_.k {α : Type} {J : α → Prop} {f : M α} (h : Vp_ J f) : Vk f := fun s a t e => (h s a t e).1
theorem vp_R {α : Type} {J : α → Prop} {a : α} (h : J a) : Vp_ J (oR a) := fun s a' t e => by
  cases e
  exact ⟨Vr.refl s, h⟩
theorem vp_B {α β : Type} {J : α → Prop} {K : β → Prop} {f : M α} {g : α → M β} (hf : Vp_ J f) (hg : ∀ a, J a → Vp_ K (g a)) : Vp_ K (oB f g) := fun s c t e => by
  unfold oB at e
  cases h : f s with
  | none => rw [h] at e; cases e
  | some q =>
    rw [h] at e
    obtain ⟨a, u⟩ := q
    obtain ⟨k1, k2⟩ := hf s a u h
    obtain ⟨k3, k4⟩ := hg a k2 u c t e
    exact ⟨k1.trans k3, k4⟩
theorem vp_C {α : Type} {J : α → Prop} {c : Prop} [Decidable c] {f g : M α} (hf : Vp_ J f) (hg : Vp_ J g) : Vp_ J (oC c f g) := fun s a t e => by
  unfold oC at e
  by_cases d : c
  · rw [if_pos d] at e
    exact hf s a t e
  · rw [if_neg d] at e
    exact hg s a t e
theorem vp_W {σ ρ : Type} {body : σ → M (σ ⊕ ρ)} {I : σ → Prop} {J : ρ → Prop} (h : ∀ x, I x → Vp_ (Sum.elim I J) (body x)) (x : σ) (hx : I x) : Vp_ J (oW body x) := fun s a t e => by
  obtain ⟨n, hn⟩ := oW_n body x s (a, t) e
  clear e
  induction n generalizing x s with
  | zero => cases hn
  | succ n ih =>
    cases hc : body x s with
    | none => simp only [oWn, hc] at hn; cases hn
    | some p =>
      obtain ⟨y, s2⟩ := p
      have w := h x hx s y s2 hc
      cases y with
      | inl y =>
        simp only [oWn, hc] at hn
        obtain ⟨k1, k2⟩ := ih y w.2 s2 hn
        exact ⟨w.1.trans k1, k2⟩
      | inr e =>
        simp only [oWn, hc] at hn
        cases hn
        exact w
theorem vk_R {α : Type} (a : α) : Vk (oR a) := (vp_R (J := fun _ => True) trivial).k
theorem vk_F {α : Type} : Vk (oF : M α) := fun s a t e => by cases e
theorem vk_B {α β : Type} {f : M α} {g : α → M β} (hf : Vk f) (hg : ∀ a, Vk (g a)) : Vk (oB f g) := (vp_B hf.p (fun a _ => (hg a).p)).k
theorem vk_C {α : Type} {c : Prop} [Decidable c] {f g : M α} (hf : Vk f) (hg : Vk g) : Vk (oC c f g) := (vp_C hf.p hg.p).k
theorem vk_L {α β : Type} {x : α} {g : α → M β} (h : Vk (g x)) : Vk (oL x g) := h
theorem vk_W {σ ρ : Type} {body : σ → M (σ ⊕ ρ)} (h : ∀ x, Vk (body x)) (x : σ) : Vk (oW body x) := (vp_W (I := fun _ => True) (J := fun _ => True) (fun x _ s a t e => ⟨h x s a t e, by cases a <;> trivial⟩) x trivial).k
theorem vk_E {α β γ : Type} {f : α → M γ} {g : β → M γ} (hf : ∀ a, Vk (f a)) (hg : ∀ c, Vk (g c)) (y : α ⊕ β) : Vk (Sum.elim f g y) := by
  rcases y with y | y
  · exact hf y
  · exact hg y
theorem vk_id {α : Type} {f : M α} (h : ∀ s a t, f s = some (a, t) → t = s) : Vk f := fun s a t e => by
  rw [h s a t e]
  exact Vr.refl s
theorem vk_K (c : Prop) [Decidable c] : Vk (oK c) := vk_id fun s a t e => ifs_st e

theorem vk_GI (f : Nat) (i : Int32) : Vk (oGI f i) := vk_id fun s a t e => by cases e; rfl
theorem vk_GL (f : Nat) (i : Int32) : Vk (oGL f i) := vk_id fun s a t e => by cases e; rfl

theorem vk_AI (a : Nat) (n i j : Int32) : Vk (oAI a n i j) := vk_id fun s x t e => ifs_st (x := (gA s a i j, s)) e
theorem vk_AL (a : Nat) (n i j : Int32) : Vk (oAL a n i j) := vk_id fun s x t e => ifs_st (x := (gB s a i j, s)) e
theorem vk_Pr (r : Nat) (i : Int32) : Vk (oPr r i) := vk_id fun s x t e => ifs_st (x := ((), s)) e


theorem vk_Nw (n : Nat × Nat) (k : Nat) : Vk (oNw n k) := vk_id fun s x t e => by
  unfold oNw at e
  exact ifs_st e
theorem vk_PI {f : Nat} {i x : Int32} (h : f ≠ 95) : Vk (oPI f i x) := fun s a t e => by
  cases e
  show gI (sI s f i x) 95 0 = gI s 95 0
  rw [gI_sI, if_neg (fun z => h z.1.symm)]
theorem vk_PL {f : Nat} {i : Int32} {x : Int64} : Vk (oPL f i x) := fun s a t e => by
  cases e
  rfl
theorem vk_SI {a : Nat} {n i j x : Int32} : Vk (oSI a n i j x) := fun s y t e => by
  rw [ifs_st (x := ((), sA s a i j x)) e]
  rfl
theorem vk_SL {a : Nat} {n i j : Int32} {x : Int64} : Vk (oSL a n i j x) := fun s y t e => by
  rw [ifs_st (x := ((), sB s a i j x)) e]
  rfl
theorem vk_CI {ra : Nat} {ia na : Int32} {rb : Nat} {ib nb sp dp n : Int32} : Vk (oCI ra ia na rb ib nb sp dp n) := fun s y t e => by
  rw [ifs_st (x := ((), sAf s rb ib (cpI s ra ia rb ib sp dp n))) e]
  rfl
theorem vk_S {f : S1 → S1} (h : ∀ s, Vr s (f s)) : Vk (oS f) := fun s a t e => by
  cases e
  exact h s
theorem vr_nwR {r : Nat} {i : Int32} {n : Nat} (s : S1) : Vr s (nwR s r i n) := by
  show (if 95 = 128 * r + 127 ∧ (0 : Int32) = i then (1 : Int32) else if 95 = 128 * r + 126 ∧ (0 : Int32) = i then Int32.ofNat n else s.1 95 0) = s.1 95 0
  rw [if_neg (fun y => by omega), if_neg (fun y => by omega)]
theorem vk_Arr_rangeCheck (l0 l1 l2 : Int32) : Vk (M_Arr_rangeCheck l0 l1 l2) := by
  unfold M_Arr_rangeCheck
  exact vk_C (vk_C (vk_C (vk_R _) vk_F) vk_F) vk_F
theorem vk_Arr_fill (r : Nat) (x y : Int32) : Vk (M_Arr_fill r x y) := by
  unfold M_Arr_fill
  refine vk_L (vk_B (vk_W (fun x => ?_) _) (fun _ => vk_R _))
  unfold M_Arr_fill_L5
  exact vk_C (vk_R _) (vk_B vk_SI fun _ => vk_R _)
theorem vk_Arr_fill_ (r : Nat) (x y w v : Int32) : Vk (M_Arr_fill_ r x y w v) := by
  unfold M_Arr_fill_
  refine vk_B (vk_Arr_rangeCheck _ _ _) (fun _ => vk_B (vk_Pr _ _) (fun _ => vk_B (vk_W (fun x => ?_) _) (fun _ => vk_R _)))
  unfold M_Arr_fill__L10
  exact vk_C (vk_R _) (vk_B vk_SI fun _ => vk_R _)
theorem vk_Arr_fill__ (r : Nat) (x y w : Int32) (v : Int64) : Vk (M_Arr_fill__ r x y w v) := by
  unfold M_Arr_fill__
  refine vk_B (vk_Arr_rangeCheck _ _ _) (fun _ => vk_B (vk_Pr _ _) (fun _ => vk_B (vk_W (fun x => ?_) _) (fun _ => vk_R _)))
  unfold M_Arr_fill___L10
  exact vk_C (vk_R _) (vk_B vk_SL fun _ => vk_R _)
theorem vk_Arr_fill_____ (r : Nat) (x y w v : Int32) : Vk (M_Arr_fill_____ r x y w v) := by
  unfold M_Arr_fill_____
  refine vk_B (vk_Arr_rangeCheck _ _ _) (fun _ => vk_B (vk_Pr _ _) (fun _ => vk_B (vk_W (fun x => ?_) _) (fun _ => vk_R _)))
  unfold M_Arr_fill______L10
  exact vk_C (vk_R _) (vk_B vk_SI fun _ => vk_R _)
theorem vk_Arr_fill___ (r : Nat) (x y : Int32) : Vk (M_Arr_fill___ r x y) := by
  unfold M_Arr_fill___
  refine vk_L (vk_B (vk_W (fun x => ?_) _) (fun _ => vk_R _))
  unfold M_Arr_fill____L5
  exact vk_C (vk_R _) (vk_B vk_SI fun _ => vk_R _)
theorem vk_Arr_fill____ (r : Nat) (x y w v : Int32) : Vk (M_Arr_fill____ r x y w v) := by
  unfold M_Arr_fill____
  refine vk_B (vk_Arr_rangeCheck _ _ _) (fun _ => vk_B (vk_Pr _ _) (fun _ => vk_B (vk_W (fun x => ?_) _) (fun _ => vk_R _)))
  unfold M_Arr_fill_____L10
  exact vk_C (vk_R _) (vk_B vk_SI fun _ => vk_R _)
