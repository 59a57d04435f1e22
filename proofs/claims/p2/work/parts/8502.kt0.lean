/-! The reference: the limit stays, but for limit. -/
def T3r (s t : S1) : Prop := gI t 32 0 = gI s 32 0
theorem T3r.refl (s : S1) : T3r s s := rfl
theorem T3r.trans {s t u : S1} (h : T3r s t) (k : T3r t u) : T3r s u := Eq.trans k h
def T3p {α : Type} (J : α → Prop) (f : M α) : Prop := ∀ s a t, f s = some (a, t) → T3r s t ∧ J a
def T3k {α : Type} (f : M α) : Prop := ∀ s a t, f s = some (a, t) → T3r s t
theorem T3k.p {α : Type} {f : M α} (h : T3k f) : T3p (fun _ => True) f := fun s a t e => ⟨h s a t e, trivial⟩
theorem T3p.k {α : Type} {J : α → Prop} {f : M α} (h : T3p J f) : T3k f := fun s a t e => (h s a t e).1
theorem t3p_R {α : Type} {J : α → Prop} {a : α} (h : J a) : T3p J (oR a) := fun s a' t e => by
  cases e
  exact ⟨T3r.refl s, h⟩
theorem t3p_B {α β : Type} {J : α → Prop} {K : β → Prop} {f : M α} {g : α → M β} (hf : T3p J f) (hg : ∀ a, J a → T3p K (g a)) : T3p K (oB f g) := fun s c t e => by
  unfold oB at e
  cases h : f s with
  | none => rw [h] at e; cases e
  | some q =>
    rw [h] at e
    obtain ⟨a, u⟩ := q
    obtain ⟨k1, k2⟩ := hf s a u h
    obtain ⟨k3, k4⟩ := hg a k2 u c t e
    exact ⟨k1.trans k3, k4⟩
theorem t3p_C {α : Type} {J : α → Prop} {c : Prop} [Decidable c] {f g : M α} (hf : T3p J f) (hg : T3p J g) : T3p J (oC c f g) := fun s a t e => by
  unfold oC at e
  by_cases d : c
  · rw [if_pos d] at e
    exact hf s a t e
  · rw [if_neg d] at e
    exact hg s a t e
theorem t3p_W {σ ρ : Type} {body : σ → M (σ ⊕ ρ)} {I : σ → Prop} {J : ρ → Prop} (h : ∀ x, I x → T3p (Sum.elim I J) (body x)) (x : σ) (hx : I x) : T3p J (oW body x) := fun s a t e => by
  obtain ⟨n, hn⟩ := oW_n body x s (a, t) e
  clear e
  induction n generalizing x s with
  | zero => cases hn
  | succ n ih =>
    cases hc : body x s with
    | none => simp only [oWn, hc] at hn; cases hn
    | some p =>
      obtain ⟨y, s2⟩ := p
      have w := h x hx s y s2 hc
      cases y with
      | inl y =>
        simp only [oWn, hc] at hn
        obtain ⟨k1, k2⟩ := ih y w.2 s2 hn
        exact ⟨w.1.trans k1, k2⟩
      | inr e =>
        simp only [oWn, hc] at hn
        cases hn
        exact w
theorem t3k_R {α : Type} (a : α) : T3k (oR a) := (t3p_R (J := fun _ => True) trivial).k
theorem t3k_F {α : Type} : T3k (oF : M α) := fun s a t e => by cases e
theorem t3k_B {α β : Type} {f : M α} {g : α → M β} (hf : T3k f) (hg : ∀ a, T3k (g a)) : T3k (oB f g) := (t3p_B hf.p (fun a _ => (hg a).p)).k
theorem t3k_C {α : Type} {c : Prop} [Decidable c] {f g : M α} (hf : T3k f) (hg : T3k g) : T3k (oC c f g) := (t3p_C hf.p hg.p).k
theorem t3k_L {α β : Type} {x : α} {g : α → M β} (h : T3k (g x)) : T3k (oL x g) := h
theorem t3k_W {σ ρ : Type} {body : σ → M (σ ⊕ ρ)} (h : ∀ x, T3k (body x)) (x : σ) : T3k (oW body x) := (t3p_W (I := fun _ => True) (J := fun _ => True) (fun x _ s a t e => ⟨h x s a t e, by cases a <;> trivial⟩) x trivial).k
theorem t3k_E {α β γ : Type} {f : α → M γ} {g : β → M γ} (hf : ∀ a, T3k (f a)) (hg : ∀ c, T3k (g c)) (y : α ⊕ β) : T3k (Sum.elim f g y) := by
  rcases y with y | y
  · exact hf y
  · exact hg y
theorem t3k_id {α : Type} {f : M α} (h : ∀ s a t, f s = some (a, t) → t = s) : T3k f := fun s a t e => by
  rw [h s a t e]
  exact T3r.refl s
theorem t3k_K (c : Prop) [Decidable c] : T3k (oK c) := t3k_id fun s a t e => ifs_st e

theorem t3k_GI (f : Nat) (i : Int32) : T3k (oGI f i) := t3k_id fun s a t e => by cases e; rfl
theorem t3k_GL (f : Nat) (i : Int32) : T3k (oGL f i) := t3k_id fun s a t e => by cases e; rfl

theorem t3k_AI (a : Nat) (n i j : Int32) : T3k (oAI a n i j) := t3k_id fun s x t e => ifs_st (x := (gA s a i j, s)) e
theorem t3k_AL (a : Nat) (n i j : Int32) : T3k (oAL a n i j) := t3k_id fun s x t e => ifs_st (x := (gB s a i j, s)) e
theorem t3k_Pr (r : Nat) (i : Int32) : T3k (oPr r i) := t3k_id fun s x t e => ifs_st (x := ((), s)) e


theorem t3k_Nw (n : Nat × Nat) (k : Nat) : T3k (oNw n k) := t3k_id fun s x t e => by
  unfold oNw at e
  exact ifs_st e
theorem t3k_PI {f : Nat} {i x : Int32} (h : f ≠ 32) : T3k (oPI f i x) := fun s a t e => by
  cases e
  show gI (sI s f i x) 32 0 = gI s 32 0
  rw [gI_sI, if_neg (fun z => h z.1.symm)]
theorem t3k_PL {f : Nat} {i : Int32} {x : Int64} : T3k (oPL f i x) := fun s a t e => by
  cases e
  rfl
theorem t3k_SI {a : Nat} {n i j x : Int32} : T3k (oSI a n i j x) := fun s y t e => by
  rw [ifs_st (x := ((), sA s a i j x)) e]
  rfl
theorem t3k_SL {a : Nat} {n i j : Int32} {x : Int64} : T3k (oSL a n i j x) := fun s y t e => by
  rw [ifs_st (x := ((), sB s a i j x)) e]
  rfl
theorem t3k_CI {ra : Nat} {ia na : Int32} {rb : Nat} {ib nb sp dp n : Int32} : T3k (oCI ra ia na rb ib nb sp dp n) := fun s y t e => by
  rw [ifs_st (x := ((), sAf s rb ib (cpI s ra ia rb ib sp dp n))) e]
  rfl
theorem t3k_S {f : S1 → S1} (h : ∀ s, T3r s (f s)) : T3k (oS f) := fun s a t e => by
  cases e
  exact h s
theorem t3r_nwR {r : Nat} {i : Int32} {n : Nat} (s : S1) : T3r s (nwR s r i n) := by
  show (if 32 = 128 * r + 127 ∧ (0 : Int32) = i then (1 : Int32) else if 32 = 128 * r + 126 ∧ (0 : Int32) = i then Int32.ofNat n else s.1 32 0) = s.1 32 0
  rw [if_neg (fun y => by omega), if_neg (fun y => by omega)]
theorem t3k_Arr_rangeCheck (l0 l1 l2 : Int32) : T3k (M_Arr_rangeCheck l0 l1 l2) := by
  unfold M_Arr_rangeCheck
  exact t3k_C (t3k_C (t3k_C (t3k_R _) t3k_F) t3k_F) t3k_F
theorem t3k_Arr_fill (r : Nat) (x y : Int32) : T3k (M_Arr_fill r x y) := by
  unfold M_Arr_fill
  refine t3k_L (t3k_B (t3k_W (fun x => ?_) _) (fun _ => t3k_R _))
  unfold M_Arr_fill_L5
  exact t3k_C (t3k_R _) (t3k_B t3k_SI fun _ => t3k_R _)
theorem t3k_Arr_fill_ (r : Nat) (x y w v : Int32) : T3k (M_Arr_fill_ r x y w v) := by
  unfold M_Arr_fill_
  refine t3k_B (t3k_Arr_rangeCheck _ _ _) (fun _ => t3k_B (t3k_Pr _ _) (fun _ => t3k_B (t3k_W (fun x => ?_) _) (fun _ => t3k_R _)))
  unfold M_Arr_fill__L10
  exact t3k_C (t3k_R _) (t3k_B t3k_SI fun _ => t3k_R _)
theorem t3k_Arr_fill__ (r : Nat) (x y w : Int32) (v : Int64) : T3k (M_Arr_fill__ r x y w v) := by
  unfold M_Arr_fill__
  refine t3k_B (t3k_Arr_rangeCheck _ _ _) (fun _ => t3k_B (t3k_Pr _ _) (fun _ => t3k_B (t3k_W (fun x => ?_) _) (fun _ => t3k_R _)))
  unfold M_Arr_fill___L10
  exact t3k_C (t3k_R _) (t3k_B t3k_SL fun _ => t3k_R _)
theorem t3k_Arr_fill_____ (r : Nat) (x y w v : Int32) : T3k (M_Arr_fill_____ r x y w v) := by
  unfold M_Arr_fill_____
  refine t3k_B (t3k_Arr_rangeCheck _ _ _) (fun _ => t3k_B (t3k_Pr _ _) (fun _ => t3k_B (t3k_W (fun x => ?_) _) (fun _ => t3k_R _)))
  unfold M_Arr_fill______L10
  exact t3k_C (t3k_R _) (t3k_B t3k_SI fun _ => t3k_R _)
theorem t3k_Arr_fill___ (r : Nat) (x y : Int32) : T3k (M_Arr_fill___ r x y) := by
  unfold M_Arr_fill___
  refine t3k_L (t3k_B (t3k_W (fun x => ?_) _) (fun _ => t3k_R _))
  unfold M_Arr_fill____L5
  exact t3k_C (t3k_R _) (t3k_B t3k_SI fun _ => t3k_R _)
theorem t3k_Arr_fill____ (r : Nat) (x y w v : Int32) : T3k (M_Arr_fill____ r x y w v) := by
  unfold M_Arr_fill____
  refine t3k_B (t3k_Arr_rangeCheck _ _ _) (fun _ => t3k_B (t3k_Pr _ _) (fun _ => t3k_B (t3k_W (fun x => ?_) _) (fun _ => t3k_R _)))
  unfold M_Arr_fill_____L10
  exact t3k_C (t3k_R _) (t3k_B t3k_SI fun _ => t3k_R _)
theorem Uk.t3 {α : Type} {f : M α} (h : Uk f) : T3k f := fun s a t e => (h s a t e).1 32 (by decide)
theorem t3k_Mo_end_j24 (l1 : Int32) (k0 : Int32) (k1 : Int32) : T3k (M_Mo_end_j24 l1 k0 k1) := by
  unfold M_Mo_end_j24
  repeat' with_reducible (first | apply t3k_B | apply t3k_C | exact (uk_Mo_refuse _ _).t3 | exact t3k_R _ | exact t3k_PI (by omega) | intro _)
theorem t3k_Mo_end_j19 (l1 : Int32) (k0 : Int32) : T3k (M_Mo_end_j19 l1 k0) := by
  unfold M_Mo_end_j19
  repeat' with_reducible (first | exact t3k_Mo_end_j24 _ _ _ | intro _)
theorem t3k_Mo_end (l1 : Int32) : T3k (M_Mo_end l1) := by
  unfold M_Mo_end
  repeat' with_reducible (first | apply t3k_B | apply t3k_C | exact t3k_Mo_end_j19 _ _ | exact t3k_Mo_end_j24 _ _ _ | exact t3k_GI _ _ | exact t3k_PI (by omega) | intro _)
theorem t3k_Mo_feed_L60 (x) : T3k (M_Mo_feed_L60 x) := by
  unfold M_Mo_feed_L60
  repeat' with_reducible (first | apply t3k_B | apply t3k_C | exact t3k_R _ | exact t3k_GI _ _ | exact t3k_PI (by omega) | exact t3k_AI _ _ _ _ | exact t3k_SI | intro _)
theorem t3k_Mo_feed_j22 (l1 : Int32) (l2 : Int32) (l3 : Int32) (l4 : Int32) (l5 : Int32) (ln : Nat × Nat) (k0 : Int32) (k1 : Int32) : T3k (M_Mo_feed_j22 l1 l2 l3 l4 l5 ln k0 k1) := by
  unfold M_Mo_feed_j22
  repeat' with_reducible (first | apply t3k_B | apply t3k_C | exact (uk_Mo_refuse _ _).t3 | exact t3k_Mo_feed_L60 _ | exact t3k_R _ | exact t3k_GI _ _ | exact t3k_SI | exact t3k_Nw _ _ | apply t3k_W | exact t3k_S t3r_nwR | intro _)
theorem t3k_Mo_feed (n0 : Nat × Nat) (l1 : Int32) (l2 : Int32) (l3 : Int32) (l4 : Int32) (l5 : Int32) : T3k (M_Mo_feed n0 l1 l2 l3 l4 l5) := by
  unfold M_Mo_feed
  repeat' with_reducible (first | apply t3k_B | apply t3k_C | exact t3k_Mo_feed_j22 _ _ _ _ _ _ _ _ | exact t3k_GI _ _ | exact t3k_PI (by omega) | intro _)
theorem t3k_Mo_load__j145 (ln : Nat × Nat) (k0 : Int32) (k1 : Int32) : T3k (M_Mo_load__j145 ln k0 k1) := by
  unfold M_Mo_load__j145
  repeat' with_reducible (first | apply t3k_B | apply t3k_C | exact (uk_Mo_refuse _ _).t3 | exact (uk_Mo_clear _).t3 | exact t3k_R _ | exact t3k_GI _ _ | exact t3k_PI (by omega) | intro _)
theorem t3k_Mo_load__j119 (ln : Nat × Nat) (k0 : Int32) (k1 : Int32) : T3k (M_Mo_load__j119 ln k0 k1) := by
  unfold M_Mo_load__j119
  repeat' with_reducible (first | apply t3k_B | apply t3k_C | exact (uk_Mo_refuse _ _).t3 | exact (uk_Mo_clear _).t3 | exact (uk_Mo_begin).t3 | exact t3k_Mo_load__j145 _ _ _ | exact t3k_R _ | intro _)
theorem t3k_Mo_load__j100 (ln : Nat × Nat) : T3k (M_Mo_load__j100 ln) := by
  unfold M_Mo_load__j100
  repeat' with_reducible (first | apply t3k_B | apply t3k_C | exact t3k_Mo_load__j119 _ _ _ | exact t3k_GI _ _ | exact t3k_PI (by omega) | intro _)
theorem t3k_Mo_load__j89 (ln : Nat × Nat) : T3k (M_Mo_load__j89 ln) := by
  unfold M_Mo_load__j89
  repeat' with_reducible (first | apply t3k_B | apply t3k_C | exact (uk_Mo_lookOver).t3 | exact t3k_Mo_load__j100 _ | exact t3k_GI _ _ | intro _)
theorem t3k_Mo_load_ (n0 : Nat × Nat) : T3k (M_Mo_load_ n0) := by
  unfold M_Mo_load_
  repeat' with_reducible (first | apply t3k_B | apply t3k_C | exact (uk_Mo_proto _ _ _).t3 | exact t3k_Mo_load__j89 _ | exact (uk_Mo_bad _ _).t3 | exact t3k_GI _ _ | exact t3k_PI (by omega) | intro _)
