/-! The reference: its programs leave the class's state alone (roles from 100 on). -/
def Yr (s t : S1) : Prop := (∀ f i, 12800 ≤ f → gI t f i = gI s f i) ∧ (∀ f i, 12800 ≤ f → gL t f i = gL s f i) ∧ (∀ a i j, 100 ≤ a → gA t a i j = gA s a i j) ∧ ∀ a i j, 100 ≤ a → gB t a i j = gB s a i j
theorem Yr.refl (s : S1) : Yr s s := ⟨fun _ _ _ => rfl, fun _ _ _ => rfl, fun _ _ _ _ => rfl, fun _ _ _ _ => rfl⟩
theorem Yr.trans {s t u : S1} (h : Yr s t) (k : Yr t u) : Yr s u := ⟨fun f i q => (k.1 f i q).trans (h.1 f i q), fun f i q => (k.2.1 f i q).trans (h.2.1 f i q), fun a i j q => (k.2.2.1 a i j q).trans (h.2.2.1 a i j q), fun a i j q => (k.2.2.2 a i j q).trans (h.2.2.2 a i j q)⟩
def Yp {α : Type} (J : α → Prop) (f : M α) : Prop := ∀ s a t, f s = some (a, t) → Yr s t ∧ J a
def Yk {α : Type} (f : M α) : Prop := ∀ s a t, f s = some (a, t) → Yr s t
theorem Yk.p {α : Type} {f : M α} (h : Yk f) : Yp (fun _ => True) f := fun s a t e => ⟨h s a t e, trivial⟩
theorem Yp.k {α : Type} {J : α → Prop} {f : M α} (h : Yp J f) : Yk f := fun s a t e => (h s a t e).1
theorem yp_R {α : Type} {J : α → Prop} {a : α} (h : J a) : Yp J (oR a) := fun s a' t e => by
  cases e
  exact ⟨Yr.refl s, h⟩
theorem yp_B {α β : Type} {J : α → Prop} {K : β → Prop} {f : M α} {g : α → M β} (hf : Yp J f) (hg : ∀ a, J a → Yp K (g a)) : Yp K (oB f g) := fun s c t e => by
  unfold oB at e
  cases h : f s with
  | none => rw [h] at e; cases e
  | some q =>
    rw [h] at e
    obtain ⟨a, u⟩ := q
    obtain ⟨k1, k2⟩ := hf s a u h
    obtain ⟨k3, k4⟩ := hg a k2 u c t e
    exact ⟨k1.trans k3, k4⟩
theorem yp_C {α : Type} {J : α → Prop} {c : Prop} [Decidable c] {f g : M α} (hf : Yp J f) (hg : Yp J g) : Yp J (oC c f g) := fun s a t e => by
  unfold oC at e
  by_cases d : c
  · rw [if_pos d] at e
    exact hf s a t e
  · rw [if_neg d] at e
    exact hg s a t e
theorem yp_W {σ ρ : Type} {body : σ → M (σ ⊕ ρ)} {I : σ → Prop} {J : ρ → Prop} (h : ∀ x, I x → Yp (Sum.elim I J) (body x)) (x : σ) (hx : I x) : Yp J (oW body x) := fun s a t e => by
  obtain ⟨n, hn⟩ := oW_n body x s (a, t) e
  clear e
  induction n generalizing x s with
  | zero => cases hn
  | succ n ih =>
    cases hc : body x s with
    | none => simp only [oWn, hc] at hn; cases hn
    | some p =>
      obtain ⟨y, s2⟩ := p
      have w := h x hx s y s2 hc
      cases y with
      | inl y =>
        simp only [oWn, hc] at hn
        obtain ⟨k1, k2⟩ := ih y w.2 s2 hn
        exact ⟨w.1.trans k1, k2⟩
      | inr e =>
        simp only [oWn, hc] at hn
        cases hn
        exact w
theorem yk_R {α : Type} (a : α) : Yk (oR a) := (yp_R (J := fun _ => True) trivial).k
theorem yk_F {α : Type} : Yk (oF : M α) := fun s a t e => by cases e
theorem yk_B {α β : Type} {f : M α} {g : α → M β} (hf : Yk f) (hg : ∀ a, Yk (g a)) : Yk (oB f g) := (yp_B hf.p (fun a _ => (hg a).p)).k
theorem yk_C {α : Type} {c : Prop} [Decidable c] {f g : M α} (hf : Yk f) (hg : Yk g) : Yk (oC c f g) := (yp_C hf.p hg.p).k
theorem yk_L {α β : Type} {x : α} {g : α → M β} (h : Yk (g x)) : Yk (oL x g) := h
theorem yk_W {σ ρ : Type} {body : σ → M (σ ⊕ ρ)} (h : ∀ x, Yk (body x)) (x : σ) : Yk (oW body x) := (yp_W (I := fun _ => True) (J := fun _ => True) (fun x _ s a t e => ⟨h x s a t e, by cases a <;> trivial⟩) x trivial).k
theorem yk_E {α β γ : Type} {f : α → M γ} {g : β → M γ} (hf : ∀ a, Yk (f a)) (hg : ∀ c, Yk (g c)) (y : α ⊕ β) : Yk (Sum.elim f g y) := by
  rcases y with y | y
  · exact hf y
  · exact hg y
theorem yk_id {α : Type} {f : M α} (h : ∀ s a t, f s = some (a, t) → t = s) : Yk f := fun s a t e => by
  rw [h s a t e]
  exact Yr.refl s
theorem yk_K (c : Prop) [Decidable c] : Yk (oK c) := yk_id fun s a t e => ifs_st e

theorem yk_GI (f : Nat) (i : Int32) : Yk (oGI f i) := yk_id fun s a t e => by cases e; rfl
theorem yk_GL (f : Nat) (i : Int32) : Yk (oGL f i) := yk_id fun s a t e => by cases e; rfl

theorem yk_AI (a : Nat) (n i j : Int32) : Yk (oAI a n i j) := yk_id fun s x t e => ifs_st (x := (gA s a i j, s)) e
theorem yk_AL (a : Nat) (n i j : Int32) : Yk (oAL a n i j) := yk_id fun s x t e => ifs_st (x := (gB s a i j, s)) e
theorem yk_Pr (r : Nat) (i : Int32) : Yk (oPr r i) := yk_id fun s x t e => ifs_st (x := ((), s)) e


theorem yk_Nw (n : Nat × Nat) (k : Nat) : Yk (oNw n k) := yk_id fun s x t e => by
  unfold oNw at e
  exact ifs_st e
theorem yk_PI {f : Nat} {i x : Int32} (h : f < 12800) : Yk (oPI f i x) := fun s a t e => by
  cases e
  refine ⟨fun g j q => ?_, fun _ _ _ => rfl, fun _ _ _ _ => rfl, fun _ _ _ _ => rfl⟩
  rw [gI_sI, if_neg (fun y => by omega)]
theorem yk_PL {f : Nat} {i : Int32} {x : Int64} (h : f < 12800) : Yk (oPL f i x) := fun s a t e => by
  cases e
  refine ⟨fun _ _ _ => rfl, fun g j q => ?_, fun _ _ _ _ => rfl, fun _ _ _ _ => rfl⟩
  rw [gL_sL, if_neg (fun y => by omega)]
theorem yk_SI {a : Nat} {n i j x : Int32} (h : a < 100) : Yk (oSI a n i j x) := fun s y t e => by
  rw [ifs_st (x := ((), sA s a i j x)) e]
  refine ⟨fun _ _ _ => rfl, fun _ _ _ => rfl, fun g p k q => ?_, fun _ _ _ _ => rfl⟩
  show gA (sA s a i j x) g p k = _
  rw [gA_sA, if_neg (fun y => by omega)]
theorem yk_SL {a : Nat} {n i j : Int32} {x : Int64} (h : a < 100) : Yk (oSL a n i j x) := fun s y t e => by
  rw [ifs_st (x := ((), sB s a i j x)) e]
  refine ⟨fun _ _ _ => rfl, fun _ _ _ => rfl, fun _ _ _ _ => rfl, fun g p k q => ?_⟩
  show gB (sB s a i j x) g p k = _
  rw [gB_sB, if_neg (fun y => by omega)]
theorem yk_CI {ra : Nat} {ia na : Int32} {rb : Nat} {ib nb sp dp n : Int32} (h : rb < 100) : Yk (oCI ra ia na rb ib nb sp dp n) := fun s y t e => by
  rw [ifs_st (x := ((), sAf s rb ib (cpI s ra ia rb ib sp dp n))) e]
  refine ⟨fun _ _ _ => rfl, fun _ _ _ => rfl, fun g p k q => ?_, fun _ _ _ _ => rfl⟩
  show gA (sAf s rb ib (cpI s ra ia rb ib sp dp n)) g p k = _
  rw [gA_sAf, if_neg (fun y => by omega)]

theorem yk_S {f : S1 → S1} (h : ∀ s, Yr s (f s)) : Yk (oS f) := fun s a t e => by
  cases e
  exact h s
theorem yr_nwR {r : Nat} {i : Int32} {n : Nat} (h : r < 100) (s : S1) : Yr s (nwR s r i n) := by
  refine ⟨fun f j q => ?_, fun _ _ _ => rfl, fun a j k q => ?_, fun a j k q => ?_⟩
  · show (if f = 128 * r + 127 ∧ j = i then 1 else if f = 128 * r + 126 ∧ j = i then Int32.ofNat n else s.1 f j) = s.1 f j
    rw [if_neg (fun y => by omega), if_neg (fun y => by omega)]
  · show (if a = r ∧ j = i then 0 else s.2.2.1 a j k) = s.2.2.1 a j k
    rw [if_neg (fun y => by omega)]
  · show (if a = r ∧ j = i then 0 else s.2.2.2 a j k) = s.2.2.2 a j k
    rw [if_neg (fun y => by omega)]
theorem yk_Arr_rangeCheck (l0 l1 l2 : Int32) : Yk (M_Arr_rangeCheck l0 l1 l2) := by
  unfold M_Arr_rangeCheck
  exact yk_C (yk_C (yk_C (yk_R _) yk_F) yk_F) yk_F
theorem yk_Arr_fill (r : Nat) (x y : Int32) (h : r < 100) : Yk (M_Arr_fill r x y) := by
  unfold M_Arr_fill
  refine yk_L (yk_B (yp_W (I := fun x => x.1 < 100) (J := fun _ => True) (fun x hx => ?_) _ h).k (fun _ => yk_R _))
  unfold M_Arr_fill_L5
  exact yp_C (yp_R trivial) (yp_B (yk_SI hx).p fun _ _ => yp_R hx)
theorem yk_Arr_fill_ (r : Nat) (x y w v : Int32) (h : r < 100) : Yk (M_Arr_fill_ r x y w v) := by
  unfold M_Arr_fill_
  refine yk_B (yk_Arr_rangeCheck _ _ _) (fun _ => yk_B (yk_Pr _ _) (fun _ => yk_B (yp_W (I := fun x => x.1 < 100) (J := fun _ => True) (fun x hx => ?_) _ h).k (fun _ => yk_R _)))
  unfold M_Arr_fill__L10
  exact yp_C (yp_R trivial) (yp_B (yk_SI hx).p fun _ _ => yp_R hx)
theorem yk_Arr_fill__ (r : Nat) (x y w : Int32) (v : Int64) (h : r < 100) : Yk (M_Arr_fill__ r x y w v) := by
  unfold M_Arr_fill__
  refine yk_B (yk_Arr_rangeCheck _ _ _) (fun _ => yk_B (yk_Pr _ _) (fun _ => yk_B (yp_W (I := fun x => x.1 < 100) (J := fun _ => True) (fun x hx => ?_) _ h).k (fun _ => yk_R _)))
  unfold M_Arr_fill___L10
  exact yp_C (yp_R trivial) (yp_B (yk_SL hx).p fun _ _ => yp_R hx)
theorem yk_Arr_fill_____ (r : Nat) (x y w v : Int32) (h : r < 100) : Yk (M_Arr_fill_____ r x y w v) := by
  unfold M_Arr_fill_____
  refine yk_B (yk_Arr_rangeCheck _ _ _) (fun _ => yk_B (yk_Pr _ _) (fun _ => yk_B (yp_W (I := fun x => x.1 < 100) (J := fun _ => True) (fun x hx => ?_) _ h).k (fun _ => yk_R _)))
  unfold M_Arr_fill______L10
  exact yp_C (yp_R trivial) (yp_B (yk_SI hx).p fun _ _ => yp_R hx)
theorem yk_Arr_fill___ (r : Nat) (x y : Int32) (h : r < 100) : Yk (M_Arr_fill___ r x y) := by
  unfold M_Arr_fill___
  refine yk_L (yk_B (yp_W (I := fun x => x.1 < 100) (J := fun _ => True) (fun x hx => ?_) _ h).k (fun _ => yk_R _))
  unfold M_Arr_fill____L5
  exact yp_C (yp_R trivial) (yp_B (yk_SI hx).p fun _ _ => yp_R hx)
theorem yk_Arr_fill____ (r : Nat) (x y w v : Int32) (h : r < 100) : Yk (M_Arr_fill____ r x y w v) := by
  unfold M_Arr_fill____
  refine yk_B (yk_Arr_rangeCheck _ _ _) (fun _ => yk_B (yk_Pr _ _) (fun _ => yk_B (yp_W (I := fun x => x.1 < 100) (J := fun _ => True) (fun x hx => ?_) _ h).k (fun _ => yk_R _)))
  unfold M_Arr_fill_____L10
  exact yp_C (yp_R trivial) (yp_B (yk_SI hx).p fun _ _ => yp_R hx)
theorem Yr.be {s t : S1} (h : Yr s t) : Be s t := ⟨fun f j q => h.1 f j (by omega), fun f j q => h.2.1 f j q, fun a j k q => h.2.2.1 a j k q.1, fun a j k q => h.2.2.2 a j k q⟩
theorem Yr.fz {s t : S1} {n : Nat × Nat} (h : Yr s t) (z : Fz s n) : Fz t n := z.be h.be (by unfold lmR; rw [h.1 14220 0 (by omega)]; exact z.lm) (by rw [h.1 12800 0 (by omega)]; exact z.1) (fun q => by rw [h.1 12801 0 (by omega)] at q; exact q)
