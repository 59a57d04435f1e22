/-! Programs that leave the face's own fields alone, and the size of the output. -/
def q_Ke (b : Bool) (s s' : S1) : Prop := (∀ f i, f < 33 → f ≠ 2 → gI s' f i = gI s f i) ∧ (b = true → gI s' 95 0 = gI s 95 0)
theorem q_Ke.refl (b : Bool) (s : S1) : q_Ke b s s := ⟨fun _ _ _ _ => rfl, fun _ => rfl⟩
theorem q_Ke.trans {b : Bool} {x y z : S1} (h : q_Ke b x y) (k : q_Ke b y z) : q_Ke b x z := ⟨fun f i q r => (k.1 f i q r).trans (h.1 f i q r), fun q => (k.2 q).trans (h.2 q)⟩
def Kq (b : Bool) {α : Type} (f : M α) : Prop := ∀ s, ht f s (fun _ s' => q_Ke b s s')
theorem Kq.weak {α : Type} {f : M α} (h : Kq true f) : Kq false f := fun s => ht_mono (h s) fun _ _ k => ⟨k.1, fun z => by cases z⟩
theorem kq_R {b : Bool} {α : Type} (a : α) : Kq b (oR a) := fun s => (ht_R a s _).mpr (q_Ke.refl b s)
theorem kq_F {b : Bool} {α : Type} : Kq b (oF : M α) := fun s a s' h => by cases h
theorem kq_B {b : Bool} {α β : Type} {f : M α} {g : α → M β} (hf : Kq b f) (hg : ∀ a, Kq b (g a)) : Kq b (oB f g) := fun s => (ht_B f g s _).mpr (ht_mono (hf s) fun a s1 e => ht_mono (hg a s1) fun _ _ e2 => e.trans e2)
theorem kq_C {b : Bool} {α : Type} {c : Prop} [Decidable c] {f g : M α} (hf : Kq b f) (hg : Kq b g) : Kq b (oC c f g) := fun s => (ht_C c f g s _).mpr ⟨fun _ => hf s, fun _ => hg s⟩
theorem kq_L {b : Bool} {α β : Type} {x : α} {g : α → M β} (h : Kq b (g x)) : Kq b (oL x g) := fun s => (ht_L x g s _).mpr (h s)
theorem kq_K {b : Bool} (c : Prop) [Decidable c] : Kq b (oK c) := fun s => (ht_K c s _).mpr fun _ => q_Ke.refl b s
theorem kq_GI {b : Bool} (f : Nat) (i : Int32) : Kq b (oGI f i) := fun s => (ht_GI f i s _).mpr (q_Ke.refl b s)
theorem kq_GL {b : Bool} (f : Nat) (i : Int32) : Kq b (oGL f i) := fun s => (ht_GL f i s _).mpr (q_Ke.refl b s)
theorem kq_PI {b : Bool} {f : Nat} {i x : Int32} (h : (33 ≤ f ∨ f = 2) ∧ f ≠ 95) : Kq b (oPI f i x) := fun s => (ht_PI f i x s _).mpr ⟨fun g j q r => by
  rw [gI_sI, if_neg]
  rintro ⟨e, -⟩
  omega, fun _ => by
  rw [gI_sI, if_neg]
  rintro ⟨e, -⟩
  exact h.2 e.symm⟩
theorem kq_PI5 {i x : Int32} : Kq false (oPI 95 i x) := fun s => (ht_PI 95 i x s _).mpr ⟨fun g j q r => by
  rw [gI_sI, if_neg]
  rintro ⟨e, -⟩
  omega, fun z => by cases z⟩
theorem kq_PL {b : Bool} (f : Nat) (i : Int32) (x : Int64) : Kq b (oPL f i x) := fun s => (ht_PL f i x s _).mpr ⟨fun _ _ _ _ => rfl, fun _ => rfl⟩
theorem kq_AI {b : Bool} (a : Nat) (n i j : Int32) : Kq b (oAI a n i j) := fun s => (ht_AI a n i j s _).mpr fun _ => q_Ke.refl b s
theorem kq_AL {b : Bool} (a : Nat) (n i j : Int32) : Kq b (oAL a n i j) := fun s => (ht_ifs rfl _).mpr fun _ => q_Ke.refl b s
theorem kq_SI {b : Bool} (a : Nat) (n i j x : Int32) : Kq b (oSI a n i j x) := fun s => (ht_SI a n i j x s _).mpr fun _ => ⟨fun _ _ _ _ => rfl, fun _ => rfl⟩
theorem kq_SL {b : Bool} (a : Nat) (n i j : Int32) (x : Int64) : Kq b (oSL a n i j x) := fun s => (ht_SL a n i j x s _).mpr fun _ => ⟨fun _ _ _ _ => rfl, fun _ => rfl⟩
theorem kq_CI {b : Bool} (ra : Nat) (ia na : Int32) (rb : Nat) (ib nb sp dp n : Int32) : Kq b (oCI ra ia na rb ib nb sp dp n) := fun s => (ht_ifs (f := oCI ra ia na rb ib nb sp dp n) rfl _).mpr fun _ => ⟨fun _ _ _ _ => rfl, fun _ => rfl⟩
theorem kq_CL {b : Bool} (ra : Nat) (ia na : Int32) (rb : Nat) (ib nb sp dp n : Int32) : Kq b (oCL ra ia na rb ib nb sp dp n) := fun s => (ht_ifs (f := oCL ra ia na rb ib nb sp dp n) rfl _).mpr fun _ => ⟨fun _ _ _ _ => rfl, fun _ => rfl⟩
theorem kq_Pr {b : Bool} (r : Nat) (i : Int32) : Kq b (oPr r i) := fun s => (ht_Pr r i s _).mpr fun _ => q_Ke.refl b s
theorem kq_W {b : Bool} {σ ρ : Type} {body : σ → M (σ ⊕ ρ)} (h : ∀ x, Kq b (body x)) (x : σ) : Kq b (oW body x) := fun s => ht_W (Q := fun _ s' => q_Ke b s s') (fun _ s' => q_Ke b s s') (fun y s1 e => ht_mono (h y s1) fun z s2 e2 => by
  rcases z with z | z
  · exact e.trans e2
  · exact e.trans e2) x s (q_Ke.refl b s)
theorem kq_E {b : Bool} {α β γ : Type} {f : α → M γ} {g : β → M γ} (hf : ∀ a, Kq b (f a)) (hg : ∀ c, Kq b (g c)) (y : α ⊕ β) : Kq b (Sum.elim f g y) := by
  rcases y with y | y
  · exact hf y
  · exact hg y
