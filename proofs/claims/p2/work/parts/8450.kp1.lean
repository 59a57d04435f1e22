/-! Programs that leave the size of the output alone. -/
def Kp95 {α : Type} (f : M α) : Prop := ∀ s, ht f s (fun _ s' => gI s' 95 0 = gI s 95 0)
theorem kp_R {α : Type} (a : α) : Kp95 (oR a) := fun s => (ht_R a s _).mpr rfl
theorem kp_B {α β : Type} {f : M α} {g : α → M β} (hf : Kp95 f) (hg : ∀ a, Kp95 (g a)) : Kp95 (oB f g) := fun s => (ht_B f g s _).mpr (ht_mono (hf s) fun a s1 e => ht_mono (hg a s1) fun _ _ e2 => e2.trans e)
theorem kp_C {α : Type} {c : Prop} [Decidable c] {f g : M α} (hf : Kp95 f) (hg : Kp95 g) : Kp95 (oC c f g) := fun s => (ht_C c f g s _).mpr ⟨fun _ => hf s, fun _ => hg s⟩
theorem kp_L {α β : Type} {x : α} {g : α → M β} (h : Kp95 (g x)) : Kp95 (oL x g) := fun s => (ht_L x g s _).mpr (h s)
theorem kp_K (c : Prop) [Decidable c] : Kp95 (oK c) := fun s => (ht_K c s _).mpr fun _ => rfl
theorem kp_GI (f : Nat) (i : Int32) : Kp95 (oGI f i) := fun s => (ht_GI f i s _).mpr rfl
theorem kp_GL (f : Nat) (i : Int32) : Kp95 (oGL f i) := fun s => (ht_GL f i s _).mpr rfl
theorem kp_PI {f : Nat} {i x : Int32} (h : f ≠ 95) : Kp95 (oPI f i x) := fun s => (ht_PI f i x s _).mpr (by
  rw [gI_sI, if_neg]
  rintro ⟨e, -⟩
  exact h e.symm)
theorem kp_PL (f : Nat) (i : Int32) (x : Int64) : Kp95 (oPL f i x) := fun s => (ht_PL f i x s _).mpr rfl
theorem kp_AI (a : Nat) (n i j : Int32) : Kp95 (oAI a n i j) := fun s => (ht_AI a n i j s _).mpr fun _ => rfl
theorem kp_AL (a : Nat) (n i j : Int32) : Kp95 (oAL a n i j) := fun s => (ht_ifs rfl _).mpr fun _ => rfl
theorem kp_SI (a : Nat) (n i j x : Int32) : Kp95 (oSI a n i j x) := fun s => (ht_SI a n i j x s _).mpr fun _ => rfl
theorem ht_SL (a : Nat) (n i j : Int32) (x : Int64) (s : S1) (Q : Unit → S1 → Prop) : ht (oSL a n i j x) s Q ↔ ((0 ≤ j ∧ j < n) → Q () (sB s a i j x)) := ht_ifs rfl Q
theorem kp_SL (a : Nat) (n i j : Int32) (x : Int64) : Kp95 (oSL a n i j x) := fun s => (ht_SL a n i j x s _).mpr fun _ => rfl
theorem ht_CI (ra : Nat) (ia na : Int32) (rb : Nat) (ib nb sp dp n : Int32) (s : S1) (h : ∀ a s', oCI ra ia na rb ib nb sp dp n s = some (a, s') → gI s' 95 0 = gI s 95 0) : ht (oCI ra ia na rb ib nb sp dp n) s (fun _ s' => gI s' 95 0 = gI s 95 0) := h
theorem kp_Pr (r : Nat) (i : Int32) : Kp95 (oPr r i) := fun s => (ht_Pr r i s _).mpr fun _ => rfl
theorem kp_W {σ ρ : Type} {body : σ → M (σ ⊕ ρ)} (h : ∀ x, Kp95 (body x)) (x : σ) : Kp95 (oW body x) := fun s => ht_W (Q := fun _ s' => gI s' 95 0 = gI s 95 0) (fun _ s' => gI s' 95 0 = gI s 95 0) (fun y s1 e => ht_mono (h y s1) fun z s2 e2 => by
  rcases z with z | z
  · exact e2.trans e
  · exact e2.trans e) x s rfl
theorem kp_E {α β γ : Type} {f : α → M γ} {g : β → M γ} (hf : ∀ a, Kp95 (f a)) (hg : ∀ b, Kp95 (g b)) (y : α ⊕ β) : Kp95 (Sum.elim f g y) := by
  rcases y with y | y
  · exact hf y
  · exact hg y
