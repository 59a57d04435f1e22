/-! Made by wip/l2n/kwgen.py: threads that are free stay free. -/
def Kw {α : Type} (f : M α) : Prop := ∀ s, ht f s (fun _ s' => ∀ t, gI s 3584 t < 0 → gI s' 3584 t < 0)
theorem kw_R {α : Type} (a : α) : Kw (oR a) := fun s => (ht_R a s _).mpr fun _ h => h
theorem kw_F {α : Type} : Kw (oF : M α) := fun s a s' h => by cases h
theorem kw_B {α β : Type} {f : M α} {g : α → M β} (hf : Kw f) (hg : ∀ a, Kw (g a)) : Kw (oB f g) := fun s => (ht_B f g s _).mpr (ht_mono (hf s) fun a s1 e => ht_mono (hg a s1) fun _ _ e2 t z => e2 t (e t z))
theorem kw_C {α : Type} {c : Prop} [Decidable c] {f g : M α} (hf : Kw f) (hg : Kw g) : Kw (oC c f g) := fun s => (ht_C c f g s _).mpr ⟨fun _ => hf s, fun _ => hg s⟩
theorem kw_L {α β : Type} {x : α} {g : α → M β} (h : Kw (g x)) : Kw (oL x g) := fun s => (ht_L x g s _).mpr (h s)
theorem kw_K (c : Prop) [Decidable c] : Kw (oK c) := fun s => (ht_K c s _).mpr fun _ _ h => h
theorem kw_GI (f : Nat) (i : Int32) : Kw (oGI f i) := fun s => (ht_GI f i s _).mpr fun _ h => h
theorem kw_GL (f : Nat) (i : Int32) : Kw (oGL f i) := fun s => (ht_GL f i s _).mpr fun _ h => h
theorem kw_PI {f : Nat} {i x : Int32} (h : f ≠ 3584) : Kw (oPI f i x) := fun s => (ht_PI f i x s _).mpr fun t z => by
  rw [gI_sI, if_neg]
  · exact z
  · rintro ⟨e, -⟩
    exact h e.symm
theorem kw_PI1 {i : Int32} : Kw (oPI 3584 i (-1)) := fun s => (ht_PI 3584 i (-1) s _).mpr fun t z => by
  rw [gI_sI]
  by_cases c : 3584 = 3584 ∧ t = i
  · rw [if_pos c]
    decide
  · rw [if_neg c]
    exact z
theorem kw_PL (f : Nat) (i : Int32) (x : Int64) : Kw (oPL f i x) := fun s => (ht_PL f i x s _).mpr fun _ h => h
theorem kw_AI (a : Nat) (n i j : Int32) : Kw (oAI a n i j) := fun s => (ht_AI a n i j s _).mpr fun _ _ h => h
theorem kw_AL (a : Nat) (n i j : Int32) : Kw (oAL a n i j) := fun s => (ht_ifs rfl _).mpr fun _ _ h => h
theorem kw_SI (a : Nat) (n i j x : Int32) : Kw (oSI a n i j x) := fun s => (ht_SI a n i j x s _).mpr fun _ _ h => h
theorem kw_SL (a : Nat) (n i j : Int32) (x : Int64) : Kw (oSL a n i j x) := fun s => (ht_SL a n i j x s _).mpr fun _ _ h => h
theorem kw_CI (ra : Nat) (ia na : Int32) (rb : Nat) (ib nb sp dp n : Int32) : Kw (oCI ra ia na rb ib nb sp dp n) := fun s => (ht_ifs (f := oCI ra ia na rb ib nb sp dp n) rfl _).mpr fun _ _ h => h
theorem kw_CL (ra : Nat) (ia na : Int32) (rb : Nat) (ib nb sp dp n : Int32) : Kw (oCL ra ia na rb ib nb sp dp n) := fun s => (ht_ifs (f := oCL ra ia na rb ib nb sp dp n) rfl _).mpr fun _ _ h => h
theorem kw_Pr (r : Nat) (i : Int32) : Kw (oPr r i) := fun s => (ht_Pr r i s _).mpr fun _ _ h => h
theorem kw_W {σ ρ : Type} {body : σ → M (σ ⊕ ρ)} (h : ∀ x, Kw (body x)) (x : σ) : Kw (oW body x) := fun s => ht_W (Q := fun _ s' => ∀ t, gI s 3584 t < 0 → gI s' 3584 t < 0) (fun _ s' => ∀ t, gI s 3584 t < 0 → gI s' 3584 t < 0) (fun y s1 e => ht_mono (h y s1) fun z s2 e2 => by
  rcases z with z | z
  · exact fun t w => e2 t (e t w)
  · exact fun t w => e2 t (e t w)) x s (fun _ h => h)
theorem kw_E {α β γ : Type} {f : α → M γ} {g : β → M γ} (hf : ∀ a, Kw (f a)) (hg : ∀ c, Kw (g c)) (y : α ⊕ β) : Kw (Sum.elim f g y) := by
  rcases y with y | y
  · exact hf y
  · exact hg y
theorem kw_Arr_rangeCheck (l0 : Int32) (l1 : Int32) (l2 : Int32) : Kw (M_Arr_rangeCheck l0 l1 l2) := by
  unfold M_Arr_rangeCheck
  repeat' (first | with_reducible (first | apply kw_B | apply kw_C | exact kw_R _ | exact kw_GI _ _ | exact kw_GL _ _ | exact kw_PL _ _ _ | exact kw_AI _ _ _ _ | exact kw_AL _ _ _ _ | exact kw_SI _ _ _ _ _ | exact kw_SL _ _ _ _ _ | exact kw_K _ | exact kw_Pr _ _ | exact kw_F | exact kw_CI _ _ _ _ _ _ _ _ _ | exact kw_CL _ _ _ _ _ _ _ _ _ | apply kw_L | apply kw_W | exact kw_PI1 | (refine kw_PI ?_) | apply kw_E | intro _) | omega)
theorem kw_Mth_floorMod (l0 : Int64) (l2 : Int64) : Kw (M_Mth_floorMod l0 l2) := by
  unfold M_Mth_floorMod
  repeat' (first | with_reducible (first | apply kw_B | apply kw_C | exact kw_R _ | exact kw_GI _ _ | exact kw_GL _ _ | exact kw_PL _ _ _ | exact kw_AI _ _ _ _ | exact kw_AL _ _ _ _ | exact kw_SI _ _ _ _ _ | exact kw_SL _ _ _ _ _ | exact kw_K _ | exact kw_Pr _ _ | exact kw_F | exact kw_CI _ _ _ _ _ _ _ _ _ | exact kw_CL _ _ _ _ _ _ _ _ _ | apply kw_L | apply kw_W | exact kw_PI1 | (refine kw_PI ?_) | apply kw_E | intro _) | omega)
theorem kw_Va_set (l0r : Nat) (l0 : Int32) (l1 : Int32) (l2 : Int32) (l3 : Int64) : Kw (M_Va_set l0r l0 l1 l2 l3) := by
  unfold M_Va_set
  repeat' (first | with_reducible (first | apply kw_B | apply kw_C | exact kw_R _ | exact kw_GI _ _ | exact kw_GL _ _ | exact kw_PL _ _ _ | exact kw_AI _ _ _ _ | exact kw_AL _ _ _ _ | exact kw_SI _ _ _ _ _ | exact kw_SL _ _ _ _ _ | exact kw_K _ | exact kw_Pr _ _ | exact kw_F | exact kw_CI _ _ _ _ _ _ _ _ _ | exact kw_CL _ _ _ _ _ _ _ _ _ | apply kw_L | apply kw_W | exact kw_PI1 | (refine kw_PI ?_) | apply kw_E | intro _) | omega)
theorem kw_Mo_raise_j23 (k0 : Int32) : Kw (M_Mo_raise_j23 k0) := by
  unfold M_Mo_raise_j23
  repeat' (first | with_reducible (first | apply kw_B | apply kw_C | exact kw_R _ | exact kw_GI _ _ | exact kw_GL _ _ | exact kw_PL _ _ _ | exact kw_AI _ _ _ _ | exact kw_AL _ _ _ _ | exact kw_SI _ _ _ _ _ | exact kw_SL _ _ _ _ _ | exact kw_K _ | exact kw_Pr _ _ | exact kw_F | exact kw_CI _ _ _ _ _ _ _ _ _ | exact kw_CL _ _ _ _ _ _ _ _ _ | apply kw_L | apply kw_W | exact kw_PI1 | (refine kw_PI ?_) | apply kw_E | intro _) | omega)
theorem kw_Mo_raise (l1 : Int32) : Kw (M_Mo_raise l1) := by
  unfold M_Mo_raise
  repeat' (first | with_reducible (first | apply kw_B | apply kw_C | exact kw_Mo_raise_j23 _ | exact kw_R _ | exact kw_GI _ _ | exact kw_GL _ _ | exact kw_PL _ _ _ | exact kw_AI _ _ _ _ | exact kw_AL _ _ _ _ | exact kw_SI _ _ _ _ _ | exact kw_SL _ _ _ _ _ | exact kw_K _ | exact kw_Pr _ _ | exact kw_F | exact kw_CI _ _ _ _ _ _ _ _ _ | exact kw_CL _ _ _ _ _ _ _ _ _ | apply kw_L | apply kw_W | exact kw_PI1 | (refine kw_PI ?_) | apply kw_E | intro _) | omega)
theorem kw_Arr_fill_____L10 (x) : Kw (M_Arr_fill_____L10 x) := by
  unfold M_Arr_fill_____L10
  repeat' (first | with_reducible (first | apply kw_B | apply kw_C | exact kw_R _ | exact kw_GI _ _ | exact kw_GL _ _ | exact kw_PL _ _ _ | exact kw_AI _ _ _ _ | exact kw_AL _ _ _ _ | exact kw_SI _ _ _ _ _ | exact kw_SL _ _ _ _ _ | exact kw_K _ | exact kw_Pr _ _ | exact kw_F | exact kw_CI _ _ _ _ _ _ _ _ _ | exact kw_CL _ _ _ _ _ _ _ _ _ | apply kw_L | apply kw_W | exact kw_PI1 | (refine kw_PI ?_) | apply kw_E | intro _) | omega)
theorem kw_Arr_fill____ (l0r : Nat) (l0 : Int32) (l1 : Int32) (l2 : Int32) (l3 : Int32) : Kw (M_Arr_fill____ l0r l0 l1 l2 l3) := by
  unfold M_Arr_fill____
  repeat' (first | with_reducible (first | apply kw_B | apply kw_C | exact kw_Arr_rangeCheck _ _ _ | exact kw_Arr_fill_____L10 _ | exact kw_R _ | exact kw_GI _ _ | exact kw_GL _ _ | exact kw_PL _ _ _ | exact kw_AI _ _ _ _ | exact kw_AL _ _ _ _ | exact kw_SI _ _ _ _ _ | exact kw_SL _ _ _ _ _ | exact kw_K _ | exact kw_Pr _ _ | exact kw_F | exact kw_CI _ _ _ _ _ _ _ _ _ | exact kw_CL _ _ _ _ _ _ _ _ _ | apply kw_L | apply kw_W | exact kw_PI1 | (refine kw_PI ?_) | apply kw_E | intro _) | omega)
theorem kw_Mo_place (l1 : Int32) : Kw (M_Mo_place l1) := by
  unfold M_Mo_place
  repeat' (first | with_reducible (first | apply kw_B | apply kw_C | exact kw_R _ | exact kw_GI _ _ | exact kw_GL _ _ | exact kw_PL _ _ _ | exact kw_AI _ _ _ _ | exact kw_AL _ _ _ _ | exact kw_SI _ _ _ _ _ | exact kw_SL _ _ _ _ _ | exact kw_K _ | exact kw_Pr _ _ | exact kw_F | exact kw_CI _ _ _ _ _ _ _ _ _ | exact kw_CL _ _ _ _ _ _ _ _ _ | apply kw_L | apply kw_W | exact kw_PI1 | (refine kw_PI ?_) | apply kw_E | intro _) | omega)
theorem kw_Mo_mark_j18 (l2 : Int64) : Kw (M_Mo_mark_j18 l2) := by
  unfold M_Mo_mark_j18
  repeat' (first | with_reducible (first | apply kw_B | apply kw_C | exact kw_Mo_place _ | exact kw_R _ | exact kw_GI _ _ | exact kw_GL _ _ | exact kw_PL _ _ _ | exact kw_AI _ _ _ _ | exact kw_AL _ _ _ _ | exact kw_SI _ _ _ _ _ | exact kw_SL _ _ _ _ _ | exact kw_K _ | exact kw_Pr _ _ | exact kw_F | exact kw_CI _ _ _ _ _ _ _ _ _ | exact kw_CL _ _ _ _ _ _ _ _ _ | apply kw_L | apply kw_W | exact kw_PI1 | (refine kw_PI ?_) | apply kw_E | intro _) | omega)
theorem kw_Mo_mark (l1 : Int32) (l2 : Int64) : Kw (M_Mo_mark l1 l2) := by
  unfold M_Mo_mark
  repeat' (first | with_reducible (first | apply kw_B | apply kw_C | exact kw_Mo_mark_j18 _ | exact kw_R _ | exact kw_GI _ _ | exact kw_GL _ _ | exact kw_PL _ _ _ | exact kw_AI _ _ _ _ | exact kw_AL _ _ _ _ | exact kw_SI _ _ _ _ _ | exact kw_SL _ _ _ _ _ | exact kw_K _ | exact kw_Pr _ _ | exact kw_F | exact kw_CI _ _ _ _ _ _ _ _ _ | exact kw_CL _ _ _ _ _ _ _ _ _ | apply kw_L | apply kw_W | exact kw_PI1 | (refine kw_PI ?_) | apply kw_E | intro _) | omega)
theorem kw_Mo_load (l1 : Int32) : Kw (M_Mo_load l1) := by
  unfold M_Mo_load
  repeat' (first | with_reducible (first | apply kw_B | apply kw_C | exact kw_R _ | exact kw_GI _ _ | exact kw_GL _ _ | exact kw_PL _ _ _ | exact kw_AI _ _ _ _ | exact kw_AL _ _ _ _ | exact kw_SI _ _ _ _ _ | exact kw_SL _ _ _ _ _ | exact kw_K _ | exact kw_Pr _ _ | exact kw_F | exact kw_CI _ _ _ _ _ _ _ _ _ | exact kw_CL _ _ _ _ _ _ _ _ _ | apply kw_L | apply kw_W | exact kw_PI1 | (refine kw_PI ?_) | apply kw_E | intro _) | omega)
theorem kw_Mo_closeVariable (l1 : Int32) : Kw (M_Mo_closeVariable l1) := by
  unfold M_Mo_closeVariable
  repeat' (first | with_reducible (first | apply kw_B | apply kw_C | exact kw_Mo_load _ | exact kw_Va_set _ _ _ _ _ | exact kw_R _ | exact kw_GI _ _ | exact kw_GL _ _ | exact kw_PL _ _ _ | exact kw_AI _ _ _ _ | exact kw_AL _ _ _ _ | exact kw_SI _ _ _ _ _ | exact kw_SL _ _ _ _ _ | exact kw_K _ | exact kw_Pr _ _ | exact kw_F | exact kw_CI _ _ _ _ _ _ _ _ _ | exact kw_CL _ _ _ _ _ _ _ _ _ | apply kw_L | apply kw_W | exact kw_PI1 | (refine kw_PI ?_) | apply kw_E | intro _) | omega)
theorem kw_Mo_hash_L6 (x) : Kw (M_Mo_hash_L6 x) := by
  unfold M_Mo_hash_L6
  repeat' (first | with_reducible (first | apply kw_B | apply kw_C | exact kw_R _ | exact kw_GI _ _ | exact kw_GL _ _ | exact kw_PL _ _ _ | exact kw_AI _ _ _ _ | exact kw_AL _ _ _ _ | exact kw_SI _ _ _ _ _ | exact kw_SL _ _ _ _ _ | exact kw_K _ | exact kw_Pr _ _ | exact kw_F | exact kw_CI _ _ _ _ _ _ _ _ _ | exact kw_CL _ _ _ _ _ _ _ _ _ | apply kw_L | apply kw_W | exact kw_PI1 | (refine kw_PI ?_) | apply kw_E | intro _) | omega)
theorem kw_Mo_hash (l1r : Nat) (l1 : Int32) (l2 : Int32) (l3 : Int32) : Kw (M_Mo_hash l1r l1 l2 l3) := by
  unfold M_Mo_hash
  repeat' (first | with_reducible (first | apply kw_B | apply kw_C | exact kw_Mo_hash_L6 _ | exact kw_R _ | exact kw_GI _ _ | exact kw_GL _ _ | exact kw_PL _ _ _ | exact kw_AI _ _ _ _ | exact kw_AL _ _ _ _ | exact kw_SI _ _ _ _ _ | exact kw_SL _ _ _ _ _ | exact kw_K _ | exact kw_Pr _ _ | exact kw_F | exact kw_CI _ _ _ _ _ _ _ _ _ | exact kw_CL _ _ _ _ _ _ _ _ _ | apply kw_L | apply kw_W | exact kw_PI1 | (refine kw_PI ?_) | apply kw_E | intro _) | omega)
theorem kw_Mo_forget_j41 (l1 : Int32) (l2 : Int32) (l3 : Int32) (l4 : Int32) : Kw (M_Mo_forget_j41 l1 l2 l3 l4) := by
  unfold M_Mo_forget_j41
  repeat' (first | with_reducible (first | apply kw_B | apply kw_C | exact kw_R _ | exact kw_GI _ _ | exact kw_GL _ _ | exact kw_PL _ _ _ | exact kw_AI _ _ _ _ | exact kw_AL _ _ _ _ | exact kw_SI _ _ _ _ _ | exact kw_SL _ _ _ _ _ | exact kw_K _ | exact kw_Pr _ _ | exact kw_F | exact kw_CI _ _ _ _ _ _ _ _ _ | exact kw_CL _ _ _ _ _ _ _ _ _ | apply kw_L | apply kw_W | exact kw_PI1 | (refine kw_PI ?_) | apply kw_E | intro _) | omega)
theorem kw_Mo_forget_L5 (x) : Kw (M_Mo_forget_L5 x) := by
  unfold M_Mo_forget_L5
  repeat' (first | with_reducible (first | apply kw_B | apply kw_C | exact kw_Mo_forget_j41 _ _ _ _ | exact kw_R _ | exact kw_GI _ _ | exact kw_GL _ _ | exact kw_PL _ _ _ | exact kw_AI _ _ _ _ | exact kw_AL _ _ _ _ | exact kw_SI _ _ _ _ _ | exact kw_SL _ _ _ _ _ | exact kw_K _ | exact kw_Pr _ _ | exact kw_F | exact kw_CI _ _ _ _ _ _ _ _ _ | exact kw_CL _ _ _ _ _ _ _ _ _ | apply kw_L | apply kw_W | exact kw_PI1 | (refine kw_PI ?_) | apply kw_E | intro _) | omega)
theorem kw_Mo_forget (l1 : Int32) (l2 : Int32) : Kw (M_Mo_forget l1 l2) := by
  unfold M_Mo_forget
  repeat' (first | with_reducible (first | apply kw_B | apply kw_C | exact kw_Mo_forget_L5 _ | exact kw_R _ | exact kw_GI _ _ | exact kw_GL _ _ | exact kw_PL _ _ _ | exact kw_AI _ _ _ _ | exact kw_AL _ _ _ _ | exact kw_SI _ _ _ _ _ | exact kw_SL _ _ _ _ _ | exact kw_K _ | exact kw_Pr _ _ | exact kw_F | exact kw_CI _ _ _ _ _ _ _ _ _ | exact kw_CL _ _ _ _ _ _ _ _ _ | apply kw_L | apply kw_W | exact kw_PI1 | (refine kw_PI ?_) | apply kw_E | intro _) | omega)
theorem kw_Mo_object_j37 (l1 : Int32) (k0 : Int32) : Kw (M_Mo_object_j37 l1 k0) := by
  unfold M_Mo_object_j37
  repeat' (first | with_reducible (first | apply kw_B | apply kw_C | exact kw_R _ | exact kw_GI _ _ | exact kw_GL _ _ | exact kw_PL _ _ _ | exact kw_AI _ _ _ _ | exact kw_AL _ _ _ _ | exact kw_SI _ _ _ _ _ | exact kw_SL _ _ _ _ _ | exact kw_K _ | exact kw_Pr _ _ | exact kw_F | exact kw_CI _ _ _ _ _ _ _ _ _ | exact kw_CL _ _ _ _ _ _ _ _ _ | apply kw_L | apply kw_W | exact kw_PI1 | (refine kw_PI ?_) | apply kw_E | intro _) | omega)
theorem kw_Mo_object (l1 : Int32) : Kw (M_Mo_object l1) := by
  unfold M_Mo_object
  repeat' (first | with_reducible (first | apply kw_B | apply kw_C | exact kw_Mo_object_j37 _ _ | exact kw_R _ | exact kw_GI _ _ | exact kw_GL _ _ | exact kw_PL _ _ _ | exact kw_AI _ _ _ _ | exact kw_AL _ _ _ _ | exact kw_SI _ _ _ _ _ | exact kw_SL _ _ _ _ _ | exact kw_K _ | exact kw_Pr _ _ | exact kw_F | exact kw_CI _ _ _ _ _ _ _ _ _ | exact kw_CL _ _ _ _ _ _ _ _ _ | apply kw_L | apply kw_W | exact kw_PI1 | (refine kw_PI ?_) | apply kw_E | intro _) | omega)
theorem kw_Mo_slot (l1 : Int32) (l2 : Int32) (l3 : Int64) : Kw (M_Mo_slot l1 l2 l3) := by
  unfold M_Mo_slot
  repeat' (first | with_reducible (first | apply kw_B | apply kw_C | exact kw_Mth_floorMod _ _ | exact kw_R _ | exact kw_GI _ _ | exact kw_GL _ _ | exact kw_PL _ _ _ | exact kw_AI _ _ _ _ | exact kw_AL _ _ _ _ | exact kw_SI _ _ _ _ _ | exact kw_SL _ _ _ _ _ | exact kw_K _ | exact kw_Pr _ _ | exact kw_F | exact kw_CI _ _ _ _ _ _ _ _ _ | exact kw_CL _ _ _ _ _ _ _ _ _ | apply kw_L | apply kw_W | exact kw_PI1 | (refine kw_PI ?_) | apply kw_E | intro _) | omega)
theorem kw_Mo_append (l1 : Int32) (l2 : Int32) (l3 : Int64) (l5 : Int32) (l6 : Int64) : Kw (M_Mo_append l1 l2 l3 l5 l6) := by
  unfold M_Mo_append
  repeat' (first | with_reducible (first | apply kw_B | apply kw_C | exact kw_Mo_slot _ _ _ | exact kw_R _ | exact kw_GI _ _ | exact kw_GL _ _ | exact kw_PL _ _ _ | exact kw_AI _ _ _ _ | exact kw_AL _ _ _ _ | exact kw_SI _ _ _ _ _ | exact kw_SL _ _ _ _ _ | exact kw_K _ | exact kw_Pr _ _ | exact kw_F | exact kw_CI _ _ _ _ _ _ _ _ _ | exact kw_CL _ _ _ _ _ _ _ _ _ | apply kw_L | apply kw_W | exact kw_PI1 | (refine kw_PI ?_) | apply kw_E | intro _) | omega)
theorem kw_Va_add (l0r : Nat) (l0 : Int32) (l1 : Int32) (l2 : Int64) : Kw (M_Va_add l0r l0 l1 l2) := by
  unfold M_Va_add
  repeat' (first | with_reducible (first | apply kw_B | apply kw_C | exact kw_R _ | exact kw_GI _ _ | exact kw_GL _ _ | exact kw_PL _ _ _ | exact kw_AI _ _ _ _ | exact kw_AL _ _ _ _ | exact kw_SI _ _ _ _ _ | exact kw_SL _ _ _ _ _ | exact kw_K _ | exact kw_Pr _ _ | exact kw_F | exact kw_CI _ _ _ _ _ _ _ _ _ | exact kw_CL _ _ _ _ _ _ _ _ _ | apply kw_L | apply kw_W | exact kw_PI1 | (refine kw_PI ?_) | apply kw_E | intro _) | omega)
theorem kw_Arr_fill______L10 (x) : Kw (M_Arr_fill______L10 x) := by
  unfold M_Arr_fill______L10
  repeat' (first | with_reducible (first | apply kw_B | apply kw_C | exact kw_R _ | exact kw_GI _ _ | exact kw_GL _ _ | exact kw_PL _ _ _ | exact kw_AI _ _ _ _ | exact kw_AL _ _ _ _ | exact kw_SI _ _ _ _ _ | exact kw_SL _ _ _ _ _ | exact kw_K _ | exact kw_Pr _ _ | exact kw_F | exact kw_CI _ _ _ _ _ _ _ _ _ | exact kw_CL _ _ _ _ _ _ _ _ _ | apply kw_L | apply kw_W | exact kw_PI1 | (refine kw_PI ?_) | apply kw_E | intro _) | omega)
theorem kw_Arr_fill_____ (l0r : Nat) (l0 : Int32) (l1 : Int32) (l2 : Int32) (l3 : Int32) : Kw (M_Arr_fill_____ l0r l0 l1 l2 l3) := by
  unfold M_Arr_fill_____
  repeat' (first | with_reducible (first | apply kw_B | apply kw_C | exact kw_Arr_rangeCheck _ _ _ | exact kw_Arr_fill______L10 _ | exact kw_R _ | exact kw_GI _ _ | exact kw_GL _ _ | exact kw_PL _ _ _ | exact kw_AI _ _ _ _ | exact kw_AL _ _ _ _ | exact kw_SI _ _ _ _ _ | exact kw_SL _ _ _ _ _ | exact kw_K _ | exact kw_Pr _ _ | exact kw_F | exact kw_CI _ _ _ _ _ _ _ _ _ | exact kw_CL _ _ _ _ _ _ _ _ _ | apply kw_L | apply kw_W | exact kw_PI1 | (refine kw_PI ?_) | apply kw_E | intro _) | omega)
theorem kw_Mo_markRow_L3 (x) : Kw (M_Mo_markRow_L3 x) := by
  unfold M_Mo_markRow_L3
  repeat' (first | with_reducible (first | apply kw_B | apply kw_C | exact kw_Mo_mark _ _ | exact kw_R _ | exact kw_GI _ _ | exact kw_GL _ _ | exact kw_PL _ _ _ | exact kw_AI _ _ _ _ | exact kw_AL _ _ _ _ | exact kw_SI _ _ _ _ _ | exact kw_SL _ _ _ _ _ | exact kw_K _ | exact kw_Pr _ _ | exact kw_F | exact kw_CI _ _ _ _ _ _ _ _ _ | exact kw_CL _ _ _ _ _ _ _ _ _ | apply kw_L | apply kw_W | exact kw_PI1 | (refine kw_PI ?_) | apply kw_E | intro _) | omega)
theorem kw_Mo_markRow (l1r : Nat) (l1 : Int32) (l2 : Int32) (l3 : Int32) : Kw (M_Mo_markRow l1r l1 l2 l3) := by
  unfold M_Mo_markRow
  repeat' (first | with_reducible (first | apply kw_B | apply kw_C | exact kw_Mo_markRow_L3 _ | exact kw_R _ | exact kw_GI _ _ | exact kw_GL _ _ | exact kw_PL _ _ _ | exact kw_AI _ _ _ _ | exact kw_AL _ _ _ _ | exact kw_SI _ _ _ _ _ | exact kw_SL _ _ _ _ _ | exact kw_K _ | exact kw_Pr _ _ | exact kw_F | exact kw_CI _ _ _ _ _ _ _ _ _ | exact kw_CL _ _ _ _ _ _ _ _ _ | apply kw_L | apply kw_W | exact kw_PI1 | (refine kw_PI ?_) | apply kw_E | intro _) | omega)
theorem kw_Th_reach_j126 (l0 : Int32) (l2 : Int32) : Kw (M_Th_reach_j126 l0 l2) := by
  unfold M_Th_reach_j126
  repeat' (first | with_reducible (first | apply kw_B | apply kw_C | exact kw_R _ | exact kw_GI _ _ | exact kw_GL _ _ | exact kw_PL _ _ _ | exact kw_AI _ _ _ _ | exact kw_AL _ _ _ _ | exact kw_SI _ _ _ _ _ | exact kw_SL _ _ _ _ _ | exact kw_K _ | exact kw_Pr _ _ | exact kw_F | exact kw_CI _ _ _ _ _ _ _ _ _ | exact kw_CL _ _ _ _ _ _ _ _ _ | apply kw_L | apply kw_W | exact kw_PI1 | (refine kw_PI ?_) | apply kw_E | intro _) | omega)
theorem kw_Th_reach_j45 (l0 : Int32) (l2 : Int32) : Kw (M_Th_reach_j45 l0 l2) := by
  unfold M_Th_reach_j45
  repeat' (first | with_reducible (first | apply kw_B | apply kw_C | exact kw_Mo_markRow _ _ _ _ | exact kw_Th_reach_j126 _ _ | exact kw_R _ | exact kw_GI _ _ | exact kw_GL _ _ | exact kw_PL _ _ _ | exact kw_AI _ _ _ _ | exact kw_AL _ _ _ _ | exact kw_SI _ _ _ _ _ | exact kw_SL _ _ _ _ _ | exact kw_K _ | exact kw_Pr _ _ | exact kw_F | exact kw_CI _ _ _ _ _ _ _ _ _ | exact kw_CL _ _ _ _ _ _ _ _ _ | apply kw_L | apply kw_W | exact kw_PI1 | (refine kw_PI ?_) | apply kw_E | intro _) | omega)
theorem kw_Th_reach_L18 (x) : Kw (M_Th_reach_L18 x) := by
  unfold M_Th_reach_L18
  repeat' (first | with_reducible (first | apply kw_B | apply kw_C | exact kw_Th_reach_j45 _ _ | exact kw_Mo_place _ | exact kw_R _ | exact kw_GI _ _ | exact kw_GL _ _ | exact kw_PL _ _ _ | exact kw_AI _ _ _ _ | exact kw_AL _ _ _ _ | exact kw_SI _ _ _ _ _ | exact kw_SL _ _ _ _ _ | exact kw_K _ | exact kw_Pr _ _ | exact kw_F | exact kw_CI _ _ _ _ _ _ _ _ _ | exact kw_CL _ _ _ _ _ _ _ _ _ | apply kw_L | apply kw_W | exact kw_PI1 | (refine kw_PI ?_) | apply kw_E | intro _) | omega)
theorem kw_Th_reach_L134 (x) : Kw (M_Th_reach_L134 x) := by
  unfold M_Th_reach_L134
  repeat' (first | with_reducible (first | apply kw_B | apply kw_C | exact kw_Mo_place _ | exact kw_R _ | exact kw_GI _ _ | exact kw_GL _ _ | exact kw_PL _ _ _ | exact kw_AI _ _ _ _ | exact kw_AL _ _ _ _ | exact kw_SI _ _ _ _ _ | exact kw_SL _ _ _ _ _ | exact kw_K _ | exact kw_Pr _ _ | exact kw_F | exact kw_CI _ _ _ _ _ _ _ _ _ | exact kw_CL _ _ _ _ _ _ _ _ _ | apply kw_L | apply kw_W | exact kw_PI1 | (refine kw_PI ?_) | apply kw_E | intro _) | omega)
theorem kw_Th_reach (l0 : Int32) : Kw (M_Th_reach l0) := by
  unfold M_Th_reach
  repeat' (first | with_reducible (first | apply kw_B | apply kw_C | exact kw_Mo_markRow _ _ _ _ | exact kw_Th_reach_L18 _ | exact kw_Th_reach_L134 _ | exact kw_R _ | exact kw_GI _ _ | exact kw_GL _ _ | exact kw_PL _ _ _ | exact kw_AI _ _ _ _ | exact kw_AL _ _ _ _ | exact kw_SI _ _ _ _ _ | exact kw_SL _ _ _ _ _ | exact kw_K _ | exact kw_Pr _ _ | exact kw_F | exact kw_CI _ _ _ _ _ _ _ _ _ | exact kw_CL _ _ _ _ _ _ _ _ _ | apply kw_L | apply kw_W | exact kw_PI1 | (refine kw_PI ?_) | apply kw_E | intro _) | omega)
theorem kw_Mo_threadGoes_L2 (x) : Kw (M_Mo_threadGoes_L2 x) := by
  unfold M_Mo_threadGoes_L2
  repeat' (first | with_reducible (first | apply kw_B | apply kw_C | exact kw_Mo_closeVariable _ | exact kw_R _ | exact kw_GI _ _ | exact kw_GL _ _ | exact kw_PL _ _ _ | exact kw_AI _ _ _ _ | exact kw_AL _ _ _ _ | exact kw_SI _ _ _ _ _ | exact kw_SL _ _ _ _ _ | exact kw_K _ | exact kw_Pr _ _ | exact kw_F | exact kw_CI _ _ _ _ _ _ _ _ _ | exact kw_CL _ _ _ _ _ _ _ _ _ | apply kw_L | apply kw_W | exact kw_PI1 | (refine kw_PI ?_) | apply kw_E | intro _) | omega)
theorem kw_Mo_threadGoes (l1 : Int32) : Kw (M_Mo_threadGoes l1) := by
  unfold M_Mo_threadGoes
  repeat' (first | with_reducible (first | apply kw_B | apply kw_C | exact kw_Mo_threadGoes_L2 _ | exact kw_R _ | exact kw_GI _ _ | exact kw_GL _ _ | exact kw_PL _ _ _ | exact kw_AI _ _ _ _ | exact kw_AL _ _ _ _ | exact kw_SI _ _ _ _ _ | exact kw_SL _ _ _ _ _ | exact kw_K _ | exact kw_Pr _ _ | exact kw_F | exact kw_CI _ _ _ _ _ _ _ _ _ | exact kw_CL _ _ _ _ _ _ _ _ _ | apply kw_L | apply kw_W | exact kw_PI1 | (refine kw_PI ?_) | apply kw_E | intro _) | omega)
theorem kw_Mo_unchain_L48 (x) : Kw (M_Mo_unchain_L48 x) := by
  unfold M_Mo_unchain_L48
  repeat' (first | with_reducible (first | apply kw_B | apply kw_C | exact kw_R _ | exact kw_GI _ _ | exact kw_GL _ _ | exact kw_PL _ _ _ | exact kw_AI _ _ _ _ | exact kw_AL _ _ _ _ | exact kw_SI _ _ _ _ _ | exact kw_SL _ _ _ _ _ | exact kw_K _ | exact kw_Pr _ _ | exact kw_F | exact kw_CI _ _ _ _ _ _ _ _ _ | exact kw_CL _ _ _ _ _ _ _ _ _ | apply kw_L | apply kw_W | exact kw_PI1 | (refine kw_PI ?_) | apply kw_E | intro _) | omega)
theorem kw_Mo_unchain (l1 : Int32) : Kw (M_Mo_unchain l1) := by
  unfold M_Mo_unchain
  repeat' (first | with_reducible (first | apply kw_B | apply kw_C | exact kw_Mo_hash _ _ _ _ | exact kw_Mo_unchain_L48 _ | exact kw_R _ | exact kw_GI _ _ | exact kw_GL _ _ | exact kw_PL _ _ _ | exact kw_AI _ _ _ _ | exact kw_AL _ _ _ _ | exact kw_SI _ _ _ _ _ | exact kw_SL _ _ _ _ _ | exact kw_K _ | exact kw_Pr _ _ | exact kw_F | exact kw_CI _ _ _ _ _ _ _ _ _ | exact kw_CL _ _ _ _ _ _ _ _ _ | apply kw_L | apply kw_W | exact kw_PI1 | (refine kw_PI ?_) | apply kw_E | intro _) | omega)
theorem kw_Mo_entry_j91 (l1 : Int32) (l2 : Int32) (l3 : Int64) (l5 : Int32) : Kw (M_Mo_entry_j91 l1 l2 l3 l5) := by
  unfold M_Mo_entry_j91
  repeat' (first | with_reducible (first | apply kw_B | apply kw_C | exact kw_R _ | exact kw_GI _ _ | exact kw_GL _ _ | exact kw_PL _ _ _ | exact kw_AI _ _ _ _ | exact kw_AL _ _ _ _ | exact kw_SI _ _ _ _ _ | exact kw_SL _ _ _ _ _ | exact kw_K _ | exact kw_Pr _ _ | exact kw_F | exact kw_CI _ _ _ _ _ _ _ _ _ | exact kw_CL _ _ _ _ _ _ _ _ _ | apply kw_L | apply kw_W | exact kw_PI1 | (refine kw_PI ?_) | apply kw_E | intro _) | omega)
theorem kw_Mo_entry_L39 (x) : Kw (M_Mo_entry_L39 x) := by
  unfold M_Mo_entry_L39
  repeat' (first | with_reducible (first | apply kw_B | apply kw_C | exact kw_Mo_entry_j91 _ _ _ _ | exact kw_R _ | exact kw_GI _ _ | exact kw_GL _ _ | exact kw_PL _ _ _ | exact kw_AI _ _ _ _ | exact kw_AL _ _ _ _ | exact kw_SI _ _ _ _ _ | exact kw_SL _ _ _ _ _ | exact kw_K _ | exact kw_Pr _ _ | exact kw_F | exact kw_CI _ _ _ _ _ _ _ _ _ | exact kw_CL _ _ _ _ _ _ _ _ _ | apply kw_L | apply kw_W | exact kw_PI1 | (refine kw_PI ?_) | apply kw_E | intro _) | omega)
theorem kw_Mo_entry (l1 : Int32) (l2 : Int32) (l3 : Int64) : Kw (M_Mo_entry l1 l2 l3) := by
  unfold M_Mo_entry
  repeat' (first | with_reducible (first | apply kw_B | apply kw_C | exact kw_Mo_slot _ _ _ | exact kw_Mo_entry_L39 _ | exact kw_R _ | exact kw_GI _ _ | exact kw_GL _ _ | exact kw_PL _ _ _ | exact kw_AI _ _ _ _ | exact kw_AL _ _ _ _ | exact kw_SI _ _ _ _ _ | exact kw_SL _ _ _ _ _ | exact kw_K _ | exact kw_Pr _ _ | exact kw_F | exact kw_CI _ _ _ _ _ _ _ _ _ | exact kw_CL _ _ _ _ _ _ _ _ _ | apply kw_L | apply kw_W | exact kw_PI1 | (refine kw_PI ?_) | apply kw_E | intro _) | omega)
theorem kw_Mo_move_j117 (l1 : Int32) (l4 : Int32) (l5 : Int32) (l6 : Int32) : Kw (M_Mo_move_j117 l1 l4 l5 l6) := by
  unfold M_Mo_move_j117
  repeat' (first | with_reducible (first | apply kw_B | apply kw_C | exact kw_R _ | exact kw_GI _ _ | exact kw_GL _ _ | exact kw_PL _ _ _ | exact kw_AI _ _ _ _ | exact kw_AL _ _ _ _ | exact kw_SI _ _ _ _ _ | exact kw_SL _ _ _ _ _ | exact kw_K _ | exact kw_Pr _ _ | exact kw_F | exact kw_CI _ _ _ _ _ _ _ _ _ | exact kw_CL _ _ _ _ _ _ _ _ _ | apply kw_L | apply kw_W | exact kw_PI1 | (refine kw_PI ?_) | apply kw_E | intro _) | omega)
theorem kw_Mo_move_L52 (x) : Kw (M_Mo_move_L52 x) := by
  unfold M_Mo_move_L52
  repeat' (first | with_reducible (first | apply kw_B | apply kw_C | exact kw_Mo_move_j117 _ _ _ _ | exact kw_Mo_append _ _ _ _ _ | exact kw_R _ | exact kw_GI _ _ | exact kw_GL _ _ | exact kw_PL _ _ _ | exact kw_AI _ _ _ _ | exact kw_AL _ _ _ _ | exact kw_SI _ _ _ _ _ | exact kw_SL _ _ _ _ _ | exact kw_K _ | exact kw_Pr _ _ | exact kw_F | exact kw_CI _ _ _ _ _ _ _ _ _ | exact kw_CL _ _ _ _ _ _ _ _ _ | apply kw_L | apply kw_W | exact kw_PI1 | (refine kw_PI ?_) | apply kw_E | intro _) | omega)
theorem kw_Mo_move (l1 : Int32) (l2 : Int32) (l3 : Int32) : Kw (M_Mo_move l1 l2 l3) := by
  unfold M_Mo_move
  repeat' (first | with_reducible (first | apply kw_B | apply kw_C | exact kw_Arr_fill_____ _ _ _ _ _ | exact kw_Mo_move_L52 _ | exact kw_R _ | exact kw_GI _ _ | exact kw_GL _ _ | exact kw_PL _ _ _ | exact kw_AI _ _ _ _ | exact kw_AL _ _ _ _ | exact kw_SI _ _ _ _ _ | exact kw_SL _ _ _ _ _ | exact kw_K _ | exact kw_Pr _ _ | exact kw_F | exact kw_CI _ _ _ _ _ _ _ _ _ | exact kw_CL _ _ _ _ _ _ _ _ _ | apply kw_L | apply kw_W | exact kw_PI1 | (refine kw_PI ?_) | apply kw_E | intro _) | omega)
theorem kw_Mo_follow_L53 (x) : Kw (M_Mo_follow_L53 x) := by
  unfold M_Mo_follow_L53
  repeat' (first | with_reducible (first | apply kw_B | apply kw_C | exact kw_Mo_mark _ _ | exact kw_R _ | exact kw_GI _ _ | exact kw_GL _ _ | exact kw_PL _ _ _ | exact kw_AI _ _ _ _ | exact kw_AL _ _ _ _ | exact kw_SI _ _ _ _ _ | exact kw_SL _ _ _ _ _ | exact kw_K _ | exact kw_Pr _ _ | exact kw_F | exact kw_CI _ _ _ _ _ _ _ _ _ | exact kw_CL _ _ _ _ _ _ _ _ _ | apply kw_L | apply kw_W | exact kw_PI1 | (refine kw_PI ?_) | apply kw_E | intro _) | omega)
theorem kw_Mo_follow_L135 (x) : Kw (M_Mo_follow_L135 x) := by
  unfold M_Mo_follow_L135
  repeat' (first | with_reducible (first | apply kw_B | apply kw_C | exact kw_Mo_place _ | exact kw_R _ | exact kw_GI _ _ | exact kw_GL _ _ | exact kw_PL _ _ _ | exact kw_AI _ _ _ _ | exact kw_AL _ _ _ _ | exact kw_SI _ _ _ _ _ | exact kw_SL _ _ _ _ _ | exact kw_K _ | exact kw_Pr _ _ | exact kw_F | exact kw_CI _ _ _ _ _ _ _ _ _ | exact kw_CL _ _ _ _ _ _ _ _ _ | apply kw_L | apply kw_W | exact kw_PI1 | (refine kw_PI ?_) | apply kw_E | intro _) | omega)
theorem kw_Mo_follow (l1 : Int32) : Kw (M_Mo_follow l1) := by
  unfold M_Mo_follow
  repeat' (first | with_reducible (first | apply kw_B | apply kw_C | exact kw_Mo_place _ | exact kw_Mo_follow_L53 _ | exact kw_Mo_follow_L135 _ | exact kw_Th_reach _ | exact kw_Mo_load _ | exact kw_Mo_mark _ _ | exact kw_R _ | exact kw_GI _ _ | exact kw_GL _ _ | exact kw_PL _ _ _ | exact kw_AI _ _ _ _ | exact kw_AL _ _ _ _ | exact kw_SI _ _ _ _ _ | exact kw_SL _ _ _ _ _ | exact kw_K _ | exact kw_Pr _ _ | exact kw_F | exact kw_CI _ _ _ _ _ _ _ _ _ | exact kw_CL _ _ _ _ _ _ _ _ _ | apply kw_L | apply kw_W | exact kw_PI1 | (refine kw_PI ?_) | apply kw_E | intro _) | omega)
theorem kw_Mo_sweep_j73 (l1 : Int32) (l2 : Int64) (l4 : Int32) : Kw (M_Mo_sweep_j73 l1 l2 l4) := by
  unfold M_Mo_sweep_j73
  repeat' (first | with_reducible (first | apply kw_B | apply kw_C | exact kw_R _ | exact kw_GI _ _ | exact kw_GL _ _ | exact kw_PL _ _ _ | exact kw_AI _ _ _ _ | exact kw_AL _ _ _ _ | exact kw_SI _ _ _ _ _ | exact kw_SL _ _ _ _ _ | exact kw_K _ | exact kw_Pr _ _ | exact kw_F | exact kw_CI _ _ _ _ _ _ _ _ _ | exact kw_CL _ _ _ _ _ _ _ _ _ | apply kw_L | apply kw_W | exact kw_PI1 | (refine kw_PI ?_) | apply kw_E | intro _) | omega)
theorem kw_Mo_sweep_L13 (x) : Kw (M_Mo_sweep_L13 x) := by
  unfold M_Mo_sweep_L13
  repeat' (first | with_reducible (first | apply kw_B | apply kw_C | exact kw_Mo_sweep_j73 _ _ _ | exact kw_Mo_threadGoes _ | exact kw_R _ | exact kw_GI _ _ | exact kw_GL _ _ | exact kw_PL _ _ _ | exact kw_AI _ _ _ _ | exact kw_AL _ _ _ _ | exact kw_SI _ _ _ _ _ | exact kw_SL _ _ _ _ _ | exact kw_K _ | exact kw_Pr _ _ | exact kw_F | exact kw_CI _ _ _ _ _ _ _ _ _ | exact kw_CL _ _ _ _ _ _ _ _ _ | apply kw_L | apply kw_W | exact kw_PI1 | (refine kw_PI ?_) | apply kw_E | intro _) | omega)
theorem kw_Mo_sweep_j240 (l1 : Int32) (l2 : Int64) (l4 : Int32) : Kw (M_Mo_sweep_j240 l1 l2 l4) := by
  unfold M_Mo_sweep_j240
  repeat' (first | with_reducible (first | apply kw_B | apply kw_C | exact kw_R _ | exact kw_GI _ _ | exact kw_GL _ _ | exact kw_PL _ _ _ | exact kw_AI _ _ _ _ | exact kw_AL _ _ _ _ | exact kw_SI _ _ _ _ _ | exact kw_SL _ _ _ _ _ | exact kw_K _ | exact kw_Pr _ _ | exact kw_F | exact kw_CI _ _ _ _ _ _ _ _ _ | exact kw_CL _ _ _ _ _ _ _ _ _ | apply kw_L | apply kw_W | exact kw_PI1 | (refine kw_PI ?_) | apply kw_E | intro _) | omega)
theorem kw_Mo_sweep_j204 (l1 : Int32) (l2 : Int64) (l4 : Int32) : Kw (M_Mo_sweep_j204 l1 l2 l4) := by
  unfold M_Mo_sweep_j204
  repeat' (first | with_reducible (first | apply kw_B | apply kw_C | exact kw_Mo_sweep_j240 _ _ _ | exact kw_R _ | exact kw_GI _ _ | exact kw_GL _ _ | exact kw_PL _ _ _ | exact kw_AI _ _ _ _ | exact kw_AL _ _ _ _ | exact kw_SI _ _ _ _ _ | exact kw_SL _ _ _ _ _ | exact kw_K _ | exact kw_Pr _ _ | exact kw_F | exact kw_CI _ _ _ _ _ _ _ _ _ | exact kw_CL _ _ _ _ _ _ _ _ _ | apply kw_L | apply kw_W | exact kw_PI1 | (refine kw_PI ?_) | apply kw_E | intro _) | omega)
theorem kw_Mo_sweep_L82 (x) : Kw (M_Mo_sweep_L82 x) := by
  unfold M_Mo_sweep_L82
  repeat' (first | with_reducible (first | apply kw_B | apply kw_C | exact kw_Mo_sweep_j240 _ _ _ | exact kw_Mo_unchain _ | exact kw_Mo_sweep_j204 _ _ _ | exact kw_Mo_forget _ _ | exact kw_R _ | exact kw_GI _ _ | exact kw_GL _ _ | exact kw_PL _ _ _ | exact kw_AI _ _ _ _ | exact kw_AL _ _ _ _ | exact kw_SI _ _ _ _ _ | exact kw_SL _ _ _ _ _ | exact kw_K _ | exact kw_Pr _ _ | exact kw_F | exact kw_CI _ _ _ _ _ _ _ _ _ | exact kw_CL _ _ _ _ _ _ _ _ _ | apply kw_L | apply kw_W | exact kw_PI1 | (refine kw_PI ?_) | apply kw_E | intro _) | omega)
theorem kw_Mo_sweep  : Kw (M_Mo_sweep) := by
  unfold M_Mo_sweep
  repeat' (first | with_reducible (first | apply kw_B | apply kw_C | exact kw_Mo_sweep_L13 _ | exact kw_Mo_sweep_L82 _ | exact kw_R _ | exact kw_GI _ _ | exact kw_GL _ _ | exact kw_PL _ _ _ | exact kw_AI _ _ _ _ | exact kw_AL _ _ _ _ | exact kw_SI _ _ _ _ _ | exact kw_SL _ _ _ _ _ | exact kw_K _ | exact kw_Pr _ _ | exact kw_F | exact kw_CI _ _ _ _ _ _ _ _ _ | exact kw_CL _ _ _ _ _ _ _ _ _ | apply kw_L | apply kw_W | exact kw_PI1 | (refine kw_PI ?_) | apply kw_E | intro _) | omega)
theorem kw_Mo_collection_j61 (l1 : Int32) : Kw (M_Mo_collection_j61 l1) := by
  unfold M_Mo_collection_j61
  repeat' (first | with_reducible (first | apply kw_B | apply kw_C | exact kw_R _ | exact kw_GI _ _ | exact kw_GL _ _ | exact kw_PL _ _ _ | exact kw_AI _ _ _ _ | exact kw_AL _ _ _ _ | exact kw_SI _ _ _ _ _ | exact kw_SL _ _ _ _ _ | exact kw_K _ | exact kw_Pr _ _ | exact kw_F | exact kw_CI _ _ _ _ _ _ _ _ _ | exact kw_CL _ _ _ _ _ _ _ _ _ | apply kw_L | apply kw_W | exact kw_PI1 | (refine kw_PI ?_) | apply kw_E | intro _) | omega)
theorem kw_Mo_collection_L30 (x) : Kw (M_Mo_collection_L30 x) := by
  unfold M_Mo_collection_L30
  repeat' (first | with_reducible (first | apply kw_B | apply kw_C | exact kw_Mo_collection_j61 _ | exact kw_Mo_place _ | exact kw_R _ | exact kw_GI _ _ | exact kw_GL _ _ | exact kw_PL _ _ _ | exact kw_AI _ _ _ _ | exact kw_AL _ _ _ _ | exact kw_SI _ _ _ _ _ | exact kw_SL _ _ _ _ _ | exact kw_K _ | exact kw_Pr _ _ | exact kw_F | exact kw_CI _ _ _ _ _ _ _ _ _ | exact kw_CL _ _ _ _ _ _ _ _ _ | apply kw_L | apply kw_W | exact kw_PI1 | (refine kw_PI ?_) | apply kw_E | intro _) | omega)
theorem kw_Mo_collection_L104 (x) : Kw (M_Mo_collection_L104 x) := by
  unfold M_Mo_collection_L104
  repeat' (first | with_reducible (first | apply kw_B | apply kw_C | exact kw_Mo_place _ | exact kw_R _ | exact kw_GI _ _ | exact kw_GL _ _ | exact kw_PL _ _ _ | exact kw_AI _ _ _ _ | exact kw_AL _ _ _ _ | exact kw_SI _ _ _ _ _ | exact kw_SL _ _ _ _ _ | exact kw_K _ | exact kw_Pr _ _ | exact kw_F | exact kw_CI _ _ _ _ _ _ _ _ _ | exact kw_CL _ _ _ _ _ _ _ _ _ | apply kw_L | apply kw_W | exact kw_PI1 | (refine kw_PI ?_) | apply kw_E | intro _) | omega)
theorem kw_Mo_collection_L218 (x) : Kw (M_Mo_collection_L218 x) := by
  unfold M_Mo_collection_L218
  repeat' (first | with_reducible (first | apply kw_B | apply kw_C | exact kw_Mo_follow _ | exact kw_R _ | exact kw_GI _ _ | exact kw_GL _ _ | exact kw_PL _ _ _ | exact kw_AI _ _ _ _ | exact kw_AL _ _ _ _ | exact kw_SI _ _ _ _ _ | exact kw_SL _ _ _ _ _ | exact kw_K _ | exact kw_Pr _ _ | exact kw_F | exact kw_CI _ _ _ _ _ _ _ _ _ | exact kw_CL _ _ _ _ _ _ _ _ _ | apply kw_L | apply kw_W | exact kw_PI1 | (refine kw_PI ?_) | apply kw_E | intro _) | omega)
theorem kw_Mo_collection  : Kw (M_Mo_collection) := by
  unfold M_Mo_collection
  repeat' (first | with_reducible (first | apply kw_B | apply kw_C | exact kw_Arr_fill____ _ _ _ _ _ | exact kw_Mo_collection_L30 _ | exact kw_Mo_place _ | exact kw_Mo_collection_L104 _ | exact kw_Mo_markRow _ _ _ _ | exact kw_Mo_mark _ _ | exact kw_Mo_collection_L218 _ | exact kw_Mo_sweep | exact kw_R _ | exact kw_GI _ _ | exact kw_GL _ _ | exact kw_PL _ _ _ | exact kw_AI _ _ _ _ | exact kw_AL _ _ _ _ | exact kw_SI _ _ _ _ _ | exact kw_SL _ _ _ _ _ | exact kw_K _ | exact kw_Pr _ _ | exact kw_F | exact kw_CI _ _ _ _ _ _ _ _ _ | exact kw_CL _ _ _ _ _ _ _ _ _ | apply kw_L | apply kw_W | exact kw_PI1 | (refine kw_PI ?_) | apply kw_E | intro _) | omega)
theorem kw_Mo_grow_j59 (l1 : Int32) (l2 : Int32) : Kw (M_Mo_grow_j59 l1 l2) := by
  unfold M_Mo_grow_j59
  repeat' (first | with_reducible (first | apply kw_B | apply kw_C | exact kw_Mo_move _ _ _ | exact kw_Mo_raise _ | exact kw_R _ | exact kw_GI _ _ | exact kw_GL _ _ | exact kw_PL _ _ _ | exact kw_AI _ _ _ _ | exact kw_AL _ _ _ _ | exact kw_SI _ _ _ _ _ | exact kw_SL _ _ _ _ _ | exact kw_K _ | exact kw_Pr _ _ | exact kw_F | exact kw_CI _ _ _ _ _ _ _ _ _ | exact kw_CL _ _ _ _ _ _ _ _ _ | apply kw_L | apply kw_W | exact kw_PI1 | (refine kw_PI ?_) | apply kw_E | intro _) | omega)
theorem kw_Mo_grow_j21 (l1 : Int32) (k0 : Int32) : Kw (M_Mo_grow_j21 l1 k0) := by
  unfold M_Mo_grow_j21
  repeat' (first | with_reducible (first | apply kw_B | apply kw_C | exact kw_Mo_grow_j59 _ _ | exact kw_Mo_collection | exact kw_Mo_raise _ | exact kw_R _ | exact kw_GI _ _ | exact kw_GL _ _ | exact kw_PL _ _ _ | exact kw_AI _ _ _ _ | exact kw_AL _ _ _ _ | exact kw_SI _ _ _ _ _ | exact kw_SL _ _ _ _ _ | exact kw_K _ | exact kw_Pr _ _ | exact kw_F | exact kw_CI _ _ _ _ _ _ _ _ _ | exact kw_CL _ _ _ _ _ _ _ _ _ | apply kw_L | apply kw_W | exact kw_PI1 | (refine kw_PI ?_) | apply kw_E | intro _) | omega)
theorem kw_Mo_grow (l1 : Int32) : Kw (M_Mo_grow l1) := by
  unfold M_Mo_grow
  repeat' (first | with_reducible (first | apply kw_B | apply kw_C | exact kw_Mo_grow_j21 _ _ | exact kw_R _ | exact kw_GI _ _ | exact kw_GL _ _ | exact kw_PL _ _ _ | exact kw_AI _ _ _ _ | exact kw_AL _ _ _ _ | exact kw_SI _ _ _ _ _ | exact kw_SL _ _ _ _ _ | exact kw_K _ | exact kw_Pr _ _ | exact kw_F | exact kw_CI _ _ _ _ _ _ _ _ _ | exact kw_CL _ _ _ _ _ _ _ _ _ | apply kw_L | apply kw_W | exact kw_PI1 | (refine kw_PI ?_) | apply kw_E | intro _) | omega)
theorem kw_Mo_may_j82  : Kw (M_Mo_may_j82) := by
  unfold M_Mo_may_j82
  repeat' (first | with_reducible (first | apply kw_B | apply kw_C | exact kw_Mo_raise _ | exact kw_R _ | exact kw_GI _ _ | exact kw_GL _ _ | exact kw_PL _ _ _ | exact kw_AI _ _ _ _ | exact kw_AL _ _ _ _ | exact kw_SI _ _ _ _ _ | exact kw_SL _ _ _ _ _ | exact kw_K _ | exact kw_Pr _ _ | exact kw_F | exact kw_CI _ _ _ _ _ _ _ _ _ | exact kw_CL _ _ _ _ _ _ _ _ _ | apply kw_L | apply kw_W | exact kw_PI1 | (refine kw_PI ?_) | apply kw_E | intro _) | omega)
theorem kw_Mo_may_j56 (l1 : Int32) : Kw (M_Mo_may_j56 l1) := by
  unfold M_Mo_may_j56
  repeat' (first | with_reducible (first | apply kw_B | apply kw_C | exact kw_Mo_may_j82 | exact kw_R _ | exact kw_GI _ _ | exact kw_GL _ _ | exact kw_PL _ _ _ | exact kw_AI _ _ _ _ | exact kw_AL _ _ _ _ | exact kw_SI _ _ _ _ _ | exact kw_SL _ _ _ _ _ | exact kw_K _ | exact kw_Pr _ _ | exact kw_F | exact kw_CI _ _ _ _ _ _ _ _ _ | exact kw_CL _ _ _ _ _ _ _ _ _ | apply kw_L | apply kw_W | exact kw_PI1 | (refine kw_PI ?_) | apply kw_E | intro _) | omega)
theorem kw_Mo_may_j45 (l1 : Int32) : Kw (M_Mo_may_j45 l1) := by
  unfold M_Mo_may_j45
  repeat' (first | with_reducible (first | apply kw_B | apply kw_C | exact kw_Mo_collection | exact kw_Mo_may_j56 _ | exact kw_R _ | exact kw_GI _ _ | exact kw_GL _ _ | exact kw_PL _ _ _ | exact kw_AI _ _ _ _ | exact kw_AL _ _ _ _ | exact kw_SI _ _ _ _ _ | exact kw_SL _ _ _ _ _ | exact kw_K _ | exact kw_Pr _ _ | exact kw_F | exact kw_CI _ _ _ _ _ _ _ _ _ | exact kw_CL _ _ _ _ _ _ _ _ _ | apply kw_L | apply kw_W | exact kw_PI1 | (refine kw_PI ?_) | apply kw_E | intro _) | omega)
theorem kw_Mo_may (l1 : Int32) : Kw (M_Mo_may l1) := by
  unfold M_Mo_may
  repeat' (first | with_reducible (first | apply kw_B | apply kw_C | exact kw_Mo_raise _ | exact kw_Mo_may_j45 _ | exact kw_R _ | exact kw_GI _ _ | exact kw_GL _ _ | exact kw_PL _ _ _ | exact kw_AI _ _ _ _ | exact kw_AL _ _ _ _ | exact kw_SI _ _ _ _ _ | exact kw_SL _ _ _ _ _ | exact kw_K _ | exact kw_Pr _ _ | exact kw_F | exact kw_CI _ _ _ _ _ _ _ _ _ | exact kw_CL _ _ _ _ _ _ _ _ _ | apply kw_L | apply kw_W | exact kw_PI1 | (refine kw_PI ?_) | apply kw_E | intro _) | omega)
theorem kw_Mo_newVariable  : Kw (M_Mo_newVariable) := by
  unfold M_Mo_newVariable
  repeat' (first | with_reducible (first | apply kw_B | apply kw_C | exact kw_Mo_may _ | exact kw_Mo_object _ | exact kw_Va_set _ _ _ _ _ | exact kw_R _ | exact kw_GI _ _ | exact kw_GL _ _ | exact kw_PL _ _ _ | exact kw_AI _ _ _ _ | exact kw_AL _ _ _ _ | exact kw_SI _ _ _ _ _ | exact kw_SL _ _ _ _ _ | exact kw_K _ | exact kw_Pr _ _ | exact kw_F | exact kw_CI _ _ _ _ _ _ _ _ _ | exact kw_CL _ _ _ _ _ _ _ _ _ | apply kw_L | apply kw_W | exact kw_PI1 | (refine kw_PI ?_) | apply kw_E | intro _) | omega)
theorem kw_Mo_put_j192 (l1 : Int32) (l2 : Int32) (l3 : Int64) (l5 : Int32) (l6 : Int64) : Kw (M_Mo_put_j192 l1 l2 l3 l5 l6) := by
  unfold M_Mo_put_j192
  repeat' (first | with_reducible (first | apply kw_B | apply kw_C | exact kw_Mo_append _ _ _ _ _ | exact kw_R _ | exact kw_GI _ _ | exact kw_GL _ _ | exact kw_PL _ _ _ | exact kw_AI _ _ _ _ | exact kw_AL _ _ _ _ | exact kw_SI _ _ _ _ _ | exact kw_SL _ _ _ _ _ | exact kw_K _ | exact kw_Pr _ _ | exact kw_F | exact kw_CI _ _ _ _ _ _ _ _ _ | exact kw_CL _ _ _ _ _ _ _ _ _ | apply kw_L | apply kw_W | exact kw_PI1 | (refine kw_PI ?_) | apply kw_E | intro _) | omega)
theorem kw_Mo_put_j174 (l1 : Int32) (l2 : Int32) (l3 : Int64) (l5 : Int32) (l6 : Int64) (l9 : Int32) (k0 : Int32) : Kw (M_Mo_put_j174 l1 l2 l3 l5 l6 l9 k0) := by
  unfold M_Mo_put_j174
  repeat' (first | with_reducible (first | apply kw_B | apply kw_C | exact kw_Mo_put_j192 _ _ _ _ _ | exact kw_R _ | exact kw_GI _ _ | exact kw_GL _ _ | exact kw_PL _ _ _ | exact kw_AI _ _ _ _ | exact kw_AL _ _ _ _ | exact kw_SI _ _ _ _ _ | exact kw_SL _ _ _ _ _ | exact kw_K _ | exact kw_Pr _ _ | exact kw_F | exact kw_CI _ _ _ _ _ _ _ _ _ | exact kw_CL _ _ _ _ _ _ _ _ _ | apply kw_L | apply kw_W | exact kw_PI1 | (refine kw_PI ?_) | apply kw_E | intro _) | omega)
theorem kw_Mo_put_j169 (l1 : Int32) (l2 : Int32) (l3 : Int64) (l5 : Int32) (l6 : Int64) (l9 : Int32) : Kw (M_Mo_put_j169 l1 l2 l3 l5 l6 l9) := by
  unfold M_Mo_put_j169
  repeat' (first | with_reducible (first | apply kw_B | apply kw_C | exact kw_Mo_put_j174 _ _ _ _ _ _ _ | exact kw_R _ | exact kw_GI _ _ | exact kw_GL _ _ | exact kw_PL _ _ _ | exact kw_AI _ _ _ _ | exact kw_AL _ _ _ _ | exact kw_SI _ _ _ _ _ | exact kw_SL _ _ _ _ _ | exact kw_K _ | exact kw_Pr _ _ | exact kw_F | exact kw_CI _ _ _ _ _ _ _ _ _ | exact kw_CL _ _ _ _ _ _ _ _ _ | apply kw_L | apply kw_W | exact kw_PI1 | (refine kw_PI ?_) | apply kw_E | intro _) | omega)
theorem kw_Mo_put_j161 (l1 : Int32) (l2 : Int32) (l3 : Int64) (l5 : Int32) (l6 : Int64) (l9 : Int32) : Kw (M_Mo_put_j161 l1 l2 l3 l5 l6 l9) := by
  unfold M_Mo_put_j161
  repeat' (first | with_reducible (first | apply kw_B | apply kw_C | exact kw_Mo_grow _ | exact kw_Mo_put_j174 _ _ _ _ _ _ _ | exact kw_Mo_put_j169 _ _ _ _ _ _ | exact kw_R _ | exact kw_GI _ _ | exact kw_GL _ _ | exact kw_PL _ _ _ | exact kw_AI _ _ _ _ | exact kw_AL _ _ _ _ | exact kw_SI _ _ _ _ _ | exact kw_SL _ _ _ _ _ | exact kw_K _ | exact kw_Pr _ _ | exact kw_F | exact kw_CI _ _ _ _ _ _ _ _ _ | exact kw_CL _ _ _ _ _ _ _ _ _ | apply kw_L | apply kw_W | exact kw_PI1 | (refine kw_PI ?_) | apply kw_E | intro _) | omega)
theorem kw_Mo_put_j96 (l1 : Int32) (l2 : Int32) (l3 : Int64) (l5 : Int32) (l6 : Int64) : Kw (M_Mo_put_j96 l1 l2 l3 l5 l6) := by
  unfold M_Mo_put_j96
  repeat' (first | with_reducible (first | apply kw_B | apply kw_C | exact kw_Va_add _ _ _ _ | exact kw_Mo_put_j161 _ _ _ _ _ _ | exact kw_Mo_put_j169 _ _ _ _ _ _ | exact kw_R _ | exact kw_GI _ _ | exact kw_GL _ _ | exact kw_PL _ _ _ | exact kw_AI _ _ _ _ | exact kw_AL _ _ _ _ | exact kw_SI _ _ _ _ _ | exact kw_SL _ _ _ _ _ | exact kw_K _ | exact kw_Pr _ _ | exact kw_F | exact kw_CI _ _ _ _ _ _ _ _ _ | exact kw_CL _ _ _ _ _ _ _ _ _ | apply kw_L | apply kw_W | exact kw_PI1 | (refine kw_PI ?_) | apply kw_E | intro _) | omega)
theorem kw_Mo_put (l1 : Int32) (l2 : Int32) (l3 : Int64) (l5 : Int32) (l6 : Int64) : Kw (M_Mo_put l1 l2 l3 l5 l6) := by
  unfold M_Mo_put
  repeat' (first | with_reducible (first | apply kw_B | apply kw_C | exact kw_Mo_raise _ | exact kw_Mo_entry _ _ _ | exact kw_Mo_put_j96 _ _ _ _ _ | exact kw_Mo_move _ _ _ | exact kw_Mo_put_j192 _ _ _ _ _ | exact kw_R _ | exact kw_GI _ _ | exact kw_GL _ _ | exact kw_PL _ _ _ | exact kw_AI _ _ _ _ | exact kw_AL _ _ _ _ | exact kw_SI _ _ _ _ _ | exact kw_SL _ _ _ _ _ | exact kw_K _ | exact kw_Pr _ _ | exact kw_F | exact kw_CI _ _ _ _ _ _ _ _ _ | exact kw_CL _ _ _ _ _ _ _ _ _ | apply kw_L | apply kw_W | exact kw_PI1 | (refine kw_PI ?_) | apply kw_E | intro _) | omega)
theorem kw_Mo_closure_L95 (x) : Kw (M_Mo_closure_L95 x) := by
  unfold M_Mo_closure_L95
  repeat' (first | with_reducible (first | apply kw_B | apply kw_C | exact kw_R _ | exact kw_GI _ _ | exact kw_GL _ _ | exact kw_PL _ _ _ | exact kw_AI _ _ _ _ | exact kw_AL _ _ _ _ | exact kw_SI _ _ _ _ _ | exact kw_SL _ _ _ _ _ | exact kw_K _ | exact kw_Pr _ _ | exact kw_F | exact kw_CI _ _ _ _ _ _ _ _ _ | exact kw_CL _ _ _ _ _ _ _ _ _ | apply kw_L | apply kw_W | exact kw_PI1 | (refine kw_PI ?_) | apply kw_E | intro _) | omega)
theorem kw_Mo_closure_j83 (l3 : Int32) (l4 : Int32) (k0 : Int32) (k1 : Int32) : Kw (M_Mo_closure_j83 l3 l4 k0 k1) := by
  unfold M_Mo_closure_j83
  repeat' (first | with_reducible (first | apply kw_B | apply kw_C | exact kw_Mo_closure_L95 _ | exact kw_R _ | exact kw_GI _ _ | exact kw_GL _ _ | exact kw_PL _ _ _ | exact kw_AI _ _ _ _ | exact kw_AL _ _ _ _ | exact kw_SI _ _ _ _ _ | exact kw_SL _ _ _ _ _ | exact kw_K _ | exact kw_Pr _ _ | exact kw_F | exact kw_CI _ _ _ _ _ _ _ _ _ | exact kw_CL _ _ _ _ _ _ _ _ _ | apply kw_L | apply kw_W | exact kw_PI1 | (refine kw_PI ?_) | apply kw_E | intro _) | omega)
theorem kw_Mo_closure (l1 : Int32) (l2 : Int32) (l3 : Int32) : Kw (M_Mo_closure l1 l2 l3) := by
  unfold M_Mo_closure
  repeat' (first | with_reducible (first | apply kw_B | apply kw_C | exact kw_Mo_may _ | exact kw_Mo_object _ | exact kw_Mo_closure_j83 _ _ _ _ | exact kw_Mo_raise _ | exact kw_R _ | exact kw_GI _ _ | exact kw_GL _ _ | exact kw_PL _ _ _ | exact kw_AI _ _ _ _ | exact kw_AL _ _ _ _ | exact kw_SI _ _ _ _ _ | exact kw_SL _ _ _ _ _ | exact kw_K _ | exact kw_Pr _ _ | exact kw_F | exact kw_CI _ _ _ _ _ _ _ _ _ | exact kw_CL _ _ _ _ _ _ _ _ _ | apply kw_L | apply kw_W | exact kw_PI1 | (refine kw_PI ?_) | apply kw_E | intro _) | omega)
theorem kw_Mo_table  : Kw (M_Mo_table) := by
  unfold M_Mo_table
  repeat' (first | with_reducible (first | apply kw_B | apply kw_C | exact kw_Mo_may _ | exact kw_Mo_object _ | exact kw_R _ | exact kw_GI _ _ | exact kw_GL _ _ | exact kw_PL _ _ _ | exact kw_AI _ _ _ _ | exact kw_AL _ _ _ _ | exact kw_SI _ _ _ _ _ | exact kw_SL _ _ _ _ _ | exact kw_K _ | exact kw_Pr _ _ | exact kw_F | exact kw_CI _ _ _ _ _ _ _ _ _ | exact kw_CL _ _ _ _ _ _ _ _ _ | apply kw_L | apply kw_W | exact kw_PI1 | (refine kw_PI ?_) | apply kw_E | intro _) | omega)
theorem kw_Mo_string_j86 (l1r : Nat) (l1 : Int32) (l2 : Int32) (l3 : Int32) (l4 : Int32) (l5 : Int32) (l7 : Int32) (k0 : Int32) : Kw (M_Mo_string_j86 l1r l1 l2 l3 l4 l5 l7 k0) := by
  unfold M_Mo_string_j86
  repeat' (first | with_reducible (first | apply kw_B | apply kw_C | exact kw_R _ | exact kw_GI _ _ | exact kw_GL _ _ | exact kw_PL _ _ _ | exact kw_AI _ _ _ _ | exact kw_AL _ _ _ _ | exact kw_SI _ _ _ _ _ | exact kw_SL _ _ _ _ _ | exact kw_K _ | exact kw_Pr _ _ | exact kw_F | exact kw_CI _ _ _ _ _ _ _ _ _ | exact kw_CL _ _ _ _ _ _ _ _ _ | apply kw_L | apply kw_W | exact kw_PI1 | (refine kw_PI ?_) | apply kw_E | intro _) | omega)
theorem kw_Mo_string_L46 (x) : Kw (M_Mo_string_L46 x) := by
  unfold M_Mo_string_L46
  repeat' (first | with_reducible (first | apply kw_B | apply kw_C | exact kw_Mo_string_j86 _ _ _ _ _ _ _ _ | exact kw_R _ | exact kw_GI _ _ | exact kw_GL _ _ | exact kw_PL _ _ _ | exact kw_AI _ _ _ _ | exact kw_AL _ _ _ _ | exact kw_SI _ _ _ _ _ | exact kw_SL _ _ _ _ _ | exact kw_K _ | exact kw_Pr _ _ | exact kw_F | exact kw_CI _ _ _ _ _ _ _ _ _ | exact kw_CL _ _ _ _ _ _ _ _ _ | apply kw_L | apply kw_W | exact kw_PI1 | (refine kw_PI ?_) | apply kw_E | intro _) | omega)
theorem kw_Mo_string_j94 (l1r : Nat) (l1 : Int32) (l2 : Int32) (l3 : Int32) (l4 : Int32) (l5 : Int32) (l6 : Int32) : Kw (M_Mo_string_j94 l1r l1 l2 l3 l4 l5 l6) := by
  unfold M_Mo_string_j94
  repeat' (first | with_reducible (first | apply kw_B | apply kw_C | exact kw_R _ | exact kw_GI _ _ | exact kw_GL _ _ | exact kw_PL _ _ _ | exact kw_AI _ _ _ _ | exact kw_AL _ _ _ _ | exact kw_SI _ _ _ _ _ | exact kw_SL _ _ _ _ _ | exact kw_K _ | exact kw_Pr _ _ | exact kw_F | exact kw_CI _ _ _ _ _ _ _ _ _ | exact kw_CL _ _ _ _ _ _ _ _ _ | apply kw_L | apply kw_W | exact kw_PI1 | (refine kw_PI ?_) | apply kw_E | intro _) | omega)
theorem kw_Mo_string_j41 (l1r : Nat) (l1 : Int32) (l2 : Int32) (l3 : Int32) (l4 : Int32) (l5 : Int32) (k0 : Int32) : Kw (M_Mo_string_j41 l1r l1 l2 l3 l4 l5 k0) := by
  unfold M_Mo_string_j41
  repeat' (first | with_reducible (first | apply kw_B | apply kw_C | exact kw_Mo_string_L46 _ | exact kw_Mo_string_j94 _ _ _ _ _ _ _ | exact kw_R _ | exact kw_GI _ _ | exact kw_GL _ _ | exact kw_PL _ _ _ | exact kw_AI _ _ _ _ | exact kw_AL _ _ _ _ | exact kw_SI _ _ _ _ _ | exact kw_SL _ _ _ _ _ | exact kw_K _ | exact kw_Pr _ _ | exact kw_F | exact kw_CI _ _ _ _ _ _ _ _ _ | exact kw_CL _ _ _ _ _ _ _ _ _ | apply kw_L | apply kw_W | exact kw_PI1 | (refine kw_PI ?_) | apply kw_E | intro _) | omega)
theorem kw_Mo_string_L20 (x) : Kw (M_Mo_string_L20 x) := by
  unfold M_Mo_string_L20
  repeat' (first | with_reducible (first | apply kw_B | apply kw_C | exact kw_Mo_string_j41 _ _ _ _ _ _ _ | exact kw_R _ | exact kw_GI _ _ | exact kw_GL _ _ | exact kw_PL _ _ _ | exact kw_AI _ _ _ _ | exact kw_AL _ _ _ _ | exact kw_SI _ _ _ _ _ | exact kw_SL _ _ _ _ _ | exact kw_K _ | exact kw_Pr _ _ | exact kw_F | exact kw_CI _ _ _ _ _ _ _ _ _ | exact kw_CL _ _ _ _ _ _ _ _ _ | apply kw_L | apply kw_W | exact kw_PI1 | (refine kw_PI ?_) | apply kw_E | intro _) | omega)
theorem kw_Mo_string (l1r : Nat) (l1 : Int32) (l2 : Int32) (l3 : Int32) : Kw (M_Mo_string l1r l1 l2 l3) := by
  unfold M_Mo_string
  repeat' (first | with_reducible (first | apply kw_B | apply kw_C | exact kw_Mo_hash _ _ _ _ | exact kw_Mo_string_L20 _ | exact kw_Mo_may _ | exact kw_Mo_object _ | exact kw_Mo_raise _ | exact kw_R _ | exact kw_GI _ _ | exact kw_GL _ _ | exact kw_PL _ _ _ | exact kw_AI _ _ _ _ | exact kw_AL _ _ _ _ | exact kw_SI _ _ _ _ _ | exact kw_SL _ _ _ _ _ | exact kw_K _ | exact kw_Pr _ _ | exact kw_F | exact kw_CI _ _ _ _ _ _ _ _ _ | exact kw_CL _ _ _ _ _ _ _ _ _ | apply kw_L | apply kw_W | exact kw_PI1 | (refine kw_PI ?_) | apply kw_E | intro _) | omega)
