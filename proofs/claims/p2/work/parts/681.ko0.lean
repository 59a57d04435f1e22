/-! The class: programs that leave the frames and coroutines alone (a coroutine may go, or begin). -/
def foI (f : Nat) : Prop := f = 18948 ∨ f = 19456 ∨ f = 19458 ∨ f = 19461 ∨ f = 19464 ∨ f = 19071 ∨ f / 128 = 144
def Kor (c u : Bool) (s t : S1) : Prop := (∀ f i, foI f → gI t f i = gI s f i) ∧ (∀ i j, gA t 104 i j = gA s 104 i j) ∧ (∀ i, gI t 18950 i = gI s 18950 i ∨ gI t 18950 i = -1) ∧ (∀ i, gI t 18952 i = gI s 18952 i ∨ gI t 18952 i = 1) ∧ (c = true → gI t 16395 0 = gI s 16395 0) ∧ (u = true → gI t 16396 0 = gI s 16396 0)
theorem Kor.refl (c u : Bool) (s : S1) : Kor c u s s := ⟨fun _ _ _ => rfl, fun _ _ => rfl, fun _ => .inl rfl, fun _ => .inl rfl, fun _ => rfl, fun _ => rfl⟩
theorem Kor.trans {c u : Bool} {s t w : S1} (h : Kor c u s t) (k : Kor c u t w) : Kor c u s w := by
  obtain ⟨h1, h2, h3, h4, h5, h6⟩ := h
  obtain ⟨k1, k2, k3, k4, k5, k6⟩ := k
  refine ⟨fun f i q => (k1 f i q).trans (h1 f i q), fun i j => (k2 i j).trans (h2 i j), fun i => ?_, fun i => ?_, fun q => (k5 q).trans (h5 q), fun q => (k6 q).trans (h6 q)⟩
  · rcases k3 i with z | z
    · rw [z]
      exact h3 i
    · exact .inr z
  · rcases k4 i with z | z
    · rw [z]
      exact h4 i
    · exact .inr z
theorem Kor.wk {c u : Bool} {s t : S1} (h : Kor true true s t) : Kor c u s t := ⟨h.1, h.2.1, h.2.2.1, h.2.2.2.1, fun _ => h.2.2.2.2.1 rfl, fun _ => h.2.2.2.2.2 rfl⟩
theorem Kor.wc {c u : Bool} {s t : S1} (h : Kor true u s t) : Kor c u s t := ⟨h.1, h.2.1, h.2.2.1, h.2.2.2.1, fun _ => h.2.2.2.2.1 rfl, h.2.2.2.2.2⟩
theorem Kor.wu {c u : Bool} {s t : S1} (h : Kor c true s t) : Kor c u s t := ⟨h.1, h.2.1, h.2.2.1, h.2.2.2.1, h.2.2.2.2.1, fun _ => h.2.2.2.2.2 rfl⟩
def Kop (c u : Bool) {α : Type} (J : α → Prop) (f : M α) : Prop := ∀ s a t, f s = some (a, t) → Kor c u s t ∧ J a
def Kok (c u : Bool) {α : Type} (f : M α) : Prop := ∀ s a t, f s = some (a, t) → Kor c u s t
theorem Kok.p {c u : Bool} {α : Type} {f : M α} (h : Kok c u f) : Kop c u (fun _ => True) f := fun s a t e => ⟨h s a t e, trivial⟩
theorem Kop.k {c u : Bool} {α : Type} {J : α → Prop} {f : M α} (h : Kop c u J f) : Kok c u f := fun s a t e => (h s a t e).1
theorem Kok.wc {c u : Bool} {α : Type} {f : M α} (h : Kok true u f) : Kok c u f := fun s a t e => (h s a t e).wc
theorem Kok.wu {c u : Bool} {α : Type} {f : M α} (h : Kok c true f) : Kok c u f := fun s a t e => (h s a t e).wu
theorem op_R {c u : Bool} {α : Type} {J : α → Prop} {a : α} (h : J a) : Kop c u J (oR a) := fun s a' t e => by
  cases e
  exact ⟨Kor.refl c u s, h⟩
theorem op_B {c u : Bool} {α β : Type} {J : α → Prop} {K : β → Prop} {f : M α} {g : α → M β} (hf : Kop c u J f) (hg : ∀ a, J a → Kop c u K (g a)) : Kop c u K (oB f g) := fun s d t e => by
  unfold oB at e
  cases h : f s with
  | none => rw [h] at e; cases e
  | some q =>
    rw [h] at e
    obtain ⟨a, w⟩ := q
    obtain ⟨k1, k2⟩ := hf s a w h
    obtain ⟨k3, k4⟩ := hg a k2 w d t e
    exact ⟨k1.trans k3, k4⟩
theorem op_C {c u : Bool} {α : Type} {J : α → Prop} {p : Prop} [Decidable p] {f g : M α} (hf : Kop c u J f) (hg : Kop c u J g) : Kop c u J (oC p f g) := fun s a t e => by
  unfold oC at e
  by_cases d : p
  · rw [if_pos d] at e
    exact hf s a t e
  · rw [if_neg d] at e
    exact hg s a t e
theorem op_W {c u : Bool} {σ ρ : Type} {body : σ → M (σ ⊕ ρ)} {I : σ → Prop} {J : ρ → Prop} (h : ∀ x, I x → Kop c u (Sum.elim I J) (body x)) (x : σ) (hx : I x) : Kop c u J (oW body x) := fun s a t e => by
  obtain ⟨n, hn⟩ := oW_n body x s (a, t) e
  clear e
  induction n generalizing x s with
  | zero => cases hn
  | succ n ih =>
    cases hc : body x s with
    | none => simp only [oWn, hc] at hn; cases hn
    | some p =>
      obtain ⟨y, s2⟩ := p
      have w := h x hx s y s2 hc
      cases y with
      | inl y =>
        simp only [oWn, hc] at hn
        obtain ⟨k1, k2⟩ := ih y w.2 s2 hn
        exact ⟨w.1.trans k1, k2⟩
      | inr e =>
        simp only [oWn, hc] at hn
        cases hn
        exact w
theorem ko_R {c u : Bool} {α : Type} (a : α) : Kok c u (oR a) := (op_R (J := fun _ => True) trivial).k
theorem ko_F {c u : Bool} {α : Type} : Kok c u (oF : M α) := fun s a t e => by cases e
theorem ko_B {c u : Bool} {α β : Type} {f : M α} {g : α → M β} (hf : Kok c u f) (hg : ∀ a, Kok c u (g a)) : Kok c u (oB f g) := (op_B hf.p (fun a _ => (hg a).p)).k
theorem ko_C {c u : Bool} {α : Type} {p : Prop} [Decidable p] {f g : M α} (hf : Kok c u f) (hg : Kok c u g) : Kok c u (oC p f g) := (op_C hf.p hg.p).k
theorem ko_L {c u : Bool} {α β : Type} {x : α} {g : α → M β} (h : Kok c u (g x)) : Kok c u (oL x g) := h
theorem ko_W {c u : Bool} {σ ρ : Type} {body : σ → M (σ ⊕ ρ)} (h : ∀ x, Kok c u (body x)) (x : σ) : Kok c u (oW body x) := (op_W (I := fun _ => True) (J := fun _ => True) (fun x _ s a t e => ⟨h x s a t e, by cases a <;> trivial⟩) x trivial).k
theorem ko_E {c u : Bool} {α β γ : Type} {f : α → M γ} {g : β → M γ} (hf : ∀ a, Kok c u (f a)) (hg : ∀ b, Kok c u (g b)) (y : α ⊕ β) : Kok c u (Sum.elim f g y) := by
  rcases y with y | y
  · exact hf y
  · exact hg y
theorem ko_id {c u : Bool} {α : Type} {f : M α} (h : ∀ s a t, f s = some (a, t) → t = s) : Kok c u f := fun s a t e => by
  rw [h s a t e]
  exact Kor.refl c u s
theorem ko_K {c u : Bool} (p : Prop) [Decidable p] : Kok c u (oK p) := ko_id fun s a t e => ifs_st e
theorem ko_Ks {c u : Bool} (p : S1 → Prop) : Kok c u (oKs p) := ko_id fun s a t e => by
  unfold oKs at e
  exact @ifs_st _ _ (Classical.propDecidable _) _ _ _ e
theorem ko_GI {c u : Bool} (f : Nat) (i : Int32) : Kok c u (oGI f i) := ko_id fun s a t e => by cases e; rfl
theorem ko_GL {c u : Bool} (f : Nat) (i : Int32) : Kok c u (oGL f i) := ko_id fun s a t e => by cases e; rfl
theorem ko_Ln {c u : Bool} (f : Nat) (i : Int32) : Kok c u (oLn f i) := ko_id fun s a t e => by cases e; rfl
theorem ko_AI {c u : Bool} (a : Nat) (n i j : Int32) : Kok c u (oAI a n i j) := ko_id fun s x t e => ifs_st (x := (gA s a i j, s)) e
theorem ko_AL {c u : Bool} (a : Nat) (n i j : Int32) : Kok c u (oAL a n i j) := ko_id fun s x t e => ifs_st (x := (gB s a i j, s)) e
theorem ko_Pr {c u : Bool} (r : Nat) (i : Int32) : Kok c u (oPr r i) := ko_id fun s x t e => ifs_st (x := ((), s)) e
theorem ko_Pz {c u : Bool} (t' : Nat) (n j : Int32) : Kok c u (oPz t' n j) := ko_id fun s x t e => ifs_st (x := ((), s)) e
theorem ko_Nz {c u : Bool} (t' : Nat) (n j : Int32) : Kok c u (oNz t' n j) := ko_id fun s x t e => by
  unfold oNz at e
  exact ifs_st e
theorem ko_Nw {c u : Bool} (n : Nat × Nat) (k : Nat) : Kok c u (oNw n k) := ko_id fun s x t e => by
  unfold oNw at e
  exact ifs_st e
theorem ko_PI {c u : Bool} {f : Nat} {i x : Int32} (h : ¬ (f = 18948 ∨ f = 19456 ∨ f = 19458 ∨ f = 19461 ∨ f = 19464 ∨ f = 19071 ∨ f / 128 = 144) ∧ f ≠ 18950 ∧ f ≠ 18952 ∧ f ≠ 16395 ∧ f ≠ 16396) : Kok c u (oPI f i x) := fun s a t e => by
  cases e
  have g : ∀ k j, k ≠ f → gI (sI s f i x) k j = gI s k j := fun k j q => by rw [gI_sI, if_neg (fun y => q y.1)]
  exact ⟨fun k j q => g k j (fun z => by unfold foI at q; omega), fun _ _ => rfl, fun j => .inl (g _ _ (by omega)), fun j => .inl (g _ _ (by omega)), fun _ => g _ _ (by omega), fun _ => g _ _ (by omega)⟩
theorem ko_PI5 {c : Bool} {i x : Int32} : Kok c false (oPI 16396 i x) := fun s a t e => by
  cases e
  have g : ∀ k j, k ≠ 16396 → gI (sI s 16396 i x) k j = gI s k j := fun k j q => by rw [gI_sI, if_neg (fun y => q y.1)]
  exact ⟨fun k j q => g k j (fun z => by unfold foI at q; omega), fun _ _ => rfl, fun j => .inl (g _ _ (by omega)), fun j => .inl (g _ _ (by omega)), fun _ => g _ _ (by omega), fun z => by cases z⟩
theorem ko_PI4 {u : Bool} {i x : Int32} : Kok false u (oPI 16395 i x) := fun s a t e => by
  cases e
  have g : ∀ k j, k ≠ 16395 → gI (sI s 16395 i x) k j = gI s k j := fun k j q => by rw [gI_sI, if_neg (fun y => q y.1)]
  exact ⟨fun k j q => g k j (fun z => by unfold foI at q; omega), fun _ _ => rfl, fun j => .inl (g _ _ (by omega)), fun j => .inl (g _ _ (by omega)), fun z => (by cases z), fun _ => g _ _ (by omega)⟩
theorem ko_PI0 {c u : Bool} {i : Int32} : Kok c u (oPI 18950 i (-1)) := fun s a t e => by
  cases e
  have g : ∀ k j, k ≠ 18950 → gI (sI s 18950 i (-1)) k j = gI s k j := fun k j q => by rw [gI_sI, if_neg (fun y => q y.1)]
  refine ⟨fun k j q => g k j (fun z => by unfold foI at q; omega), fun _ _ => rfl, fun j => ?_, fun j => .inl (g _ _ (by omega)), fun _ => g _ _ (by omega), fun _ => g _ _ (by omega)⟩
  rw [gI_sI]
  by_cases z : j = i
  · rw [if_pos ⟨rfl, z⟩]
    exact .inr rfl
  · rw [if_neg (fun y => z y.2)]
    exact .inl rfl
theorem ko_PI2 {c u : Bool} {i : Int32} : Kok c u (oPI 18952 i 1) := fun s a t e => by
  cases e
  have g : ∀ k j, k ≠ 18952 → gI (sI s 18952 i 1) k j = gI s k j := fun k j q => by rw [gI_sI, if_neg (fun y => q y.1)]
  refine ⟨fun k j q => g k j (fun z => by unfold foI at q; omega), fun _ _ => rfl, fun j => .inl (g _ _ (by omega)), fun j => ?_, fun _ => g _ _ (by omega), fun _ => g _ _ (by omega)⟩
  rw [gI_sI]
  by_cases z : j = i
  · rw [if_pos ⟨rfl, z⟩]
    exact .inr rfl
  · rw [if_neg (fun y => z y.2)]
    exact .inl rfl
theorem ko_A {c u : Bool} {α : Type} {f : M α} (h : ∀ s a t, f s = some (a, t) → (∀ k j, gI t k j = gI s k j) ∧ ∀ i j, gA t 104 i j = gA s 104 i j) : Kok c u f := fun s a t e => by
  obtain ⟨g, k⟩ := h s a t e
  exact ⟨fun f j _ => g f j, k, fun j => .inl (g _ _), fun j => .inl (g _ _), fun _ => g _ _, fun _ => g _ _⟩
theorem ko_PL {c u : Bool} {f : Nat} {i : Int32} {x : Int64} : Kok c u (oPL f i x) := ko_A fun s a t e => by
  cases e
  exact ⟨fun _ _ => rfl, fun _ _ => rfl⟩
theorem ko_SI {c u : Bool} {a : Nat} {n i j x : Int32} (h : a ≠ 104) : Kok c u (oSI a n i j x) := ko_A fun s y t e => by
  rw [ifs_st (x := ((), sA s a i j x)) e]
  refine ⟨fun _ _ => rfl, fun p k => ?_⟩
  show gA (sA s a i j x) 104 p k = _
  rw [gA_sA, if_neg (fun y => by omega)]
theorem ko_SL {c u : Bool} {a : Nat} {n i j : Int32} {x : Int64} : Kok c u (oSL a n i j x) := ko_A fun s y t e => by
  rw [ifs_st (x := ((), sB s a i j x)) e]
  exact ⟨fun _ _ => rfl, fun _ _ => rfl⟩
theorem ko_CI {c u : Bool} {ra : Nat} {ia na : Int32} {rb : Nat} {ib nb sp dp n : Int32} (h : rb ≠ 104) : Kok c u (oCI ra ia na rb ib nb sp dp n) := ko_A fun s y t e => by
  rw [ifs_st (x := ((), sAf s rb ib (cpI s ra ia rb ib sp dp n))) e]
  refine ⟨fun _ _ => rfl, fun p k => ?_⟩
  show gA (sAf s rb ib (cpI s ra ia rb ib sp dp n)) 104 p k = _
  rw [gA_sAf, if_neg (fun y => by omega)]
theorem ko_CL {c u : Bool} {ra : Nat} {ia na : Int32} {rb : Nat} {ib nb sp dp n : Int32} : Kok c u (oCL ra ia na rb ib nb sp dp n) := ko_A fun s y t e => by
  rw [ifs_st (x := ((), sBf s rb ib (cpL s ra ia rb ib sp dp n))) e]
  exact ⟨fun _ _ => rfl, fun _ _ => rfl⟩
theorem ko_S {c u : Bool} {f : S1 → S1} (h : ∀ s, Kor c u s (f s)) : Kok c u (oS f) := fun s a t e => by
  cases e
  exact h s
theorem or_of {c u : Bool} {s t : S1} (r : Nat) (hr : 145 ≤ r ∧ r ≤ 147 ∨ r = 118 ∨ r = 154) (h : ∀ k j, k / 128 ≠ r → gI t k j = gI s k j) (a : ∀ i j, gA t 104 i j = gA s 104 i j) : Kor c u s t :=
  ⟨fun k j q => h k j (by unfold foI at q; omega), a, fun j => .inl (h _ _ (by omega)), fun j => .inl (h _ _ (by omega)), fun _ => h _ _ (by omega), fun _ => h _ _ (by omega)⟩
theorem or_nwR {c u : Bool} {r : Nat} {i : Int32} {n : Nat} (h : 145 ≤ r ∧ r ≤ 147 ∨ r = 118 ∨ r = 154) (s : S1) : Kor c u s (nwR s r i n) := by
  refine or_of r h (fun k j q => ?_) (fun i' j => ?_)
  · show (if k = 128 * r + 127 ∧ j = i then 1 else if k = 128 * r + 126 ∧ j = i then Int32.ofNat n else s.1 k j) = s.1 k j
    rw [if_neg (fun y => by omega), if_neg (fun y => by omega)]
  · show (if 104 = r ∧ i' = i then 0 else s.2.2.1 104 i' j) = s.2.2.1 104 i' j
    rw [if_neg (fun y => by omega)]
theorem or_nwO {c u : Bool} {r : Nat} {i : Int32} (h : 145 ≤ r ∧ r ≤ 147 ∨ r = 118 ∨ r = 154) (s : S1) : Kor c u s (nwO s r i) := by
  refine or_of r h (fun k j q => ?_) (fun i' j => rfl)
  show (if k / 128 = r ∧ j = i then (if k % 128 = 127 then 1 else if tcG k = 4 then -1 else 0) else s.1 k j) = s.1 k j
  rw [if_neg (fun y => by omega)]
theorem or_mvB {c u : Bool} {r : Nat} {i : Int32} (h : 145 ≤ r ∧ r ≤ 147 ∨ r = 118) (s : S1) : Kor c u s (mvB s r i) := by
  have g : ∀ k j, k / 128 ≠ r → k ≠ 19839 → gI (mvB s r i) k j = gI s k j := fun k j q q' => by
    show (if k = 128 * r + 127 ∧ j = i then 1 else if k = 128 * r + 126 ∧ j = i then gI s 19838 0 else if k = 19839 ∧ j = 0 then 0 else s.1 k j) = s.1 k j
    rw [if_neg (fun y => by omega), if_neg (fun y => by omega), if_neg (fun y => by omega)]
  refine ⟨fun k j q => g k j (by unfold foI at q; omega) (by unfold foI at q; omega), fun i' j => ?_, fun j => .inl (g _ _ (by omega) (by omega)), fun j => .inl (g _ _ (by omega) (by omega)), fun _ => g _ _ (by omega) (by omega), fun _ => g _ _ (by omega) (by omega)⟩
  show (if 104 = r ∧ i' = i then gA s 154 0 j else s.2.2.1 104 i' j) = s.2.2.1 104 i' j
  rw [if_neg (fun y => by omega)]
theorem or_clB {c u : Bool} {r : Nat} {i : Int32} (s : S1) : Kor c u s (clB s r i) := by
  refine or_of 154 (by omega) (fun k j q => ?_) (fun i' j => ?_)
  · show (if k = 19839 ∧ j = 0 then 1 else if k = 19838 ∧ j = 0 then Int32.ofNat (lnS s r i) else s.1 k j) = s.1 k j
    rw [if_neg (fun y => by omega), if_neg (fun y => by omega)]
  · show (if 104 = 154 ∧ i' = 0 then gA s r i j else s.2.2.1 104 i' j) = s.2.2.1 104 i' j
    rw [if_neg (fun y => by omega)]
theorem ko_Arr_rangeCheck {c u : Bool} (l0 l1 l2 : Int32) : Kok c u (M_Arr_rangeCheck l0 l1 l2) := by
  unfold M_Arr_rangeCheck
  exact ko_C (ko_C (ko_C (ko_R _) ko_F) ko_F) ko_F
theorem ko_Arr_fill {c u : Bool} (r : Nat) (x y : Int32) (h : r ≠ 104) : Kok c u (M_Arr_fill r x y) := by
  unfold M_Arr_fill
  refine ko_L (ko_B (op_W (I := fun x => x.1 ≠ 104) (J := fun _ => True) (fun x hx => ?_) _ h).k (fun _ => ko_R _))
  unfold M_Arr_fill_L5
  exact op_C (op_R trivial) (op_B (ko_SI hx).p fun _ _ => op_R hx)
theorem ko_Arr_fill_ {c u : Bool} (r : Nat) (x y w v : Int32) (h : r ≠ 104) : Kok c u (M_Arr_fill_ r x y w v) := by
  unfold M_Arr_fill_
  refine ko_B (ko_Arr_rangeCheck _ _ _) (fun _ => ko_B (ko_Pr _ _) (fun _ => ko_B (op_W (I := fun x => x.1 ≠ 104) (J := fun _ => True) (fun x hx => ?_) _ h).k (fun _ => ko_R _)))
  unfold M_Arr_fill__L10
  exact op_C (op_R trivial) (op_B (ko_SI hx).p fun _ _ => op_R hx)
theorem ko_Arr_fill__ {c u : Bool} (r : Nat) (x y w : Int32) (v : Int64) (h : r ≠ 104) : Kok c u (M_Arr_fill__ r x y w v) := by
  unfold M_Arr_fill__
  refine ko_B (ko_Arr_rangeCheck _ _ _) (fun _ => ko_B (ko_Pr _ _) (fun _ => ko_B (op_W (I := fun x => x.1 ≠ 104) (J := fun _ => True) (fun x hx => ?_) _ h).k (fun _ => ko_R _)))
  unfold M_Arr_fill___L10
  exact op_C (op_R trivial) (op_B (ko_SL).p fun _ _ => op_R hx)
theorem ko_Arr_fill_____ {c u : Bool} (r : Nat) (x y w v : Int32) (h : r ≠ 104) : Kok c u (M_Arr_fill_____ r x y w v) := by
  unfold M_Arr_fill_____
  refine ko_B (ko_Arr_rangeCheck _ _ _) (fun _ => ko_B (ko_Pr _ _) (fun _ => ko_B (op_W (I := fun x => x.1 ≠ 104) (J := fun _ => True) (fun x hx => ?_) _ h).k (fun _ => ko_R _)))
  unfold M_Arr_fill______L10
  exact op_C (op_R trivial) (op_B (ko_SI hx).p fun _ _ => op_R hx)
