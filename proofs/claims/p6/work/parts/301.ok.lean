/-! A program goes through, and what holds behind it. -/
def ok {α : Type} (f : M α) (s : S1) (Q : α → S1 → Prop) : Prop := ∃ a s', f s = some (a, s') ∧ Q a s'
theorem ok_R {α : Type} (a : α) (s : S1) (Q : α → S1 → Prop) : ok (oR a) s Q ↔ Q a s := by
  unfold ok oR
  constructor
  · rintro ⟨b, s', h, q⟩
    cases h
    exact q
  · exact fun q => ⟨a, s, rfl, q⟩
theorem ok_B {α β : Type} (f : M α) (g : α → M β) (s : S1) (Q : β → S1 → Prop) : ok (oB f g) s Q ↔ ok f s (fun a s' => ok (g a) s' Q) := by
  unfold ok oB
  cases h : f s with
  | none => simp
  | some p => simp
theorem ok_L {α β : Type} (x : α) (g : α → M β) (s : S1) (Q : β → S1 → Prop) : ok (oL x g) s Q ↔ ok (g x) s Q := Iff.rfl
theorem ok_C {α : Type} (c : Prop) [Decidable c] (f g : M α) (s : S1) (Q : α → S1 → Prop) : ok (oC c f g) s Q ↔ (c → ok f s Q) ∧ (¬ c → ok g s Q) := by
  unfold ok oC
  by_cases h : c <;> simp [h]
theorem ok_K (c : Prop) [Decidable c] (s : S1) (Q : Unit → S1 → Prop) : ok (oK c) s Q ↔ c ∧ Q () s := by
  unfold ok oK
  by_cases h : c <;> simp [h]
theorem ok_GI (f : Nat) (i : Int32) (s : S1) (Q : Int32 → S1 → Prop) : ok (oGI f i) s Q ↔ Q (gI s f i) s := by simp [ok, oGI]
theorem ok_GL (f : Nat) (i : Int32) (s : S1) (Q : Int64 → S1 → Prop) : ok (oGL f i) s Q ↔ Q (gL s f i) s := by simp [ok, oGL]
theorem ok_PI (f : Nat) (i x : Int32) (s : S1) (Q : Unit → S1 → Prop) : ok (oPI f i x) s Q ↔ Q () (sI s f i x) := by simp [ok, oPI]
theorem ok_PL (f : Nat) (i : Int32) (x : Int64) (s : S1) (Q : Unit → S1 → Prop) : ok (oPL f i x) s Q ↔ Q () (sL s f i x) := by simp [ok, oPL]
theorem ok_AI (a : Nat) (n i j : Int32) (s : S1) (Q : Int32 → S1 → Prop) : ok (oAI a n i j) s Q ↔ (0 ≤ j ∧ j < n) ∧ Q (gA s a i j) s := by
  unfold ok oAI
  by_cases h : 0 ≤ j ∧ j < n <;> simp [h]
theorem ok_AL (a : Nat) (n i j : Int32) (s : S1) (Q : Int64 → S1 → Prop) : ok (oAL a n i j) s Q ↔ (0 ≤ j ∧ j < n) ∧ Q (gB s a i j) s := by
  unfold ok oAL
  by_cases h : 0 ≤ j ∧ j < n <;> simp [h]
theorem ok_SI (a : Nat) (n i j x : Int32) (s : S1) (Q : Unit → S1 → Prop) : ok (oSI a n i j x) s Q ↔ (0 ≤ j ∧ j < n) ∧ Q () (sA s a i j x) := by
  unfold ok oSI
  by_cases h : 0 ≤ j ∧ j < n <;> simp [h]
theorem ok_SL (a : Nat) (n i j : Int32) (x : Int64) (s : S1) (Q : Unit → S1 → Prop) : ok (oSL a n i j x) s Q ↔ (0 ≤ j ∧ j < n) ∧ Q () (sB s a i j x) := by
  unfold ok oSL
  by_cases h : 0 ≤ j ∧ j < n <;> simp [h]
theorem ok_Pr (r : Nat) (i : Int32) (s : S1) (Q : Unit → S1 → Prop) : ok (oPr r i) s Q ↔ ((dyF r = true → gI s (128 * r + 127) i = 1) ∧ 0 ≤ i ∧ i.toNatClampNeg < cnF r) ∧ Q () s := by
  unfold ok oPr
  by_cases h : (dyF r = true → gI s (128 * r + 127) i = 1) ∧ 0 ≤ i ∧ i.toNatClampNeg < cnF r
  · rw [if_pos h]
    simp [h]
  · rw [if_neg h]
    simp only [false_and, exists_const, h, reduceCtorEq, exists_false]
theorem ok_CI (ra : Nat) (ia na : Int32) (rb : Nat) (ib nb sp dp n : Int32) (s : S1) (Q : Unit → S1 → Prop) : ok (oCI ra ia na rb ib nb sp dp n) s Q ↔ (0 ≤ sp ∧ 0 ≤ dp ∧ 0 ≤ n ∧ sp ≤ na ∧ n ≤ na - sp ∧ dp ≤ nb ∧ n ≤ nb - dp) ∧ Q () (sAf s rb ib (cpI s ra ia rb ib sp dp n)) := by
  unfold ok oCI
  by_cases h : 0 ≤ sp ∧ 0 ≤ dp ∧ 0 ≤ n ∧ sp ≤ na ∧ n ≤ na - sp ∧ dp ≤ nb ∧ n ≤ nb - dp
  · rw [if_pos h]
    simp [h]
  · rw [if_neg h]
    simp only [false_and, h, reduceCtorEq, exists_false]
theorem ok_mono {α : Type} {f : M α} {s : S1} {P Q : α → S1 → Prop} (h : ok f s P) (hq : ∀ a s', P a s' → Q a s') : ok f s Q := by
  obtain ⟨a, s', h1, h2⟩ := h
  exact ⟨a, s', h1, hq a s' h2⟩
theorem ok_W {σ ρ : Type} {body : σ → M (σ ⊕ ρ)} (I : σ → S1 → Prop) (μ : σ → S1 → Nat) {Q : ρ → S1 → Prop}
    (hb : ∀ x s, I x s → ok (body x) s (fun y s' => Sum.elim (fun z => I z s' ∧ μ z s' < μ x s) (fun e => Q e s') y)) : ∀ x s, I x s → ok (oW body x) s Q := by
  intro x s
  induction hn : μ x s using Nat.strongRecOn generalizing x s with
  | _ n ih =>
    intro hx
    obtain ⟨y, s', h1, h2⟩ := hb x s hx
    unfold ok
    rw [oW, h1]
    cases y with
    | inl z =>
      obtain ⟨a, s2, h3, h4⟩ := ih (μ z s') (by subst hn; exact h2.2) z s' rfl h2.1
      exact ⟨a, s2, h3, h4⟩
    | inr e => exact ⟨e, s', rfl, h2⟩
theorem i32_lt (a b : Int32) : a < b ↔ a.toInt < b.toInt := Int32.lt_iff_toInt_lt
theorem i32_le (a b : Int32) : a ≤ b ↔ a.toInt ≤ b.toInt := Int32.le_iff_toInt_le
theorem i64_lt (a b : Int64) : a < b ↔ a.toInt < b.toInt := Int64.lt_iff_toInt_lt
theorem i64_le (a b : Int64) : a ≤ b ↔ a.toInt ≤ b.toInt := Int64.le_iff_toInt_le
theorem clamp_lt {a b : Int32} (h1 : 0 ≤ a) (h2 : a < b) : a.toNatClampNeg < b.toNatClampNeg := by
  rw [i32_le] at h1
  rw [i32_lt] at h2
  have h0 : (0 : Int32).toInt = 0 := rfl
  unfold Int32.toNatClampNeg
  omega
theorem cmp_lt (x y : Int64) : (lg_cmp x y < 0) ↔ x < y := by
  unfold lg_cmp
  repeat' split
  all_goals grind
theorem cmp_le (x y : Int64) : (lg_cmp x y ≤ 0) ↔ x ≤ y := by
  unfold lg_cmp
  repeat' split
  all_goals grind
theorem cmp_gt (x y : Int64) : (0 < lg_cmp x y) ↔ y < x := by
  unfold lg_cmp
  repeat' split
  all_goals grind
theorem cmp_ge (x y : Int64) : (0 ≤ lg_cmp x y) ↔ y ≤ x := by
  unfold lg_cmp
  repeat' split
  all_goals grind
theorem cmp_eq (x y : Int64) : (lg_cmp x y = 0) ↔ x = y := by
  unfold lg_cmp
  repeat' split
  all_goals grind
theorem nar1 : vp_nar .boolean 1 = 1 := rfl
theorem nar0 : vp_nar .boolean 0 = 0 := rfl
