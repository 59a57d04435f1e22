/-! A program goes through, and what holds behind it. -/
def ok {α : Type} (f : M α) (s : S1) (Q : α → S1 → Prop) : Prop := ∃ p, f s = some p ∧ Q p.1 p.2
theorem ok_out {α : Type} {f : M α} {s : S1} {Q : α → S1 → Prop} (h : ok f s Q) : ∃ a s', f s = some (a, s') ∧ Q a s' := by
  obtain ⟨p, h1, h2⟩ := h
  exact ⟨p.1, p.2, h1, h2⟩
theorem ok_in {α : Type} {f : M α} {s : S1} {Q : α → S1 → Prop} {a : α} {s' : S1} (h : f s = some (a, s')) (q : Q a s') : ok f s Q := ⟨(a, s'), h, q⟩
theorem ok_some {α : Type} {f : M α} {s : S1} {a : α} {s' : S1} (h : f s = some (a, s')) (Q : α → S1 → Prop) : ok f s Q ↔ Q a s' := by
  refine ⟨fun ⟨p, h1, h2⟩ => ?_, fun q => ok_in h q⟩
  rw [h] at h1
  cases h1
  exact h2
theorem ok_ifs {α : Type} {f : M α} {s : S1} {c : Prop} [Decidable c] {a : α} {s' : S1} (h : f s = if c then some (a, s') else none) (Q : α → S1 → Prop) : ok f s Q ↔ c ∧ Q a s' := by
  by_cases d : c
  · rw [if_pos d] at h
    rw [ok_some h]
    exact ⟨fun q => ⟨d, q⟩, fun q => q.2⟩
  · rw [if_neg d] at h
    refine ⟨fun ⟨p, h1, h2⟩ => ?_, fun q => absurd q.1 d⟩
    rw [h] at h1
    cases h1
theorem ok_R {α : Type} (a : α) (s : S1) (Q : α → S1 → Prop) : ok (oR a) s Q ↔ Q a s := ok_some rfl Q
theorem ok_B {α β : Type} (f : M α) (g : α → M β) (s : S1) (Q : β → S1 → Prop) : ok (oB f g) s Q ↔ ok f s (fun a s' => ok (g a) s' Q) := by
  constructor
  · rintro ⟨p, h1, h2⟩
    unfold oB at h1
    cases e : f s with
    | none => rw [e] at h1; cases h1
    | some q => rw [e] at h1; exact ⟨q, e, p, h1, h2⟩
  · rintro ⟨q, e, p, h1, h2⟩
    refine ⟨p, ?_, h2⟩
    unfold oB
    rw [e]
    exact h1
theorem ok_L {α β : Type} (x : α) (g : α → M β) (s : S1) (Q : β → S1 → Prop) : ok (oL x g) s Q ↔ ok (g x) s Q := Iff.rfl
theorem ok_C {α : Type} (c : Prop) [Decidable c] (f g : M α) (s : S1) (Q : α → S1 → Prop) : ok (oC c f g) s Q ↔ (c → ok f s Q) ∧ (¬ c → ok g s Q) := by
  by_cases d : c
  · have e : oC c f g s = f s := if_pos d
    unfold ok
    rw [e]
    exact ⟨fun q => ⟨fun _ => q, fun n => absurd d n⟩, fun q => q.1 d⟩
  · have e : oC c f g s = g s := if_neg d
    unfold ok
    rw [e]
    exact ⟨fun q => ⟨fun n => absurd n d, fun _ => q⟩, fun q => q.2 d⟩
theorem ok_K (c : Prop) [Decidable c] (s : S1) (Q : Unit → S1 → Prop) : ok (oK c) s Q ↔ c ∧ Q () s := ok_ifs rfl Q
theorem ok_GI (f : Nat) (i : Int32) (s : S1) (Q : Int32 → S1 → Prop) : ok (oGI f i) s Q ↔ Q (gI s f i) s := ok_some rfl Q
theorem ok_GL (f : Nat) (i : Int32) (s : S1) (Q : Int64 → S1 → Prop) : ok (oGL f i) s Q ↔ Q (gL s f i) s := ok_some rfl Q
theorem ok_PI (f : Nat) (i x : Int32) (s : S1) (Q : Unit → S1 → Prop) : ok (oPI f i x) s Q ↔ Q () (sI s f i x) := ok_some rfl Q
theorem ok_PL (f : Nat) (i : Int32) (x : Int64) (s : S1) (Q : Unit → S1 → Prop) : ok (oPL f i x) s Q ↔ Q () (sL s f i x) := ok_some rfl Q
theorem ok_AI (a : Nat) (n i j : Int32) (s : S1) (Q : Int32 → S1 → Prop) : ok (oAI a n i j) s Q ↔ (0 ≤ j ∧ j < n) ∧ Q (gA s a i j) s := ok_ifs rfl Q
theorem ok_AL (a : Nat) (n i j : Int32) (s : S1) (Q : Int64 → S1 → Prop) : ok (oAL a n i j) s Q ↔ (0 ≤ j ∧ j < n) ∧ Q (gB s a i j) s := ok_ifs rfl Q
theorem ok_SI (a : Nat) (n i j x : Int32) (s : S1) (Q : Unit → S1 → Prop) : ok (oSI a n i j x) s Q ↔ (0 ≤ j ∧ j < n) ∧ Q () (sA s a i j x) := ok_ifs rfl Q
theorem ok_SL (a : Nat) (n i j : Int32) (x : Int64) (s : S1) (Q : Unit → S1 → Prop) : ok (oSL a n i j x) s Q ↔ (0 ≤ j ∧ j < n) ∧ Q () (sB s a i j x) := ok_ifs rfl Q
theorem ok_Pr (r : Nat) (i : Int32) (s : S1) (Q : Unit → S1 → Prop) : ok (oPr r i) s Q ↔ ((dyF r = true → gI s (128 * r + 127) i = 1) ∧ 0 ≤ i ∧ i.toNatClampNeg < cnF r) ∧ Q () s := ok_ifs rfl Q
theorem ok_CI (ra : Nat) (ia na : Int32) (rb : Nat) (ib nb sp dp n : Int32) (s : S1) (Q : Unit → S1 → Prop) : ok (oCI ra ia na rb ib nb sp dp n) s Q ↔ (0 ≤ sp ∧ 0 ≤ dp ∧ 0 ≤ n ∧ sp ≤ na ∧ n ≤ na - sp ∧ dp ≤ nb ∧ n ≤ nb - dp) ∧ Q () (sAf s rb ib (cpI s ra ia rb ib sp dp n)) := ok_ifs rfl Q
theorem ok_mono {α : Type} {f : M α} {s : S1} {P Q : α → S1 → Prop} (h : ok f s P) (hq : ∀ a s', P a s' → Q a s') : ok f s Q := by
  obtain ⟨a, s', h1, h2⟩ := ok_out h
  exact ok_in h1 (hq a s' h2)
theorem ok_W {σ ρ : Type} {body : σ → M (σ ⊕ ρ)} (I : σ → S1 → Prop) (μ : σ → S1 → Nat) {Q : ρ → S1 → Prop}
    (hb : ∀ x s, I x s → ok (body x) s (fun y s' => Sum.elim (fun z => I z s' ∧ μ z s' < μ x s) (fun e => Q e s') y)) : ∀ x s, I x s → ok (oW body x) s Q := by
  intro x s
  induction hn : μ x s using Nat.strongRecOn generalizing x s with
  | _ n ih =>
    intro hx
    obtain ⟨y, s', h1, h2⟩ := ok_out (hb x s hx)
    cases y with
    | inl z =>
      obtain ⟨a, s2, e1, e2⟩ := ok_out (ih (μ z s') (by subst hn; exact h2.2) z s' rfl h2.1)
      refine ok_in ?_ e2
      rw [oW, h1]
      exact e1
    | inr e =>
      refine ok_in (a := e) (s' := s') ?_ h2
      rw [oW, h1]
theorem i32_lt (a b : Int32) : a < b ↔ a.toInt < b.toInt := Int32.lt_iff_toInt_lt
theorem i32_le (a b : Int32) : a ≤ b ↔ a.toInt ≤ b.toInt := Int32.le_iff_toInt_le
theorem i64_lt (a b : Int64) : a < b ↔ a.toInt < b.toInt := Int64.lt_iff_toInt_lt
theorem i64_le (a b : Int64) : a ≤ b ↔ a.toInt ≤ b.toInt := Int64.le_iff_toInt_le
theorem clamp_lt {a b : Int32} (h1 : 0 ≤ a) (h2 : a < b) : a.toNatClampNeg < b.toNatClampNeg := by
  rw [i32_le] at h1
  rw [i32_lt] at h2
  have h0 : (0 : Int32).toInt = 0 := rfl
  unfold Int32.toNatClampNeg
  omega
theorem cmp_lt (x y : Int64) : (lg_cmp x y < 0) ↔ x < y := by
  unfold lg_cmp
  repeat' split
  all_goals grind
theorem cmp_le (x y : Int64) : (lg_cmp x y ≤ 0) ↔ x ≤ y := by
  unfold lg_cmp
  repeat' split
  all_goals grind
theorem cmp_gt (x y : Int64) : (0 < lg_cmp x y) ↔ y < x := by
  unfold lg_cmp
  repeat' split
  all_goals grind
theorem cmp_ge (x y : Int64) : (0 ≤ lg_cmp x y) ↔ y ≤ x := by
  unfold lg_cmp
  repeat' split
  all_goals grind
theorem cmp_eq (x y : Int64) : (lg_cmp x y = 0) ↔ x = y := by
  unfold lg_cmp
  repeat' split
  all_goals grind
theorem nar1 : vp_nar .boolean 1 = 1 := rfl
theorem nar0 : vp_nar .boolean 0 = 0 := rfl
