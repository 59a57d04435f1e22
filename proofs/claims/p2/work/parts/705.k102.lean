/-! The class: looking over: what an instruction names; the whole. -/
/-- a name of a kind is there -/
def NT (s : S1) (p c x : Int32) : Prop := (c = 75 → dQ s p x) ∧ (c = 82 → x.toInt < pNr s p) ∧ (c = 85 → x.toInt < pNu s p) ∧ c ≠ 120
theorem there_ok {s : S1} {p c x : Int32} (x0 : 0 ≤ x.toInt) : ok (M_Ch_isThere c x p) s (Dz s (NT s p c x)) := by
  have e256 : (256 : Int32).toInt = 256 := rfl
  simp only [M_Ch_isThere, M_Ch_isThere_j92, M_Ch_isThere_j61, M_Ch_isThere_j75, M_Ch_isThere_j86, ok_B, ok_C, ok_R, ok_L, ok_K, ok_GI, ok_GL, ok_PI, ok_PL, ok_AI, ok_AL, ok_SI, ok_SL, ok_CI, cmp_lt, cmp_le, cmp_gt, cmp_ge, cmp_eq, nar0, nar1, Sum.elim_inl, Sum.elim_inr, ok_PzT, ok_PzC, ok_PzP, ok_PrC, ok_PrP, ok_PrF, ok_PrN, ok_Ln, ok_CL, ok_Nw, ok_S, ok_Ks, ok_Nz]
  have nt : ∀ {k : Int32}, c = k → k ≠ 75 → k ≠ 82 → k ≠ 85 → k ≠ 120 → NT s p c x := fun {k} e a b d f => ⟨fun z => absurd (e.symm.trans z) a, fun z => absurd (e.symm.trans z) b, fun z => absurd (e.symm.trans z) d, fun z => f (e.symm.trans z)⟩
  have j86 : (c = 45 → Dz s (NT s p c x) 1 s) ∧ (¬ c = 45 → Dz s (NT s p c x) 0 s) := ⟨fun z => dz1 (nt z (by decide) (by decide) (by decide) (by decide)), fun _ => dz0⟩
  have j75 : (c = 84 → (x ≤ 1 → Dz s (NT s p c x) 1 s) ∧ (¬ x ≤ 1 → (c = 45 → Dz s (NT s p c x) 1 s) ∧ (¬ c = 45 → Dz s (NT s p c x) 0 s))) ∧ (¬ c = 84 → (c = 45 → Dz s (NT s p c x) 1 s) ∧ (¬ c = 45 → Dz s (NT s p c x) 0 s)) := ⟨fun z => ⟨fun _ => dz1 (nt z (by decide) (by decide) (by decide) (by decide)), fun _ => j86⟩, fun _ => j86⟩
  refine ⟨fun k => ⟨fun g => ⟨fun _ => dz0, fun d => dz1 ?_⟩, fun g => ⟨fun _ => dz0, fun d => dz1 ?_⟩⟩, fun n75 => ⟨fun k => ⟨fun d => dz1 ?_, fun _ => ⟨fun k2 => ⟨fun d => dz1 ?_, fun _ => j75⟩, fun _ => j75⟩⟩, fun _ => ⟨fun k2 => ⟨fun d => dz1 ?_, fun _ => j75⟩, fun _ => j75⟩⟩⟩
  · rw [i32_le, e256] at g
    have es : (x - 256).toInt = x.toInt - 256 := by have := x.toInt_lt; rw [ktI_sub] <;> omega
    rw [i32_le, es] at d
    change ¬ pNc s p ≤ _ at d
    exact ⟨fun _ => ⟨fun z => absurd z (by omega), fun _ => by omega⟩, fun z => absurd (k.symm.trans z) (by decide), fun z => absurd (k.symm.trans z) (by decide), fun z => absurd (k.symm.trans z) (by decide)⟩
  · rw [i32_le, e256] at g
    rw [i32_le] at d
    change ¬ pNr s p ≤ _ at d
    exact ⟨fun _ => ⟨fun z => by omega, fun _ => absurd g (by omega)⟩, fun z => absurd (k.symm.trans z) (by decide), fun z => absurd (k.symm.trans z) (by decide), fun z => absurd (k.symm.trans z) (by decide)⟩
  · rw [i32_lt] at d
    exact ⟨fun z => absurd (k.symm.trans z) (by decide), fun _ => d, fun z => absurd (k.symm.trans z) (by decide), fun z => absurd (k.symm.trans z) (by decide)⟩
  · rw [i32_lt] at d
    exact ⟨fun z => absurd (k2.symm.trans z) (by decide), fun z => absurd (k2.symm.trans z) (by decide), fun _ => d, fun z => absurd (k2.symm.trans z) (by decide)⟩
  · rw [i32_lt] at d
    exact ⟨fun z => absurd (k2.symm.trans z) (by decide), fun z => absurd (k2.symm.trans z) (by decide), fun _ => d, fun z => absurd (k2.symm.trans z) (by decide)⟩
/-- the last register of an instruction's row -/
def LR (o a b c r : Int32) : Prop := (o = 4 ∨ o = 43 → r.toInt = a.toInt + b.toInt) ∧ (o = 12 ∨ o = 42 → r.toInt = a.toInt + 1) ∧ (o = 36 → a.toInt + b.toInt - 1 ≤ r.toInt ∧ a.toInt + c.toInt - 2 ≤ r.toInt) ∧ (o = 37 → r.toInt = a.toInt + b.toInt - 1) ∧ (o = 38 ∨ o = 45 → r.toInt = a.toInt + b.toInt - 2) ∧ (o = 39 ∨ o = 40 → r.toInt = a.toInt + 3) ∧ (o = 41 → r.toInt = a.toInt + 2 + c.toInt)
def lrQ (s : S1) (o a b c r : Int32) (t : S1) : Prop := t = s ∧ LR o a b c r
theorem last_ok {s : S1} {o a b c : Int32} (ha : 0 ≤ a.toInt ∧ a.toInt ≤ 255) (hb : 0 ≤ b.toInt ∧ b.toInt ≤ 511) (hc : 0 ≤ c.toInt ∧ c.toInt ≤ 511) : ok (M_Ch_lastOfRow o a b c) s (lrQ s o a b c) := by
  have e1 : (1 : Int32).toInt = 1 := rfl
  have e2 : (2 : Int32).toInt = 2 := rfl
  have e3 : (3 : Int32).toInt = 3 := rfl
  have ab : (a + b).toInt = a.toInt + b.toInt := by rw [ktI_add]; omega
  have ac : (a + c).toInt = a.toInt + c.toInt := by rw [ktI_add]; omega
  have ab1 : (a + b - 1).toInt = a.toInt + b.toInt - 1 := by rw [ktI_sub] <;> omega
  have ab2 : (a + b - 2).toInt = a.toInt + b.toInt - 2 := by rw [ktI_sub] <;> omega
  have ac2 : (a + c - 2).toInt = a.toInt + c.toInt - 2 := by rw [ktI_sub] <;> omega
  have a1 : (a + 1).toInt = a.toInt + 1 := by rw [ktI_add] <;> omega
  have a3 : (a + 3).toInt = a.toInt + 3 := by rw [ktI_add] <;> omega
  have a2 : (a + 2).toInt = a.toInt + 2 := by rw [ktI_add] <;> omega
  have a2c : (a + 2 + c).toInt = a.toInt + 2 + c.toInt := by rw [ktI_add] <;> omega
  have key : ∀ (k r : Int32), o = k → LR k a b c r → lrQ s o a b c r s := fun k r e h => ⟨rfl, by rw [e]; exact h⟩
  simp only [M_Ch_lastOfRow, ok_B, ok_C, ok_R, ok_L, ok_K, ok_GI, ok_GL, ok_PI, ok_PL, ok_AI, ok_AL, ok_SI, ok_SL, ok_CI, cmp_lt, cmp_le, cmp_gt, cmp_ge, cmp_eq, nar0, nar1, Sum.elim_inl, Sum.elim_inr, ok_PzT, ok_PzC, ok_PzP, ok_PrC, ok_PrP, ok_PrF, ok_PrN, ok_Ln, ok_CL, ok_Nw, ok_S, ok_Ks, ok_Nz]
  refine ⟨fun e => key 4 _ e ?_, fun n4 => ⟨fun e => key 12 _ e ?_, fun n12 => ⟨fun e => key 30 _ e ?_, fun n30 => ⟨fun e => ?_, fun n36 => ⟨fun e => key 37 _ e ?_, fun n37 => ⟨fun e => key 38 _ e ?_, fun n38 => ⟨fun e => key 39 _ e ?_, fun n39 => ⟨fun e => key 40 _ e ?_, fun n40 => ⟨fun e => key 41 _ e ?_, fun n41 => ⟨fun e => key 42 _ e ?_, fun n42 => ⟨fun e => key 43 _ e ?_, fun n43 => ⟨fun e => key 45 _ e ?_, fun n45 => ⟨rfl, ?_⟩⟩⟩⟩⟩⟩⟩⟩⟩⟩⟩⟩⟩
  case refine_4 =>
    refine ok_mono (kmax_ok _ _ s) ?_
    rintro r t ⟨et, -, q1, q2⟩
    rw [et]
    rw [ab1] at q1
    rw [ac2] at q2
    exact key 36 _ e ⟨fun z => absurd z (by decide), fun z => absurd z (by decide), fun _ => ⟨q1, q2⟩, fun z => absurd z (by decide), fun z => absurd z (by decide), fun z => absurd z (by decide), fun z => absurd z (by decide)⟩
  case refine_13 => exact ⟨fun z => (z.elim n4 n43).elim, fun z => (z.elim n12 n42).elim, fun z => absurd z n36, fun z => absurd z n37, fun z => (z.elim n38 n45).elim, fun z => (z.elim n39 n40).elim, fun z => absurd z n41⟩
  all_goals refine ⟨fun z => ?_, fun z => ?_, fun z => ?_, fun z => ?_, fun z => ?_, fun z => ?_, fun z => ?_⟩
  all_goals first
    | exact absurd z (by decide)
    | assumption
