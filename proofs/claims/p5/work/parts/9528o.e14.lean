/-! Both lookings over: operation by operation. -/
theorem i32_eq {a b : Int32} : a = b ↔ a.toInt = b.toInt := ⟨fun h => by rw [h], toInt_inj⟩
/-- the numbers that an instruction's parts can be -/
def prR (a b c x R : Int32) : Prop := (0 ≤ a.toInt ∧ a.toInt ≤ 255) ∧ (0 ≤ b.toInt ∧ b.toInt ≤ 511) ∧ (0 ≤ c.toInt ∧ c.toInt ≤ 511) ∧ (0 ≤ x.toInt ∧ x.toInt ≤ 262143) ∧ (1 ≤ R.toInt ∧ R.toInt ≤ 250)
theorem add_sub_as (a b c : Int32) : a + (b - c) = a + b - c := by
  rw [Int32.sub_eq_add_neg, Int32.sub_eq_add_neg, Int32.add_assoc]
def nqS (o a b c x i R U K Z : Int32) (G : Int32 → Prop) : Prop := (¬ 46 ≤ o ∧ nmC o a b c x R U K Z ∧ (o = 3 ∧ ¬ c = 0 → G (i + 2)) ∧ (o = 30 ∨ o = 39 ∨ o = 40 ∨ o = 42 → G (i + 1 + x - 131071))) ↔ nmR o a b c x i R U K Z G
theorem toI_add2 {a b : Int32} (h : -1000 ≤ a.toInt ∧ a.toInt ≤ 1000) (k : -1000 ≤ b.toInt ∧ b.toInt ≤ 1000) : (a + b).toInt = a.toInt + b.toInt := ktI_add (by omega)
theorem toI_sub2 {a b : Int32} (h : -3000 ≤ a.toInt ∧ a.toInt ≤ 3000) (k : -1000 ≤ b.toInt ∧ b.toInt ≤ 1000) : (a - b).toInt = a.toInt - b.toInt := ktI_sub (by omega)
theorem nq_0 {a b c x i R U K Z : Int32} {G : Int32 → Prop} (h : prR a b c x R) : nqS 0 a b c x i R U K Z G := by
  obtain ⟨⟨a0, a1⟩, ⟨b0, b1⟩, ⟨c0, c1⟩, ⟨x0, x1⟩, r0, r1⟩ := h
  have s7 : stC 57 0 = 82 := by decide
  have s8 : stC 58 0 = 82 := by decide
  have s9 : stC 59 0 = 45 := by decide
  have ej : i + 1 + (x - 131071) = i + 1 + x - 131071 := add_sub_as _ _ _
  have l0 : (0 : Int32).toInt = 0 := rfl
  have l1 : (1 : Int32).toInt = 1 := rfl
  have l2 : (2 : Int32).toInt = 2 := rfl
  unfold nqS nmC nmR isT lasR exT
  rw [s7, s8, s9]
  try rw [ej]
  generalize G (i + 2) = G2
  generalize G (i + 1 + x - 131071) = GJ
  generalize rkP b R K = PB
  generalize rkP c R K = PC
  generalize rkP a R K = PA
  simp (config := { decide := true }) only [i32_le, i32_lt, i32_eq, l0, l1, l2, if_true, if_false, true_and, and_true, false_and, and_false, true_or, or_true, false_or, or_false, not_true_eq_false, not_false_eq_true, true_implies, false_implies, implies_true, iff_true, iff_false, true_iff, false_iff, and_self, imp_false, Classical.not_not]
  all_goals ((try simp only [true_and, and_true, false_and, and_false, true_or, or_true, false_or, or_false, not_true_eq_false, not_false_eq_true, true_implies, false_implies, implies_true, iff_true, iff_false, true_iff, false_iff, and_self, imp_false, Classical.not_not]) <;> omega)
theorem nq_1 {a b c x i R U K Z : Int32} {G : Int32 → Prop} (h : prR a b c x R) : nqS 1 a b c x i R U K Z G := by
  obtain ⟨⟨a0, a1⟩, ⟨b0, b1⟩, ⟨c0, c1⟩, ⟨x0, x1⟩, r0, r1⟩ := h
  have s7 : stC 57 1 = 82 := by decide
  have s8 : stC 58 1 = 45 := by decide
  have s9 : stC 59 1 = 45 := by decide
  have ej : i + 1 + (x - 131071) = i + 1 + x - 131071 := add_sub_as _ _ _
  have l0 : (0 : Int32).toInt = 0 := rfl
  have l1 : (1 : Int32).toInt = 1 := rfl
  have l2 : (2 : Int32).toInt = 2 := rfl
  unfold nqS nmC nmR isT lasR exT
  rw [s7, s8, s9]
  try rw [ej]
  generalize G (i + 2) = G2
  generalize G (i + 1 + x - 131071) = GJ
  generalize rkP b R K = PB
  generalize rkP c R K = PC
  generalize rkP a R K = PA
  simp (config := { decide := true }) only [i32_le, i32_lt, i32_eq, l0, l1, l2, if_true, if_false, true_and, and_true, false_and, and_false, true_or, or_true, false_or, or_false, not_true_eq_false, not_false_eq_true, true_implies, false_implies, implies_true, iff_true, iff_false, true_iff, false_iff, and_self, imp_false, Classical.not_not]
  all_goals ((try simp only [true_and, and_true, false_and, and_false, true_or, or_true, false_or, or_false, not_true_eq_false, not_false_eq_true, true_implies, false_implies, implies_true, iff_true, iff_false, true_iff, false_iff, and_self, imp_false, Classical.not_not]) <;> omega)
theorem nq_2 {a b c x i R U K Z : Int32} {G : Int32 → Prop} (h : prR a b c x R) : nqS 2 a b c x i R U K Z G := by
  obtain ⟨⟨a0, a1⟩, ⟨b0, b1⟩, ⟨c0, c1⟩, ⟨x0, x1⟩, r0, r1⟩ := h
  have s7 : stC 57 2 = 120 := by decide
  have s8 : stC 58 2 = 120 := by decide
  have s9 : stC 59 2 = 120 := by decide
  have ej : i + 1 + (x - 131071) = i + 1 + x - 131071 := add_sub_as _ _ _
  have l0 : (0 : Int32).toInt = 0 := rfl
  have l1 : (1 : Int32).toInt = 1 := rfl
  have l2 : (2 : Int32).toInt = 2 := rfl
  unfold nqS nmC nmR isT lasR exT
  rw [s7, s8, s9]
  try rw [ej]
  generalize G (i + 2) = G2
  generalize G (i + 1 + x - 131071) = GJ
  generalize rkP b R K = PB
  generalize rkP c R K = PC
  generalize rkP a R K = PA
  simp (config := { decide := true }) only [i32_le, i32_lt, i32_eq, l0, l1, l2, if_true, if_false, true_and, and_true, false_and, and_false, true_or, or_true, false_or, or_false, not_true_eq_false, not_false_eq_true, true_implies, false_implies, implies_true, iff_true, iff_false, true_iff, false_iff, and_self, imp_false, Classical.not_not]
  all_goals ((try simp only [true_and, and_true, false_and, and_false, true_or, or_true, false_or, or_false, not_true_eq_false, not_false_eq_true, true_implies, false_implies, implies_true, iff_true, iff_false, true_iff, false_iff, and_self, imp_false, Classical.not_not]) <;> omega)
theorem nq_3 {a b c x i R U K Z : Int32} {G : Int32 → Prop} (h : prR a b c x R) : nqS 3 a b c x i R U K Z G := by
  obtain ⟨⟨a0, a1⟩, ⟨b0, b1⟩, ⟨c0, c1⟩, ⟨x0, x1⟩, r0, r1⟩ := h
  have s7 : stC 57 3 = 82 := by decide
  have s8 : stC 58 3 = 45 := by decide
  have s9 : stC 59 3 = 45 := by decide
  have ej : i + 1 + (x - 131071) = i + 1 + x - 131071 := add_sub_as _ _ _
  have l0 : (0 : Int32).toInt = 0 := rfl
  have l1 : (1 : Int32).toInt = 1 := rfl
  have l2 : (2 : Int32).toInt = 2 := rfl
  unfold nqS nmC nmR isT lasR exT
  rw [s7, s8, s9]
  try rw [ej]
  generalize G (i + 2) = G2
  generalize G (i + 1 + x - 131071) = GJ
  generalize rkP b R K = PB
  generalize rkP c R K = PC
  generalize rkP a R K = PA
  simp (config := { decide := true }) only [i32_le, i32_lt, i32_eq, l0, l1, l2, if_true, if_false, true_and, and_true, false_and, and_false, true_or, or_true, false_or, or_false, not_true_eq_false, not_false_eq_true, true_implies, false_implies, implies_true, iff_true, iff_false, true_iff, false_iff, and_self, imp_false, Classical.not_not]
  all_goals ((by_cases hG2 : G2) <;> (try simp only [hG2, true_and, and_true, false_and, and_false, true_or, or_true, false_or, or_false, not_true_eq_false, not_false_eq_true, true_implies, false_implies, implies_true, iff_true, iff_false, true_iff, false_iff, and_self, imp_false, Classical.not_not]) <;> omega)
theorem nq_4 {a b c x i R U K Z : Int32} {G : Int32 → Prop} (h : prR a b c x R) : nqS 4 a b c x i R U K Z G := by
  obtain ⟨⟨a0, a1⟩, ⟨b0, b1⟩, ⟨c0, c1⟩, ⟨x0, x1⟩, r0, r1⟩ := h
  have s7 : stC 57 4 = 82 := by decide
  have s8 : stC 58 4 = 45 := by decide
  have s9 : stC 59 4 = 45 := by decide
  have q_ab : (a + b).toInt = a.toInt + b.toInt := by
    have z : (a + b).toInt = _ := toI_add2 ⟨by omega, by omega⟩ ⟨by omega, by omega⟩
    have lab : (0 : Int32).toInt = 0 := rfl
    omega
  have ej : i + 1 + (x - 131071) = i + 1 + x - 131071 := add_sub_as _ _ _
  have l0 : (0 : Int32).toInt = 0 := rfl
  have l1 : (1 : Int32).toInt = 1 := rfl
  have l2 : (2 : Int32).toInt = 2 := rfl
  unfold nqS nmC nmR isT lasR exT
  rw [s7, s8, s9]
  try rw [ej]
  generalize G (i + 2) = G2
  generalize G (i + 1 + x - 131071) = GJ
  generalize rkP b R K = PB
  generalize rkP c R K = PC
  generalize rkP a R K = PA
  simp (config := { decide := true }) only [i32_le, i32_lt, i32_eq, l0, l1, l2, if_true, if_false, q_ab, true_and, and_true, false_and, and_false, true_or, or_true, false_or, or_false, not_true_eq_false, not_false_eq_true, true_implies, false_implies, implies_true, iff_true, iff_false, true_iff, false_iff, and_self, imp_false, Classical.not_not]
  all_goals ((try simp only [true_and, and_true, false_and, and_false, true_or, or_true, false_or, or_false, not_true_eq_false, not_false_eq_true, true_implies, false_implies, implies_true, iff_true, iff_false, true_iff, false_iff, and_self, imp_false, Classical.not_not]) <;> omega)
theorem nq_5 {a b c x i R U K Z : Int32} {G : Int32 → Prop} (h : prR a b c x R) : nqS 5 a b c x i R U K Z G := by
  obtain ⟨⟨a0, a1⟩, ⟨b0, b1⟩, ⟨c0, c1⟩, ⟨x0, x1⟩, r0, r1⟩ := h
  have s7 : stC 57 5 = 82 := by decide
  have s8 : stC 58 5 = 85 := by decide
  have s9 : stC 59 5 = 45 := by decide
  have ej : i + 1 + (x - 131071) = i + 1 + x - 131071 := add_sub_as _ _ _
  have l0 : (0 : Int32).toInt = 0 := rfl
  have l1 : (1 : Int32).toInt = 1 := rfl
  have l2 : (2 : Int32).toInt = 2 := rfl
  unfold nqS nmC nmR isT lasR exT
  rw [s7, s8, s9]
  try rw [ej]
  generalize G (i + 2) = G2
  generalize G (i + 1 + x - 131071) = GJ
  generalize rkP b R K = PB
  generalize rkP c R K = PC
  generalize rkP a R K = PA
  simp (config := { decide := true }) only [i32_le, i32_lt, i32_eq, l0, l1, l2, if_true, if_false, true_and, and_true, false_and, and_false, true_or, or_true, false_or, or_false, not_true_eq_false, not_false_eq_true, true_implies, false_implies, implies_true, iff_true, iff_false, true_iff, false_iff, and_self, imp_false, Classical.not_not]
  all_goals ((try simp only [true_and, and_true, false_and, and_false, true_or, or_true, false_or, or_false, not_true_eq_false, not_false_eq_true, true_implies, false_implies, implies_true, iff_true, iff_false, true_iff, false_iff, and_self, imp_false, Classical.not_not]) <;> omega)
theorem nq_6 {a b c x i R U K Z : Int32} {G : Int32 → Prop} (h : prR a b c x R) : nqS 6 a b c x i R U K Z G := by
  obtain ⟨⟨a0, a1⟩, ⟨b0, b1⟩, ⟨c0, c1⟩, ⟨x0, x1⟩, r0, r1⟩ := h
  have s7 : stC 57 6 = 82 := by decide
  have s8 : stC 58 6 = 85 := by decide
  have s9 : stC 59 6 = 75 := by decide
  have ej : i + 1 + (x - 131071) = i + 1 + x - 131071 := add_sub_as _ _ _
  have l0 : (0 : Int32).toInt = 0 := rfl
  have l1 : (1 : Int32).toInt = 1 := rfl
  have l2 : (2 : Int32).toInt = 2 := rfl
  unfold nqS nmC nmR isT lasR exT
  rw [s7, s8, s9]
  try rw [ej]
  generalize G (i + 2) = G2
  generalize G (i + 1 + x - 131071) = GJ
  generalize rkP b R K = PB
  generalize rkP c R K = PC
  generalize rkP a R K = PA
  simp (config := { decide := true }) only [i32_le, i32_lt, i32_eq, l0, l1, l2, if_true, if_false, true_and, and_true, false_and, and_false, true_or, or_true, false_or, or_false, not_true_eq_false, not_false_eq_true, true_implies, false_implies, implies_true, iff_true, iff_false, true_iff, false_iff, and_self, imp_false, Classical.not_not]
  all_goals ((by_cases hPC : PC) <;> (try simp only [hPC, true_and, and_true, false_and, and_false, true_or, or_true, false_or, or_false, not_true_eq_false, not_false_eq_true, true_implies, false_implies, implies_true, iff_true, iff_false, true_iff, false_iff, and_self, imp_false, Classical.not_not]) <;> omega)
theorem nq_7 {a b c x i R U K Z : Int32} {G : Int32 → Prop} (h : prR a b c x R) : nqS 7 a b c x i R U K Z G := by
  obtain ⟨⟨a0, a1⟩, ⟨b0, b1⟩, ⟨c0, c1⟩, ⟨x0, x1⟩, r0, r1⟩ := h
  have s7 : stC 57 7 = 82 := by decide
  have s8 : stC 58 7 = 82 := by decide
  have s9 : stC 59 7 = 75 := by decide
  have ej : i + 1 + (x - 131071) = i + 1 + x - 131071 := add_sub_as _ _ _
  have l0 : (0 : Int32).toInt = 0 := rfl
  have l1 : (1 : Int32).toInt = 1 := rfl
  have l2 : (2 : Int32).toInt = 2 := rfl
  unfold nqS nmC nmR isT lasR exT
  rw [s7, s8, s9]
  try rw [ej]
  generalize G (i + 2) = G2
  generalize G (i + 1 + x - 131071) = GJ
  generalize rkP b R K = PB
  generalize rkP c R K = PC
  generalize rkP a R K = PA
  simp (config := { decide := true }) only [i32_le, i32_lt, i32_eq, l0, l1, l2, if_true, if_false, true_and, and_true, false_and, and_false, true_or, or_true, false_or, or_false, not_true_eq_false, not_false_eq_true, true_implies, false_implies, implies_true, iff_true, iff_false, true_iff, false_iff, and_self, imp_false, Classical.not_not]
  all_goals ((by_cases hPC : PC) <;> (try simp only [hPC, true_and, and_true, false_and, and_false, true_or, or_true, false_or, or_false, not_true_eq_false, not_false_eq_true, true_implies, false_implies, implies_true, iff_true, iff_false, true_iff, false_iff, and_self, imp_false, Classical.not_not]) <;> omega)
theorem nq_8 {a b c x i R U K Z : Int32} {G : Int32 → Prop} (h : prR a b c x R) : nqS 8 a b c x i R U K Z G := by
  obtain ⟨⟨a0, a1⟩, ⟨b0, b1⟩, ⟨c0, c1⟩, ⟨x0, x1⟩, r0, r1⟩ := h
  have s7 : stC 57 8 = 85 := by decide
  have s8 : stC 58 8 = 75 := by decide
  have s9 : stC 59 8 = 75 := by decide
  have ej : i + 1 + (x - 131071) = i + 1 + x - 131071 := add_sub_as _ _ _
  have l0 : (0 : Int32).toInt = 0 := rfl
  have l1 : (1 : Int32).toInt = 1 := rfl
  have l2 : (2 : Int32).toInt = 2 := rfl
  unfold nqS nmC nmR isT lasR exT
  rw [s7, s8, s9]
  try rw [ej]
  generalize G (i + 2) = G2
  generalize G (i + 1 + x - 131071) = GJ
  generalize rkP b R K = PB
  generalize rkP c R K = PC
  generalize rkP a R K = PA
  simp (config := { decide := true }) only [i32_le, i32_lt, i32_eq, l0, l1, l2, if_true, if_false, true_and, and_true, false_and, and_false, true_or, or_true, false_or, or_false, not_true_eq_false, not_false_eq_true, true_implies, false_implies, implies_true, iff_true, iff_false, true_iff, false_iff, and_self, imp_false, Classical.not_not]
  all_goals ((by_cases hPB : PB) <;> (by_cases hPC : PC) <;> (try simp only [hPB, hPC, true_and, and_true, false_and, and_false, true_or, or_true, false_or, or_false, not_true_eq_false, not_false_eq_true, true_implies, false_implies, implies_true, iff_true, iff_false, true_iff, false_iff, and_self, imp_false, Classical.not_not]) <;> omega)
theorem nq_9 {a b c x i R U K Z : Int32} {G : Int32 → Prop} (h : prR a b c x R) : nqS 9 a b c x i R U K Z G := by
  obtain ⟨⟨a0, a1⟩, ⟨b0, b1⟩, ⟨c0, c1⟩, ⟨x0, x1⟩, r0, r1⟩ := h
  have s7 : stC 57 9 = 82 := by decide
  have s8 : stC 58 9 = 85 := by decide
  have s9 : stC 59 9 = 45 := by decide
  have ej : i + 1 + (x - 131071) = i + 1 + x - 131071 := add_sub_as _ _ _
  have l0 : (0 : Int32).toInt = 0 := rfl
  have l1 : (1 : Int32).toInt = 1 := rfl
  have l2 : (2 : Int32).toInt = 2 := rfl
  unfold nqS nmC nmR isT lasR exT
  rw [s7, s8, s9]
  try rw [ej]
  generalize G (i + 2) = G2
  generalize G (i + 1 + x - 131071) = GJ
  generalize rkP b R K = PB
  generalize rkP c R K = PC
  generalize rkP a R K = PA
  simp (config := { decide := true }) only [i32_le, i32_lt, i32_eq, l0, l1, l2, if_true, if_false, true_and, and_true, false_and, and_false, true_or, or_true, false_or, or_false, not_true_eq_false, not_false_eq_true, true_implies, false_implies, implies_true, iff_true, iff_false, true_iff, false_iff, and_self, imp_false, Classical.not_not]
  all_goals ((try simp only [true_and, and_true, false_and, and_false, true_or, or_true, false_or, or_false, not_true_eq_false, not_false_eq_true, true_implies, false_implies, implies_true, iff_true, iff_false, true_iff, false_iff, and_self, imp_false, Classical.not_not]) <;> omega)
theorem nq_10 {a b c x i R U K Z : Int32} {G : Int32 → Prop} (h : prR a b c x R) : nqS 10 a b c x i R U K Z G := by
  obtain ⟨⟨a0, a1⟩, ⟨b0, b1⟩, ⟨c0, c1⟩, ⟨x0, x1⟩, r0, r1⟩ := h
  have s7 : stC 57 10 = 82 := by decide
  have s8 : stC 58 10 = 75 := by decide
  have s9 : stC 59 10 = 75 := by decide
  have ej : i + 1 + (x - 131071) = i + 1 + x - 131071 := add_sub_as _ _ _
  have l0 : (0 : Int32).toInt = 0 := rfl
  have l1 : (1 : Int32).toInt = 1 := rfl
  have l2 : (2 : Int32).toInt = 2 := rfl
  unfold nqS nmC nmR isT lasR exT
  rw [s7, s8, s9]
  try rw [ej]
  generalize G (i + 2) = G2
  generalize G (i + 1 + x - 131071) = GJ
  generalize rkP b R K = PB
  generalize rkP c R K = PC
  generalize rkP a R K = PA
  simp (config := { decide := true }) only [i32_le, i32_lt, i32_eq, l0, l1, l2, if_true, if_false, true_and, and_true, false_and, and_false, true_or, or_true, false_or, or_false, not_true_eq_false, not_false_eq_true, true_implies, false_implies, implies_true, iff_true, iff_false, true_iff, false_iff, and_self, imp_false, Classical.not_not]
  all_goals ((by_cases hPB : PB) <;> (by_cases hPC : PC) <;> (try simp only [hPB, hPC, true_and, and_true, false_and, and_false, true_or, or_true, false_or, or_false, not_true_eq_false, not_false_eq_true, true_implies, false_implies, implies_true, iff_true, iff_false, true_iff, false_iff, and_self, imp_false, Classical.not_not]) <;> omega)
theorem nq_11 {a b c x i R U K Z : Int32} {G : Int32 → Prop} (h : prR a b c x R) : nqS 11 a b c x i R U K Z G := by
  obtain ⟨⟨a0, a1⟩, ⟨b0, b1⟩, ⟨c0, c1⟩, ⟨x0, x1⟩, r0, r1⟩ := h
  have s7 : stC 57 11 = 82 := by decide
  have s8 : stC 58 11 = 45 := by decide
  have s9 : stC 59 11 = 45 := by decide
  have ej : i + 1 + (x - 131071) = i + 1 + x - 131071 := add_sub_as _ _ _
  have l0 : (0 : Int32).toInt = 0 := rfl
  have l1 : (1 : Int32).toInt = 1 := rfl
  have l2 : (2 : Int32).toInt = 2 := rfl
  unfold nqS nmC nmR isT lasR exT
  rw [s7, s8, s9]
  try rw [ej]
  generalize G (i + 2) = G2
  generalize G (i + 1 + x - 131071) = GJ
  generalize rkP b R K = PB
  generalize rkP c R K = PC
  generalize rkP a R K = PA
  simp (config := { decide := true }) only [i32_le, i32_lt, i32_eq, l0, l1, l2, if_true, if_false, true_and, and_true, false_and, and_false, true_or, or_true, false_or, or_false, not_true_eq_false, not_false_eq_true, true_implies, false_implies, implies_true, iff_true, iff_false, true_iff, false_iff, and_self, imp_false, Classical.not_not]
  all_goals ((try simp only [true_and, and_true, false_and, and_false, true_or, or_true, false_or, or_false, not_true_eq_false, not_false_eq_true, true_implies, false_implies, implies_true, iff_true, iff_false, true_iff, false_iff, and_self, imp_false, Classical.not_not]) <;> omega)
theorem nq_12 {a b c x i R U K Z : Int32} {G : Int32 → Prop} (h : prR a b c x R) : nqS 12 a b c x i R U K Z G := by
  obtain ⟨⟨a0, a1⟩, ⟨b0, b1⟩, ⟨c0, c1⟩, ⟨x0, x1⟩, r0, r1⟩ := h
  have s7 : stC 57 12 = 82 := by decide
  have s8 : stC 58 12 = 82 := by decide
  have s9 : stC 59 12 = 75 := by decide
  have q_a1 : (a + 1).toInt = a.toInt + 1 := by
    have z : (a + 1).toInt = _ := toI_add2 ⟨by omega, by omega⟩ (by decide)
    have la1 : (1 : Int32).toInt = 1 := rfl
    omega
  have ej : i + 1 + (x - 131071) = i + 1 + x - 131071 := add_sub_as _ _ _
  have l0 : (0 : Int32).toInt = 0 := rfl
  have l1 : (1 : Int32).toInt = 1 := rfl
  have l2 : (2 : Int32).toInt = 2 := rfl
  unfold nqS nmC nmR isT lasR exT
  rw [s7, s8, s9]
  try rw [ej]
  generalize G (i + 2) = G2
  generalize G (i + 1 + x - 131071) = GJ
  generalize rkP b R K = PB
  generalize rkP c R K = PC
  generalize rkP a R K = PA
  simp (config := { decide := true }) only [i32_le, i32_lt, i32_eq, l0, l1, l2, if_true, if_false, q_a1, true_and, and_true, false_and, and_false, true_or, or_true, false_or, or_false, not_true_eq_false, not_false_eq_true, true_implies, false_implies, implies_true, iff_true, iff_false, true_iff, false_iff, and_self, imp_false, Classical.not_not]
  all_goals ((by_cases hPC : PC) <;> (try simp only [hPC, true_and, and_true, false_and, and_false, true_or, or_true, false_or, or_false, not_true_eq_false, not_false_eq_true, true_implies, false_implies, implies_true, iff_true, iff_false, true_iff, false_iff, and_self, imp_false, Classical.not_not]) <;> omega)
theorem nq_13 {a b c x i R U K Z : Int32} {G : Int32 → Prop} (h : prR a b c x R) : nqS 13 a b c x i R U K Z G := by
  obtain ⟨⟨a0, a1⟩, ⟨b0, b1⟩, ⟨c0, c1⟩, ⟨x0, x1⟩, r0, r1⟩ := h
  have s7 : stC 57 13 = 82 := by decide
  have s8 : stC 58 13 = 75 := by decide
  have s9 : stC 59 13 = 75 := by decide
  have ej : i + 1 + (x - 131071) = i + 1 + x - 131071 := add_sub_as _ _ _
  have l0 : (0 : Int32).toInt = 0 := rfl
  have l1 : (1 : Int32).toInt = 1 := rfl
  have l2 : (2 : Int32).toInt = 2 := rfl
  unfold nqS nmC nmR isT lasR exT
  rw [s7, s8, s9]
  try rw [ej]
  generalize G (i + 2) = G2
  generalize G (i + 1 + x - 131071) = GJ
  generalize rkP b R K = PB
  generalize rkP c R K = PC
  generalize rkP a R K = PA
  simp (config := { decide := true }) only [i32_le, i32_lt, i32_eq, l0, l1, l2, if_true, if_false, true_and, and_true, false_and, and_false, true_or, or_true, false_or, or_false, not_true_eq_false, not_false_eq_true, true_implies, false_implies, implies_true, iff_true, iff_false, true_iff, false_iff, and_self, imp_false, Classical.not_not]
  all_goals ((by_cases hPB : PB) <;> (by_cases hPC : PC) <;> (try simp only [hPB, hPC, true_and, and_true, false_and, and_false, true_or, or_true, false_or, or_false, not_true_eq_false, not_false_eq_true, true_implies, false_implies, implies_true, iff_true, iff_false, true_iff, false_iff, and_self, imp_false, Classical.not_not]) <;> omega)
theorem nq_14 {a b c x i R U K Z : Int32} {G : Int32 → Prop} (h : prR a b c x R) : nqS 14 a b c x i R U K Z G := by
  obtain ⟨⟨a0, a1⟩, ⟨b0, b1⟩, ⟨c0, c1⟩, ⟨x0, x1⟩, r0, r1⟩ := h
  have s7 : stC 57 14 = 82 := by decide
  have s8 : stC 58 14 = 75 := by decide
  have s9 : stC 59 14 = 75 := by decide
  have ej : i + 1 + (x - 131071) = i + 1 + x - 131071 := add_sub_as _ _ _
  have l0 : (0 : Int32).toInt = 0 := rfl
  have l1 : (1 : Int32).toInt = 1 := rfl
  have l2 : (2 : Int32).toInt = 2 := rfl
  unfold nqS nmC nmR isT lasR exT
  rw [s7, s8, s9]
  try rw [ej]
  generalize G (i + 2) = G2
  generalize G (i + 1 + x - 131071) = GJ
  generalize rkP b R K = PB
  generalize rkP c R K = PC
  generalize rkP a R K = PA
  simp (config := { decide := true }) only [i32_le, i32_lt, i32_eq, l0, l1, l2, if_true, if_false, true_and, and_true, false_and, and_false, true_or, or_true, false_or, or_false, not_true_eq_false, not_false_eq_true, true_implies, false_implies, implies_true, iff_true, iff_false, true_iff, false_iff, and_self, imp_false, Classical.not_not]
  all_goals ((by_cases hPB : PB) <;> (by_cases hPC : PC) <;> (try simp only [hPB, hPC, true_and, and_true, false_and, and_false, true_or, or_true, false_or, or_false, not_true_eq_false, not_false_eq_true, true_implies, false_implies, implies_true, iff_true, iff_false, true_iff, false_iff, and_self, imp_false, Classical.not_not]) <;> omega)
theorem nq_15 {a b c x i R U K Z : Int32} {G : Int32 → Prop} (h : prR a b c x R) : nqS 15 a b c x i R U K Z G := by
  obtain ⟨⟨a0, a1⟩, ⟨b0, b1⟩, ⟨c0, c1⟩, ⟨x0, x1⟩, r0, r1⟩ := h
  have s7 : stC 57 15 = 82 := by decide
  have s8 : stC 58 15 = 75 := by decide
  have s9 : stC 59 15 = 75 := by decide
  have ej : i + 1 + (x - 131071) = i + 1 + x - 131071 := add_sub_as _ _ _
  have l0 : (0 : Int32).toInt = 0 := rfl
  have l1 : (1 : Int32).toInt = 1 := rfl
  have l2 : (2 : Int32).toInt = 2 := rfl
  unfold nqS nmC nmR isT lasR exT
  rw [s7, s8, s9]
  try rw [ej]
  generalize G (i + 2) = G2
  generalize G (i + 1 + x - 131071) = GJ
  generalize rkP b R K = PB
  generalize rkP c R K = PC
  generalize rkP a R K = PA
  simp (config := { decide := true }) only [i32_le, i32_lt, i32_eq, l0, l1, l2, if_true, if_false, true_and, and_true, false_and, and_false, true_or, or_true, false_or, or_false, not_true_eq_false, not_false_eq_true, true_implies, false_implies, implies_true, iff_true, iff_false, true_iff, false_iff, and_self, imp_false, Classical.not_not]
  all_goals ((by_cases hPB : PB) <;> (by_cases hPC : PC) <;> (try simp only [hPB, hPC, true_and, and_true, false_and, and_false, true_or, or_true, false_or, or_false, not_true_eq_false, not_false_eq_true, true_implies, false_implies, implies_true, iff_true, iff_false, true_iff, false_iff, and_self, imp_false, Classical.not_not]) <;> omega)
theorem nq_16 {a b c x i R U K Z : Int32} {G : Int32 → Prop} (h : prR a b c x R) : nqS 16 a b c x i R U K Z G := by
  obtain ⟨⟨a0, a1⟩, ⟨b0, b1⟩, ⟨c0, c1⟩, ⟨x0, x1⟩, r0, r1⟩ := h
  have s7 : stC 57 16 = 82 := by decide
  have s8 : stC 58 16 = 75 := by decide
  have s9 : stC 59 16 = 75 := by decide
  have ej : i + 1 + (x - 131071) = i + 1 + x - 131071 := add_sub_as _ _ _
  have l0 : (0 : Int32).toInt = 0 := rfl
  have l1 : (1 : Int32).toInt = 1 := rfl
  have l2 : (2 : Int32).toInt = 2 := rfl
  unfold nqS nmC nmR isT lasR exT
  rw [s7, s8, s9]
  try rw [ej]
  generalize G (i + 2) = G2
  generalize G (i + 1 + x - 131071) = GJ
  generalize rkP b R K = PB
  generalize rkP c R K = PC
  generalize rkP a R K = PA
  simp (config := { decide := true }) only [i32_le, i32_lt, i32_eq, l0, l1, l2, if_true, if_false, true_and, and_true, false_and, and_false, true_or, or_true, false_or, or_false, not_true_eq_false, not_false_eq_true, true_implies, false_implies, implies_true, iff_true, iff_false, true_iff, false_iff, and_self, imp_false, Classical.not_not]
  all_goals ((by_cases hPB : PB) <;> (by_cases hPC : PC) <;> (try simp only [hPB, hPC, true_and, and_true, false_and, and_false, true_or, or_true, false_or, or_false, not_true_eq_false, not_false_eq_true, true_implies, false_implies, implies_true, iff_true, iff_false, true_iff, false_iff, and_self, imp_false, Classical.not_not]) <;> omega)
theorem nq_17 {a b c x i R U K Z : Int32} {G : Int32 → Prop} (h : prR a b c x R) : nqS 17 a b c x i R U K Z G := by
  obtain ⟨⟨a0, a1⟩, ⟨b0, b1⟩, ⟨c0, c1⟩, ⟨x0, x1⟩, r0, r1⟩ := h
  have s7 : stC 57 17 = 120 := by decide
  have s8 : stC 58 17 = 120 := by decide
  have s9 : stC 59 17 = 120 := by decide
  have ej : i + 1 + (x - 131071) = i + 1 + x - 131071 := add_sub_as _ _ _
  have l0 : (0 : Int32).toInt = 0 := rfl
  have l1 : (1 : Int32).toInt = 1 := rfl
  have l2 : (2 : Int32).toInt = 2 := rfl
  unfold nqS nmC nmR isT lasR exT
  rw [s7, s8, s9]
  try rw [ej]
  generalize G (i + 2) = G2
  generalize G (i + 1 + x - 131071) = GJ
  generalize rkP b R K = PB
  generalize rkP c R K = PC
  generalize rkP a R K = PA
  simp (config := { decide := true }) only [i32_le, i32_lt, i32_eq, l0, l1, l2, if_true, if_false, true_and, and_true, false_and, and_false, true_or, or_true, false_or, or_false, not_true_eq_false, not_false_eq_true, true_implies, false_implies, implies_true, iff_true, iff_false, true_iff, false_iff, and_self, imp_false, Classical.not_not]
  all_goals ((try simp only [true_and, and_true, false_and, and_false, true_or, or_true, false_or, or_false, not_true_eq_false, not_false_eq_true, true_implies, false_implies, implies_true, iff_true, iff_false, true_iff, false_iff, and_self, imp_false, Classical.not_not]) <;> omega)
theorem nq_18 {a b c x i R U K Z : Int32} {G : Int32 → Prop} (h : prR a b c x R) : nqS 18 a b c x i R U K Z G := by
  obtain ⟨⟨a0, a1⟩, ⟨b0, b1⟩, ⟨c0, c1⟩, ⟨x0, x1⟩, r0, r1⟩ := h
  have s7 : stC 57 18 = 120 := by decide
  have s8 : stC 58 18 = 120 := by decide
  have s9 : stC 59 18 = 120 := by decide
  have ej : i + 1 + (x - 131071) = i + 1 + x - 131071 := add_sub_as _ _ _
  have l0 : (0 : Int32).toInt = 0 := rfl
  have l1 : (1 : Int32).toInt = 1 := rfl
  have l2 : (2 : Int32).toInt = 2 := rfl
  unfold nqS nmC nmR isT lasR exT
  rw [s7, s8, s9]
  try rw [ej]
  generalize G (i + 2) = G2
  generalize G (i + 1 + x - 131071) = GJ
  generalize rkP b R K = PB
  generalize rkP c R K = PC
  generalize rkP a R K = PA
  simp (config := { decide := true }) only [i32_le, i32_lt, i32_eq, l0, l1, l2, if_true, if_false, true_and, and_true, false_and, and_false, true_or, or_true, false_or, or_false, not_true_eq_false, not_false_eq_true, true_implies, false_implies, implies_true, iff_true, iff_false, true_iff, false_iff, and_self, imp_false, Classical.not_not]
  all_goals ((try simp only [true_and, and_true, false_and, and_false, true_or, or_true, false_or, or_false, not_true_eq_false, not_false_eq_true, true_implies, false_implies, implies_true, iff_true, iff_false, true_iff, false_iff, and_self, imp_false, Classical.not_not]) <;> omega)
theorem nq_19 {a b c x i R U K Z : Int32} {G : Int32 → Prop} (h : prR a b c x R) : nqS 19 a b c x i R U K Z G := by
  obtain ⟨⟨a0, a1⟩, ⟨b0, b1⟩, ⟨c0, c1⟩, ⟨x0, x1⟩, r0, r1⟩ := h
  have s7 : stC 57 19 = 82 := by decide
  have s8 : stC 58 19 = 75 := by decide
  have s9 : stC 59 19 = 75 := by decide
  have ej : i + 1 + (x - 131071) = i + 1 + x - 131071 := add_sub_as _ _ _
  have l0 : (0 : Int32).toInt = 0 := rfl
  have l1 : (1 : Int32).toInt = 1 := rfl
  have l2 : (2 : Int32).toInt = 2 := rfl
  unfold nqS nmC nmR isT lasR exT
  rw [s7, s8, s9]
  try rw [ej]
  generalize G (i + 2) = G2
  generalize G (i + 1 + x - 131071) = GJ
  generalize rkP b R K = PB
  generalize rkP c R K = PC
  generalize rkP a R K = PA
  simp (config := { decide := true }) only [i32_le, i32_lt, i32_eq, l0, l1, l2, if_true, if_false, true_and, and_true, false_and, and_false, true_or, or_true, false_or, or_false, not_true_eq_false, not_false_eq_true, true_implies, false_implies, implies_true, iff_true, iff_false, true_iff, false_iff, and_self, imp_false, Classical.not_not]
  all_goals ((by_cases hPB : PB) <;> (by_cases hPC : PC) <;> (try simp only [hPB, hPC, true_and, and_true, false_and, and_false, true_or, or_true, false_or, or_false, not_true_eq_false, not_false_eq_true, true_implies, false_implies, implies_true, iff_true, iff_false, true_iff, false_iff, and_self, imp_false, Classical.not_not]) <;> omega)
theorem nq_20 {a b c x i R U K Z : Int32} {G : Int32 → Prop} (h : prR a b c x R) : nqS 20 a b c x i R U K Z G := by
  obtain ⟨⟨a0, a1⟩, ⟨b0, b1⟩, ⟨c0, c1⟩, ⟨x0, x1⟩, r0, r1⟩ := h
  have s7 : stC 57 20 = 82 := by decide
  have s8 : stC 58 20 = 75 := by decide
  have s9 : stC 59 20 = 75 := by decide
  have ej : i + 1 + (x - 131071) = i + 1 + x - 131071 := add_sub_as _ _ _
  have l0 : (0 : Int32).toInt = 0 := rfl
  have l1 : (1 : Int32).toInt = 1 := rfl
  have l2 : (2 : Int32).toInt = 2 := rfl
  unfold nqS nmC nmR isT lasR exT
  rw [s7, s8, s9]
  try rw [ej]
  generalize G (i + 2) = G2
  generalize G (i + 1 + x - 131071) = GJ
  generalize rkP b R K = PB
  generalize rkP c R K = PC
  generalize rkP a R K = PA
  simp (config := { decide := true }) only [i32_le, i32_lt, i32_eq, l0, l1, l2, if_true, if_false, true_and, and_true, false_and, and_false, true_or, or_true, false_or, or_false, not_true_eq_false, not_false_eq_true, true_implies, false_implies, implies_true, iff_true, iff_false, true_iff, false_iff, and_self, imp_false, Classical.not_not]
  all_goals ((by_cases hPB : PB) <;> (by_cases hPC : PC) <;> (try simp only [hPB, hPC, true_and, and_true, false_and, and_false, true_or, or_true, false_or, or_false, not_true_eq_false, not_false_eq_true, true_implies, false_implies, implies_true, iff_true, iff_false, true_iff, false_iff, and_self, imp_false, Classical.not_not]) <;> omega)
theorem nq_21 {a b c x i R U K Z : Int32} {G : Int32 → Prop} (h : prR a b c x R) : nqS 21 a b c x i R U K Z G := by
  obtain ⟨⟨a0, a1⟩, ⟨b0, b1⟩, ⟨c0, c1⟩, ⟨x0, x1⟩, r0, r1⟩ := h
  have s7 : stC 57 21 = 82 := by decide
  have s8 : stC 58 21 = 75 := by decide
  have s9 : stC 59 21 = 75 := by decide
  have ej : i + 1 + (x - 131071) = i + 1 + x - 131071 := add_sub_as _ _ _
  have l0 : (0 : Int32).toInt = 0 := rfl
  have l1 : (1 : Int32).toInt = 1 := rfl
  have l2 : (2 : Int32).toInt = 2 := rfl
  unfold nqS nmC nmR isT lasR exT
  rw [s7, s8, s9]
  try rw [ej]
  generalize G (i + 2) = G2
  generalize G (i + 1 + x - 131071) = GJ
  generalize rkP b R K = PB
  generalize rkP c R K = PC
  generalize rkP a R K = PA
  simp (config := { decide := true }) only [i32_le, i32_lt, i32_eq, l0, l1, l2, if_true, if_false, true_and, and_true, false_and, and_false, true_or, or_true, false_or, or_false, not_true_eq_false, not_false_eq_true, true_implies, false_implies, implies_true, iff_true, iff_false, true_iff, false_iff, and_self, imp_false, Classical.not_not]
  all_goals ((by_cases hPB : PB) <;> (by_cases hPC : PC) <;> (try simp only [hPB, hPC, true_and, and_true, false_and, and_false, true_or, or_true, false_or, or_false, not_true_eq_false, not_false_eq_true, true_implies, false_implies, implies_true, iff_true, iff_false, true_iff, false_iff, and_self, imp_false, Classical.not_not]) <;> omega)
theorem nq_22 {a b c x i R U K Z : Int32} {G : Int32 → Prop} (h : prR a b c x R) : nqS 22 a b c x i R U K Z G := by
  obtain ⟨⟨a0, a1⟩, ⟨b0, b1⟩, ⟨c0, c1⟩, ⟨x0, x1⟩, r0, r1⟩ := h
  have s7 : stC 57 22 = 82 := by decide
  have s8 : stC 58 22 = 75 := by decide
  have s9 : stC 59 22 = 75 := by decide
  have ej : i + 1 + (x - 131071) = i + 1 + x - 131071 := add_sub_as _ _ _
  have l0 : (0 : Int32).toInt = 0 := rfl
  have l1 : (1 : Int32).toInt = 1 := rfl
  have l2 : (2 : Int32).toInt = 2 := rfl
  unfold nqS nmC nmR isT lasR exT
  rw [s7, s8, s9]
  try rw [ej]
  generalize G (i + 2) = G2
  generalize G (i + 1 + x - 131071) = GJ
  generalize rkP b R K = PB
  generalize rkP c R K = PC
  generalize rkP a R K = PA
  simp (config := { decide := true }) only [i32_le, i32_lt, i32_eq, l0, l1, l2, if_true, if_false, true_and, and_true, false_and, and_false, true_or, or_true, false_or, or_false, not_true_eq_false, not_false_eq_true, true_implies, false_implies, implies_true, iff_true, iff_false, true_iff, false_iff, and_self, imp_false, Classical.not_not]
  all_goals ((by_cases hPB : PB) <;> (by_cases hPC : PC) <;> (try simp only [hPB, hPC, true_and, and_true, false_and, and_false, true_or, or_true, false_or, or_false, not_true_eq_false, not_false_eq_true, true_implies, false_implies, implies_true, iff_true, iff_false, true_iff, false_iff, and_self, imp_false, Classical.not_not]) <;> omega)
theorem nq_23 {a b c x i R U K Z : Int32} {G : Int32 → Prop} (h : prR a b c x R) : nqS 23 a b c x i R U K Z G := by
  obtain ⟨⟨a0, a1⟩, ⟨b0, b1⟩, ⟨c0, c1⟩, ⟨x0, x1⟩, r0, r1⟩ := h
  have s7 : stC 57 23 = 82 := by decide
  have s8 : stC 58 23 = 75 := by decide
  have s9 : stC 59 23 = 75 := by decide
  have ej : i + 1 + (x - 131071) = i + 1 + x - 131071 := add_sub_as _ _ _
  have l0 : (0 : Int32).toInt = 0 := rfl
  have l1 : (1 : Int32).toInt = 1 := rfl
  have l2 : (2 : Int32).toInt = 2 := rfl
  unfold nqS nmC nmR isT lasR exT
  rw [s7, s8, s9]
  try rw [ej]
  generalize G (i + 2) = G2
  generalize G (i + 1 + x - 131071) = GJ
  generalize rkP b R K = PB
  generalize rkP c R K = PC
  generalize rkP a R K = PA
  simp (config := { decide := true }) only [i32_le, i32_lt, i32_eq, l0, l1, l2, if_true, if_false, true_and, and_true, false_and, and_false, true_or, or_true, false_or, or_false, not_true_eq_false, not_false_eq_true, true_implies, false_implies, implies_true, iff_true, iff_false, true_iff, false_iff, and_self, imp_false, Classical.not_not]
  all_goals ((by_cases hPB : PB) <;> (by_cases hPC : PC) <;> (try simp only [hPB, hPC, true_and, and_true, false_and, and_false, true_or, or_true, false_or, or_false, not_true_eq_false, not_false_eq_true, true_implies, false_implies, implies_true, iff_true, iff_false, true_iff, false_iff, and_self, imp_false, Classical.not_not]) <;> omega)
theorem nq_24 {a b c x i R U K Z : Int32} {G : Int32 → Prop} (h : prR a b c x R) : nqS 24 a b c x i R U K Z G := by
  obtain ⟨⟨a0, a1⟩, ⟨b0, b1⟩, ⟨c0, c1⟩, ⟨x0, x1⟩, r0, r1⟩ := h
  have s7 : stC 57 24 = 82 := by decide
  have s8 : stC 58 24 = 75 := by decide
  have s9 : stC 59 24 = 75 := by decide
  have ej : i + 1 + (x - 131071) = i + 1 + x - 131071 := add_sub_as _ _ _
  have l0 : (0 : Int32).toInt = 0 := rfl
  have l1 : (1 : Int32).toInt = 1 := rfl
  have l2 : (2 : Int32).toInt = 2 := rfl
  unfold nqS nmC nmR isT lasR exT
  rw [s7, s8, s9]
  try rw [ej]
  generalize G (i + 2) = G2
  generalize G (i + 1 + x - 131071) = GJ
  generalize rkP b R K = PB
  generalize rkP c R K = PC
  generalize rkP a R K = PA
  simp (config := { decide := true }) only [i32_le, i32_lt, i32_eq, l0, l1, l2, if_true, if_false, true_and, and_true, false_and, and_false, true_or, or_true, false_or, or_false, not_true_eq_false, not_false_eq_true, true_implies, false_implies, implies_true, iff_true, iff_false, true_iff, false_iff, and_self, imp_false, Classical.not_not]
  all_goals ((by_cases hPB : PB) <;> (by_cases hPC : PC) <;> (try simp only [hPB, hPC, true_and, and_true, false_and, and_false, true_or, or_true, false_or, or_false, not_true_eq_false, not_false_eq_true, true_implies, false_implies, implies_true, iff_true, iff_false, true_iff, false_iff, and_self, imp_false, Classical.not_not]) <;> omega)
theorem nq_25 {a b c x i R U K Z : Int32} {G : Int32 → Prop} (h : prR a b c x R) : nqS 25 a b c x i R U K Z G := by
  obtain ⟨⟨a0, a1⟩, ⟨b0, b1⟩, ⟨c0, c1⟩, ⟨x0, x1⟩, r0, r1⟩ := h
  have s7 : stC 57 25 = 82 := by decide
  have s8 : stC 58 25 = 82 := by decide
  have s9 : stC 59 25 = 45 := by decide
  have ej : i + 1 + (x - 131071) = i + 1 + x - 131071 := add_sub_as _ _ _
  have l0 : (0 : Int32).toInt = 0 := rfl
  have l1 : (1 : Int32).toInt = 1 := rfl
  have l2 : (2 : Int32).toInt = 2 := rfl
  unfold nqS nmC nmR isT lasR exT
  rw [s7, s8, s9]
  try rw [ej]
  generalize G (i + 2) = G2
  generalize G (i + 1 + x - 131071) = GJ
  generalize rkP b R K = PB
  generalize rkP c R K = PC
  generalize rkP a R K = PA
  simp (config := { decide := true }) only [i32_le, i32_lt, i32_eq, l0, l1, l2, if_true, if_false, true_and, and_true, false_and, and_false, true_or, or_true, false_or, or_false, not_true_eq_false, not_false_eq_true, true_implies, false_implies, implies_true, iff_true, iff_false, true_iff, false_iff, and_self, imp_false, Classical.not_not]
  all_goals ((try simp only [true_and, and_true, false_and, and_false, true_or, or_true, false_or, or_false, not_true_eq_false, not_false_eq_true, true_implies, false_implies, implies_true, iff_true, iff_false, true_iff, false_iff, and_self, imp_false, Classical.not_not]) <;> omega)
theorem nq_26 {a b c x i R U K Z : Int32} {G : Int32 → Prop} (h : prR a b c x R) : nqS 26 a b c x i R U K Z G := by
  obtain ⟨⟨a0, a1⟩, ⟨b0, b1⟩, ⟨c0, c1⟩, ⟨x0, x1⟩, r0, r1⟩ := h
  have s7 : stC 57 26 = 82 := by decide
  have s8 : stC 58 26 = 82 := by decide
  have s9 : stC 59 26 = 45 := by decide
  have ej : i + 1 + (x - 131071) = i + 1 + x - 131071 := add_sub_as _ _ _
  have l0 : (0 : Int32).toInt = 0 := rfl
  have l1 : (1 : Int32).toInt = 1 := rfl
  have l2 : (2 : Int32).toInt = 2 := rfl
  unfold nqS nmC nmR isT lasR exT
  rw [s7, s8, s9]
  try rw [ej]
  generalize G (i + 2) = G2
  generalize G (i + 1 + x - 131071) = GJ
  generalize rkP b R K = PB
  generalize rkP c R K = PC
  generalize rkP a R K = PA
  simp (config := { decide := true }) only [i32_le, i32_lt, i32_eq, l0, l1, l2, if_true, if_false, true_and, and_true, false_and, and_false, true_or, or_true, false_or, or_false, not_true_eq_false, not_false_eq_true, true_implies, false_implies, implies_true, iff_true, iff_false, true_iff, false_iff, and_self, imp_false, Classical.not_not]
  all_goals ((try simp only [true_and, and_true, false_and, and_false, true_or, or_true, false_or, or_false, not_true_eq_false, not_false_eq_true, true_implies, false_implies, implies_true, iff_true, iff_false, true_iff, false_iff, and_self, imp_false, Classical.not_not]) <;> omega)
theorem nq_27 {a b c x i R U K Z : Int32} {G : Int32 → Prop} (h : prR a b c x R) : nqS 27 a b c x i R U K Z G := by
  obtain ⟨⟨a0, a1⟩, ⟨b0, b1⟩, ⟨c0, c1⟩, ⟨x0, x1⟩, r0, r1⟩ := h
  have s7 : stC 57 27 = 82 := by decide
  have s8 : stC 58 27 = 82 := by decide
  have s9 : stC 59 27 = 45 := by decide
  have ej : i + 1 + (x - 131071) = i + 1 + x - 131071 := add_sub_as _ _ _
  have l0 : (0 : Int32).toInt = 0 := rfl
  have l1 : (1 : Int32).toInt = 1 := rfl
  have l2 : (2 : Int32).toInt = 2 := rfl
  unfold nqS nmC nmR isT lasR exT
  rw [s7, s8, s9]
  try rw [ej]
  generalize G (i + 2) = G2
  generalize G (i + 1 + x - 131071) = GJ
  generalize rkP b R K = PB
  generalize rkP c R K = PC
  generalize rkP a R K = PA
  simp (config := { decide := true }) only [i32_le, i32_lt, i32_eq, l0, l1, l2, if_true, if_false, true_and, and_true, false_and, and_false, true_or, or_true, false_or, or_false, not_true_eq_false, not_false_eq_true, true_implies, false_implies, implies_true, iff_true, iff_false, true_iff, false_iff, and_self, imp_false, Classical.not_not]
  all_goals ((try simp only [true_and, and_true, false_and, and_false, true_or, or_true, false_or, or_false, not_true_eq_false, not_false_eq_true, true_implies, false_implies, implies_true, iff_true, iff_false, true_iff, false_iff, and_self, imp_false, Classical.not_not]) <;> omega)
theorem nq_28 {a b c x i R U K Z : Int32} {G : Int32 → Prop} (h : prR a b c x R) : nqS 28 a b c x i R U K Z G := by
  obtain ⟨⟨a0, a1⟩, ⟨b0, b1⟩, ⟨c0, c1⟩, ⟨x0, x1⟩, r0, r1⟩ := h
  have s7 : stC 57 28 = 82 := by decide
  have s8 : stC 58 28 = 82 := by decide
  have s9 : stC 59 28 = 45 := by decide
  have ej : i + 1 + (x - 131071) = i + 1 + x - 131071 := add_sub_as _ _ _
  have l0 : (0 : Int32).toInt = 0 := rfl
  have l1 : (1 : Int32).toInt = 1 := rfl
  have l2 : (2 : Int32).toInt = 2 := rfl
  unfold nqS nmC nmR isT lasR exT
  rw [s7, s8, s9]
  try rw [ej]
  generalize G (i + 2) = G2
  generalize G (i + 1 + x - 131071) = GJ
  generalize rkP b R K = PB
  generalize rkP c R K = PC
  generalize rkP a R K = PA
  simp (config := { decide := true }) only [i32_le, i32_lt, i32_eq, l0, l1, l2, if_true, if_false, true_and, and_true, false_and, and_false, true_or, or_true, false_or, or_false, not_true_eq_false, not_false_eq_true, true_implies, false_implies, implies_true, iff_true, iff_false, true_iff, false_iff, and_self, imp_false, Classical.not_not]
  all_goals ((try simp only [true_and, and_true, false_and, and_false, true_or, or_true, false_or, or_false, not_true_eq_false, not_false_eq_true, true_implies, false_implies, implies_true, iff_true, iff_false, true_iff, false_iff, and_self, imp_false, Classical.not_not]) <;> omega)
theorem nq_29 {a b c x i R U K Z : Int32} {G : Int32 → Prop} (h : prR a b c x R) : nqS 29 a b c x i R U K Z G := by
  obtain ⟨⟨a0, a1⟩, ⟨b0, b1⟩, ⟨c0, c1⟩, ⟨x0, x1⟩, r0, r1⟩ := h
  have s7 : stC 57 29 = 82 := by decide
  have s8 : stC 58 29 = 82 := by decide
  have s9 : stC 59 29 = 82 := by decide
  have ej : i + 1 + (x - 131071) = i + 1 + x - 131071 := add_sub_as _ _ _
  have l0 : (0 : Int32).toInt = 0 := rfl
  have l1 : (1 : Int32).toInt = 1 := rfl
  have l2 : (2 : Int32).toInt = 2 := rfl
  unfold nqS nmC nmR isT lasR exT
  rw [s7, s8, s9]
  try rw [ej]
  generalize G (i + 2) = G2
  generalize G (i + 1 + x - 131071) = GJ
  generalize rkP b R K = PB
  generalize rkP c R K = PC
  generalize rkP a R K = PA
  simp (config := { decide := true }) only [i32_le, i32_lt, i32_eq, l0, l1, l2, if_true, if_false, true_and, and_true, false_and, and_false, true_or, or_true, false_or, or_false, not_true_eq_false, not_false_eq_true, true_implies, false_implies, implies_true, iff_true, iff_false, true_iff, false_iff, and_self, imp_false, Classical.not_not]
  all_goals ((try simp only [true_and, and_true, false_and, and_false, true_or, or_true, false_or, or_false, not_true_eq_false, not_false_eq_true, true_implies, false_implies, implies_true, iff_true, iff_false, true_iff, false_iff, and_self, imp_false, Classical.not_not]) <;> omega)
theorem nq_30 {a b c x i R U K Z : Int32} {G : Int32 → Prop} (h : prR a b c x R) : nqS 30 a b c x i R U K Z G := by
  obtain ⟨⟨a0, a1⟩, ⟨b0, b1⟩, ⟨c0, c1⟩, ⟨x0, x1⟩, r0, r1⟩ := h
  have s7 : stC 57 30 = 45 := by decide
  have s8 : stC 58 30 = 45 := by decide
  have s9 : stC 59 30 = 45 := by decide
  have q_am : (a - 1).toInt = a.toInt - 1 := by
    have z : (a - 1).toInt = _ := toI_sub2 ⟨by omega, by omega⟩ (by decide)
    have lam : (1 : Int32).toInt = 1 := rfl
    omega
  have ej : i + 1 + (x - 131071) = i + 1 + x - 131071 := add_sub_as _ _ _
  have l0 : (0 : Int32).toInt = 0 := rfl
  have l1 : (1 : Int32).toInt = 1 := rfl
  have l2 : (2 : Int32).toInt = 2 := rfl
  unfold nqS nmC nmR isT lasR exT
  rw [s7, s8, s9]
  try rw [ej]
  generalize G (i + 2) = G2
  generalize G (i + 1 + x - 131071) = GJ
  generalize rkP b R K = PB
  generalize rkP c R K = PC
  generalize rkP a R K = PA
  simp (config := { decide := true }) only [i32_le, i32_lt, i32_eq, l0, l1, l2, if_true, if_false, q_am, true_and, and_true, false_and, and_false, true_or, or_true, false_or, or_false, not_true_eq_false, not_false_eq_true, true_implies, false_implies, implies_true, iff_true, iff_false, true_iff, false_iff, and_self, imp_false, Classical.not_not]
  all_goals ((by_cases hGJ : GJ) <;> (try simp only [hGJ, true_and, and_true, false_and, and_false, true_or, or_true, false_or, or_false, not_true_eq_false, not_false_eq_true, true_implies, false_implies, implies_true, iff_true, iff_false, true_iff, false_iff, and_self, imp_false, Classical.not_not]) <;> omega)
theorem nq_31 {a b c x i R U K Z : Int32} {G : Int32 → Prop} (h : prR a b c x R) : nqS 31 a b c x i R U K Z G := by
  obtain ⟨⟨a0, a1⟩, ⟨b0, b1⟩, ⟨c0, c1⟩, ⟨x0, x1⟩, r0, r1⟩ := h
  have s7 : stC 57 31 = 84 := by decide
  have s8 : stC 58 31 = 75 := by decide
  have s9 : stC 59 31 = 75 := by decide
  have ej : i + 1 + (x - 131071) = i + 1 + x - 131071 := add_sub_as _ _ _
  have l0 : (0 : Int32).toInt = 0 := rfl
  have l1 : (1 : Int32).toInt = 1 := rfl
  have l2 : (2 : Int32).toInt = 2 := rfl
  unfold nqS nmC nmR isT lasR exT
  rw [s7, s8, s9]
  try rw [ej]
  generalize G (i + 2) = G2
  generalize G (i + 1 + x - 131071) = GJ
  generalize rkP b R K = PB
  generalize rkP c R K = PC
  generalize rkP a R K = PA
  simp (config := { decide := true }) only [i32_le, i32_lt, i32_eq, l0, l1, l2, if_true, if_false, true_and, and_true, false_and, and_false, true_or, or_true, false_or, or_false, not_true_eq_false, not_false_eq_true, true_implies, false_implies, implies_true, iff_true, iff_false, true_iff, false_iff, and_self, imp_false, Classical.not_not]
  all_goals ((by_cases hPB : PB) <;> (by_cases hPC : PC) <;> (try simp only [hPB, hPC, true_and, and_true, false_and, and_false, true_or, or_true, false_or, or_false, not_true_eq_false, not_false_eq_true, true_implies, false_implies, implies_true, iff_true, iff_false, true_iff, false_iff, and_self, imp_false, Classical.not_not]) <;> omega)
theorem nq_32 {a b c x i R U K Z : Int32} {G : Int32 → Prop} (h : prR a b c x R) : nqS 32 a b c x i R U K Z G := by
  obtain ⟨⟨a0, a1⟩, ⟨b0, b1⟩, ⟨c0, c1⟩, ⟨x0, x1⟩, r0, r1⟩ := h
  have s7 : stC 57 32 = 84 := by decide
  have s8 : stC 58 32 = 75 := by decide
  have s9 : stC 59 32 = 75 := by decide
  have ej : i + 1 + (x - 131071) = i + 1 + x - 131071 := add_sub_as _ _ _
  have l0 : (0 : Int32).toInt = 0 := rfl
  have l1 : (1 : Int32).toInt = 1 := rfl
  have l2 : (2 : Int32).toInt = 2 := rfl
  unfold nqS nmC nmR isT lasR exT
  rw [s7, s8, s9]
  try rw [ej]
  generalize G (i + 2) = G2
  generalize G (i + 1 + x - 131071) = GJ
  generalize rkP b R K = PB
  generalize rkP c R K = PC
  generalize rkP a R K = PA
  simp (config := { decide := true }) only [i32_le, i32_lt, i32_eq, l0, l1, l2, if_true, if_false, true_and, and_true, false_and, and_false, true_or, or_true, false_or, or_false, not_true_eq_false, not_false_eq_true, true_implies, false_implies, implies_true, iff_true, iff_false, true_iff, false_iff, and_self, imp_false, Classical.not_not]
  all_goals ((by_cases hPB : PB) <;> (by_cases hPC : PC) <;> (try simp only [hPB, hPC, true_and, and_true, false_and, and_false, true_or, or_true, false_or, or_false, not_true_eq_false, not_false_eq_true, true_implies, false_implies, implies_true, iff_true, iff_false, true_iff, false_iff, and_self, imp_false, Classical.not_not]) <;> omega)
theorem nq_33 {a b c x i R U K Z : Int32} {G : Int32 → Prop} (h : prR a b c x R) : nqS 33 a b c x i R U K Z G := by
  obtain ⟨⟨a0, a1⟩, ⟨b0, b1⟩, ⟨c0, c1⟩, ⟨x0, x1⟩, r0, r1⟩ := h
  have s7 : stC 57 33 = 84 := by decide
  have s8 : stC 58 33 = 75 := by decide
  have s9 : stC 59 33 = 75 := by decide
  have ej : i + 1 + (x - 131071) = i + 1 + x - 131071 := add_sub_as _ _ _
  have l0 : (0 : Int32).toInt = 0 := rfl
  have l1 : (1 : Int32).toInt = 1 := rfl
  have l2 : (2 : Int32).toInt = 2 := rfl
  unfold nqS nmC nmR isT lasR exT
  rw [s7, s8, s9]
  try rw [ej]
  generalize G (i + 2) = G2
  generalize G (i + 1 + x - 131071) = GJ
  generalize rkP b R K = PB
  generalize rkP c R K = PC
  generalize rkP a R K = PA
  simp (config := { decide := true }) only [i32_le, i32_lt, i32_eq, l0, l1, l2, if_true, if_false, true_and, and_true, false_and, and_false, true_or, or_true, false_or, or_false, not_true_eq_false, not_false_eq_true, true_implies, false_implies, implies_true, iff_true, iff_false, true_iff, false_iff, and_self, imp_false, Classical.not_not]
  all_goals ((by_cases hPB : PB) <;> (by_cases hPC : PC) <;> (try simp only [hPB, hPC, true_and, and_true, false_and, and_false, true_or, or_true, false_or, or_false, not_true_eq_false, not_false_eq_true, true_implies, false_implies, implies_true, iff_true, iff_false, true_iff, false_iff, and_self, imp_false, Classical.not_not]) <;> omega)
theorem nq_34 {a b c x i R U K Z : Int32} {G : Int32 → Prop} (h : prR a b c x R) : nqS 34 a b c x i R U K Z G := by
  obtain ⟨⟨a0, a1⟩, ⟨b0, b1⟩, ⟨c0, c1⟩, ⟨x0, x1⟩, r0, r1⟩ := h
  have s7 : stC 57 34 = 82 := by decide
  have s8 : stC 58 34 = 45 := by decide
  have s9 : stC 59 34 = 84 := by decide
  have ej : i + 1 + (x - 131071) = i + 1 + x - 131071 := add_sub_as _ _ _
  have l0 : (0 : Int32).toInt = 0 := rfl
  have l1 : (1 : Int32).toInt = 1 := rfl
  have l2 : (2 : Int32).toInt = 2 := rfl
  unfold nqS nmC nmR isT lasR exT
  rw [s7, s8, s9]
  try rw [ej]
  generalize G (i + 2) = G2
  generalize G (i + 1 + x - 131071) = GJ
  generalize rkP b R K = PB
  generalize rkP c R K = PC
  generalize rkP a R K = PA
  simp (config := { decide := true }) only [i32_le, i32_lt, i32_eq, l0, l1, l2, if_true, if_false, true_and, and_true, false_and, and_false, true_or, or_true, false_or, or_false, not_true_eq_false, not_false_eq_true, true_implies, false_implies, implies_true, iff_true, iff_false, true_iff, false_iff, and_self, imp_false, Classical.not_not]
  all_goals ((try simp only [true_and, and_true, false_and, and_false, true_or, or_true, false_or, or_false, not_true_eq_false, not_false_eq_true, true_implies, false_implies, implies_true, iff_true, iff_false, true_iff, false_iff, and_self, imp_false, Classical.not_not]) <;> omega)
theorem nq_35 {a b c x i R U K Z : Int32} {G : Int32 → Prop} (h : prR a b c x R) : nqS 35 a b c x i R U K Z G := by
  obtain ⟨⟨a0, a1⟩, ⟨b0, b1⟩, ⟨c0, c1⟩, ⟨x0, x1⟩, r0, r1⟩ := h
  have s7 : stC 57 35 = 82 := by decide
  have s8 : stC 58 35 = 82 := by decide
  have s9 : stC 59 35 = 84 := by decide
  have ej : i + 1 + (x - 131071) = i + 1 + x - 131071 := add_sub_as _ _ _
  have l0 : (0 : Int32).toInt = 0 := rfl
  have l1 : (1 : Int32).toInt = 1 := rfl
  have l2 : (2 : Int32).toInt = 2 := rfl
  unfold nqS nmC nmR isT lasR exT
  rw [s7, s8, s9]
  try rw [ej]
  generalize G (i + 2) = G2
  generalize G (i + 1 + x - 131071) = GJ
  generalize rkP b R K = PB
  generalize rkP c R K = PC
  generalize rkP a R K = PA
  simp (config := { decide := true }) only [i32_le, i32_lt, i32_eq, l0, l1, l2, if_true, if_false, true_and, and_true, false_and, and_false, true_or, or_true, false_or, or_false, not_true_eq_false, not_false_eq_true, true_implies, false_implies, implies_true, iff_true, iff_false, true_iff, false_iff, and_self, imp_false, Classical.not_not]
  all_goals ((try simp only [true_and, and_true, false_and, and_false, true_or, or_true, false_or, or_false, not_true_eq_false, not_false_eq_true, true_implies, false_implies, implies_true, iff_true, iff_false, true_iff, false_iff, and_self, imp_false, Classical.not_not]) <;> omega)
theorem nq_36 {a b c x i R U K Z : Int32} {G : Int32 → Prop} (h : prR a b c x R) : nqS 36 a b c x i R U K Z G := by
  obtain ⟨⟨a0, a1⟩, ⟨b0, b1⟩, ⟨c0, c1⟩, ⟨x0, x1⟩, r0, r1⟩ := h
  have s7 : stC 57 36 = 82 := by decide
  have s8 : stC 58 36 = 45 := by decide
  have s9 : stC 59 36 = 45 := by decide
  have q_ab : (a + b).toInt = a.toInt + b.toInt := by
    have z : (a + b).toInt = _ := toI_add2 ⟨by omega, by omega⟩ ⟨by omega, by omega⟩
    have lab : (0 : Int32).toInt = 0 := rfl
    omega
  have q_ac : (a + c).toInt = a.toInt + c.toInt := by
    have z : (a + c).toInt = _ := toI_add2 ⟨by omega, by omega⟩ ⟨by omega, by omega⟩
    have lac : (0 : Int32).toInt = 0 := rfl
    omega
  have q_ab1 : (a + b - 1).toInt = a.toInt + b.toInt - 1 := by
    have z : (a + b - 1).toInt = _ := toI_sub2 ⟨by omega, by omega⟩ (by decide)
    have lab1 : (1 : Int32).toInt = 1 := rfl
    omega
  have q_ac2 : (a + c - 2).toInt = a.toInt + c.toInt - 2 := by
    have z : (a + c - 2).toInt = _ := toI_sub2 ⟨by omega, by omega⟩ (by decide)
    have lac2 : (2 : Int32).toInt = 2 := rfl
    omega
  have ej : i + 1 + (x - 131071) = i + 1 + x - 131071 := add_sub_as _ _ _
  have l0 : (0 : Int32).toInt = 0 := rfl
  have l1 : (1 : Int32).toInt = 1 := rfl
  have l2 : (2 : Int32).toInt = 2 := rfl
  unfold nqS nmC nmR isT lasR exT
  rw [s7, s8, s9]
  try rw [ej]
  generalize G (i + 2) = G2
  generalize G (i + 1 + x - 131071) = GJ
  generalize rkP b R K = PB
  generalize rkP c R K = PC
  generalize rkP a R K = PA
  simp (config := { decide := true }) only [i32_le, i32_lt, i32_eq, l0, l1, l2, if_true, if_false, q_ab, q_ac, q_ab1, q_ac2, true_and, and_true, false_and, and_false, true_or, or_true, false_or, or_false, not_true_eq_false, not_false_eq_true, true_implies, false_implies, implies_true, iff_true, iff_false, true_iff, false_iff, and_self, imp_false, Classical.not_not]
  all_goals ((try simp only [true_and, and_true, false_and, and_false, true_or, or_true, false_or, or_false, not_true_eq_false, not_false_eq_true, true_implies, false_implies, implies_true, iff_true, iff_false, true_iff, false_iff, and_self, imp_false, Classical.not_not]) <;> (try split) <;> omega)
theorem nq_37 {a b c x i R U K Z : Int32} {G : Int32 → Prop} (h : prR a b c x R) : nqS 37 a b c x i R U K Z G := by
  obtain ⟨⟨a0, a1⟩, ⟨b0, b1⟩, ⟨c0, c1⟩, ⟨x0, x1⟩, r0, r1⟩ := h
  have s7 : stC 57 37 = 82 := by decide
  have s8 : stC 58 37 = 45 := by decide
  have s9 : stC 59 37 = 45 := by decide
  have q_ab : (a + b).toInt = a.toInt + b.toInt := by
    have z : (a + b).toInt = _ := toI_add2 ⟨by omega, by omega⟩ ⟨by omega, by omega⟩
    have lab : (0 : Int32).toInt = 0 := rfl
    omega
  have q_ab1 : (a + b - 1).toInt = a.toInt + b.toInt - 1 := by
    have z : (a + b - 1).toInt = _ := toI_sub2 ⟨by omega, by omega⟩ (by decide)
    have lab1 : (1 : Int32).toInt = 1 := rfl
    omega
  have ej : i + 1 + (x - 131071) = i + 1 + x - 131071 := add_sub_as _ _ _
  have l0 : (0 : Int32).toInt = 0 := rfl
  have l1 : (1 : Int32).toInt = 1 := rfl
  have l2 : (2 : Int32).toInt = 2 := rfl
  unfold nqS nmC nmR isT lasR exT
  rw [s7, s8, s9]
  try rw [ej]
  generalize G (i + 2) = G2
  generalize G (i + 1 + x - 131071) = GJ
  generalize rkP b R K = PB
  generalize rkP c R K = PC
  generalize rkP a R K = PA
  simp (config := { decide := true }) only [i32_le, i32_lt, i32_eq, l0, l1, l2, if_true, if_false, q_ab, q_ab1, true_and, and_true, false_and, and_false, true_or, or_true, false_or, or_false, not_true_eq_false, not_false_eq_true, true_implies, false_implies, implies_true, iff_true, iff_false, true_iff, false_iff, and_self, imp_false, Classical.not_not]
  all_goals ((try simp only [true_and, and_true, false_and, and_false, true_or, or_true, false_or, or_false, not_true_eq_false, not_false_eq_true, true_implies, false_implies, implies_true, iff_true, iff_false, true_iff, false_iff, and_self, imp_false, Classical.not_not]) <;> omega)
theorem nq_38 {a b c x i R U K Z : Int32} {G : Int32 → Prop} (h : prR a b c x R) : nqS 38 a b c x i R U K Z G := by
  obtain ⟨⟨a0, a1⟩, ⟨b0, b1⟩, ⟨c0, c1⟩, ⟨x0, x1⟩, r0, r1⟩ := h
  have s7 : stC 57 38 = 82 := by decide
  have s8 : stC 58 38 = 45 := by decide
  have s9 : stC 59 38 = 45 := by decide
  have q_ab : (a + b).toInt = a.toInt + b.toInt := by
    have z : (a + b).toInt = _ := toI_add2 ⟨by omega, by omega⟩ ⟨by omega, by omega⟩
    have lab : (0 : Int32).toInt = 0 := rfl
    omega
  have q_ab2 : (a + b - 2).toInt = a.toInt + b.toInt - 2 := by
    have z : (a + b - 2).toInt = _ := toI_sub2 ⟨by omega, by omega⟩ (by decide)
    have lab2 : (2 : Int32).toInt = 2 := rfl
    omega
  have ej : i + 1 + (x - 131071) = i + 1 + x - 131071 := add_sub_as _ _ _
  have l0 : (0 : Int32).toInt = 0 := rfl
  have l1 : (1 : Int32).toInt = 1 := rfl
  have l2 : (2 : Int32).toInt = 2 := rfl
  unfold nqS nmC nmR isT lasR exT
  rw [s7, s8, s9]
  try rw [ej]
  generalize G (i + 2) = G2
  generalize G (i + 1 + x - 131071) = GJ
  generalize rkP b R K = PB
  generalize rkP c R K = PC
  generalize rkP a R K = PA
  simp (config := { decide := true }) only [i32_le, i32_lt, i32_eq, l0, l1, l2, if_true, if_false, q_ab, q_ab2, true_and, and_true, false_and, and_false, true_or, or_true, false_or, or_false, not_true_eq_false, not_false_eq_true, true_implies, false_implies, implies_true, iff_true, iff_false, true_iff, false_iff, and_self, imp_false, Classical.not_not]
  all_goals ((try simp only [true_and, and_true, false_and, and_false, true_or, or_true, false_or, or_false, not_true_eq_false, not_false_eq_true, true_implies, false_implies, implies_true, iff_true, iff_false, true_iff, false_iff, and_self, imp_false, Classical.not_not]) <;> omega)
theorem nq_39 {a b c x i R U K Z : Int32} {G : Int32 → Prop} (h : prR a b c x R) : nqS 39 a b c x i R U K Z G := by
  obtain ⟨⟨a0, a1⟩, ⟨b0, b1⟩, ⟨c0, c1⟩, ⟨x0, x1⟩, r0, r1⟩ := h
  have s7 : stC 57 39 = 82 := by decide
  have s8 : stC 58 39 = 45 := by decide
  have s9 : stC 59 39 = 45 := by decide
  have q_a3 : (a + 3).toInt = a.toInt + 3 := by
    have z : (a + 3).toInt = _ := toI_add2 ⟨by omega, by omega⟩ (by decide)
    have la3 : (3 : Int32).toInt = 3 := rfl
    omega
  have ej : i + 1 + (x - 131071) = i + 1 + x - 131071 := add_sub_as _ _ _
  have l0 : (0 : Int32).toInt = 0 := rfl
  have l1 : (1 : Int32).toInt = 1 := rfl
  have l2 : (2 : Int32).toInt = 2 := rfl
  unfold nqS nmC nmR isT lasR exT
  rw [s7, s8, s9]
  try rw [ej]
  generalize G (i + 2) = G2
  generalize G (i + 1 + x - 131071) = GJ
  generalize rkP b R K = PB
  generalize rkP c R K = PC
  generalize rkP a R K = PA
  simp (config := { decide := true }) only [i32_le, i32_lt, i32_eq, l0, l1, l2, if_true, if_false, q_a3, true_and, and_true, false_and, and_false, true_or, or_true, false_or, or_false, not_true_eq_false, not_false_eq_true, true_implies, false_implies, implies_true, iff_true, iff_false, true_iff, false_iff, and_self, imp_false, Classical.not_not]
  all_goals ((by_cases hGJ : GJ) <;> (try simp only [hGJ, true_and, and_true, false_and, and_false, true_or, or_true, false_or, or_false, not_true_eq_false, not_false_eq_true, true_implies, false_implies, implies_true, iff_true, iff_false, true_iff, false_iff, and_self, imp_false, Classical.not_not]) <;> omega)
theorem nq_40 {a b c x i R U K Z : Int32} {G : Int32 → Prop} (h : prR a b c x R) : nqS 40 a b c x i R U K Z G := by
  obtain ⟨⟨a0, a1⟩, ⟨b0, b1⟩, ⟨c0, c1⟩, ⟨x0, x1⟩, r0, r1⟩ := h
  have s7 : stC 57 40 = 82 := by decide
  have s8 : stC 58 40 = 45 := by decide
  have s9 : stC 59 40 = 45 := by decide
  have q_a3 : (a + 3).toInt = a.toInt + 3 := by
    have z : (a + 3).toInt = _ := toI_add2 ⟨by omega, by omega⟩ (by decide)
    have la3 : (3 : Int32).toInt = 3 := rfl
    omega
  have ej : i + 1 + (x - 131071) = i + 1 + x - 131071 := add_sub_as _ _ _
  have l0 : (0 : Int32).toInt = 0 := rfl
  have l1 : (1 : Int32).toInt = 1 := rfl
  have l2 : (2 : Int32).toInt = 2 := rfl
  unfold nqS nmC nmR isT lasR exT
  rw [s7, s8, s9]
  try rw [ej]
  generalize G (i + 2) = G2
  generalize G (i + 1 + x - 131071) = GJ
  generalize rkP b R K = PB
  generalize rkP c R K = PC
  generalize rkP a R K = PA
  simp (config := { decide := true }) only [i32_le, i32_lt, i32_eq, l0, l1, l2, if_true, if_false, q_a3, true_and, and_true, false_and, and_false, true_or, or_true, false_or, or_false, not_true_eq_false, not_false_eq_true, true_implies, false_implies, implies_true, iff_true, iff_false, true_iff, false_iff, and_self, imp_false, Classical.not_not]
  all_goals ((by_cases hGJ : GJ) <;> (try simp only [hGJ, true_and, and_true, false_and, and_false, true_or, or_true, false_or, or_false, not_true_eq_false, not_false_eq_true, true_implies, false_implies, implies_true, iff_true, iff_false, true_iff, false_iff, and_self, imp_false, Classical.not_not]) <;> omega)
theorem nq_41 {a b c x i R U K Z : Int32} {G : Int32 → Prop} (h : prR a b c x R) : nqS 41 a b c x i R U K Z G := by
  obtain ⟨⟨a0, a1⟩, ⟨b0, b1⟩, ⟨c0, c1⟩, ⟨x0, x1⟩, r0, r1⟩ := h
  have s7 : stC 57 41 = 82 := by decide
  have s8 : stC 58 41 = 45 := by decide
  have s9 : stC 59 41 = 45 := by decide
  have q_a2 : (a + 2).toInt = a.toInt + 2 := by
    have z : (a + 2).toInt = _ := toI_add2 ⟨by omega, by omega⟩ (by decide)
    have la2 : (2 : Int32).toInt = 2 := rfl
    omega
  have q_a2c : (a + 2 + c).toInt = a.toInt + 2 + c.toInt := by
    have z : (a + 2 + c).toInt = _ := toI_add2 ⟨by omega, by omega⟩ ⟨by omega, by omega⟩
    have la2c : (0 : Int32).toInt = 0 := rfl
    omega
  have ej : i + 1 + (x - 131071) = i + 1 + x - 131071 := add_sub_as _ _ _
  have l0 : (0 : Int32).toInt = 0 := rfl
  have l1 : (1 : Int32).toInt = 1 := rfl
  have l2 : (2 : Int32).toInt = 2 := rfl
  unfold nqS nmC nmR isT lasR exT
  rw [s7, s8, s9]
  try rw [ej]
  generalize G (i + 2) = G2
  generalize G (i + 1 + x - 131071) = GJ
  generalize rkP b R K = PB
  generalize rkP c R K = PC
  generalize rkP a R K = PA
  simp (config := { decide := true }) only [i32_le, i32_lt, i32_eq, l0, l1, l2, if_true, if_false, q_a2, q_a2c, true_and, and_true, false_and, and_false, true_or, or_true, false_or, or_false, not_true_eq_false, not_false_eq_true, true_implies, false_implies, implies_true, iff_true, iff_false, true_iff, false_iff, and_self, imp_false, Classical.not_not]
  all_goals ((try simp only [true_and, and_true, false_and, and_false, true_or, or_true, false_or, or_false, not_true_eq_false, not_false_eq_true, true_implies, false_implies, implies_true, iff_true, iff_false, true_iff, false_iff, and_self, imp_false, Classical.not_not]) <;> omega)
theorem nq_42 {a b c x i R U K Z : Int32} {G : Int32 → Prop} (h : prR a b c x R) : nqS 42 a b c x i R U K Z G := by
  obtain ⟨⟨a0, a1⟩, ⟨b0, b1⟩, ⟨c0, c1⟩, ⟨x0, x1⟩, r0, r1⟩ := h
  have s7 : stC 57 42 = 82 := by decide
  have s8 : stC 58 42 = 45 := by decide
  have s9 : stC 59 42 = 45 := by decide
  have q_a1 : (a + 1).toInt = a.toInt + 1 := by
    have z : (a + 1).toInt = _ := toI_add2 ⟨by omega, by omega⟩ (by decide)
    have la1 : (1 : Int32).toInt = 1 := rfl
    omega
  have ej : i + 1 + (x - 131071) = i + 1 + x - 131071 := add_sub_as _ _ _
  have l0 : (0 : Int32).toInt = 0 := rfl
  have l1 : (1 : Int32).toInt = 1 := rfl
  have l2 : (2 : Int32).toInt = 2 := rfl
  unfold nqS nmC nmR isT lasR exT
  rw [s7, s8, s9]
  try rw [ej]
  generalize G (i + 2) = G2
  generalize G (i + 1 + x - 131071) = GJ
  generalize rkP b R K = PB
  generalize rkP c R K = PC
  generalize rkP a R K = PA
  simp (config := { decide := true }) only [i32_le, i32_lt, i32_eq, l0, l1, l2, if_true, if_false, q_a1, true_and, and_true, false_and, and_false, true_or, or_true, false_or, or_false, not_true_eq_false, not_false_eq_true, true_implies, false_implies, implies_true, iff_true, iff_false, true_iff, false_iff, and_self, imp_false, Classical.not_not]
  all_goals ((by_cases hGJ : GJ) <;> (try simp only [hGJ, true_and, and_true, false_and, and_false, true_or, or_true, false_or, or_false, not_true_eq_false, not_false_eq_true, true_implies, false_implies, implies_true, iff_true, iff_false, true_iff, false_iff, and_self, imp_false, Classical.not_not]) <;> omega)
theorem nq_43 {a b c x i R U K Z : Int32} {G : Int32 → Prop} (h : prR a b c x R) : nqS 43 a b c x i R U K Z G := by
  obtain ⟨⟨a0, a1⟩, ⟨b0, b1⟩, ⟨c0, c1⟩, ⟨x0, x1⟩, r0, r1⟩ := h
  have s7 : stC 57 43 = 82 := by decide
  have s8 : stC 58 43 = 45 := by decide
  have s9 : stC 59 43 = 45 := by decide
  have q_ab : (a + b).toInt = a.toInt + b.toInt := by
    have z : (a + b).toInt = _ := toI_add2 ⟨by omega, by omega⟩ ⟨by omega, by omega⟩
    have lab : (0 : Int32).toInt = 0 := rfl
    omega
  have ej : i + 1 + (x - 131071) = i + 1 + x - 131071 := add_sub_as _ _ _
  have l0 : (0 : Int32).toInt = 0 := rfl
  have l1 : (1 : Int32).toInt = 1 := rfl
  have l2 : (2 : Int32).toInt = 2 := rfl
  unfold nqS nmC nmR isT lasR exT
  rw [s7, s8, s9]
  try rw [ej]
  generalize G (i + 2) = G2
  generalize G (i + 1 + x - 131071) = GJ
  generalize rkP b R K = PB
  generalize rkP c R K = PC
  generalize rkP a R K = PA
  simp (config := { decide := true }) only [i32_le, i32_lt, i32_eq, l0, l1, l2, if_true, if_false, q_ab, true_and, and_true, false_and, and_false, true_or, or_true, false_or, or_false, not_true_eq_false, not_false_eq_true, true_implies, false_implies, implies_true, iff_true, iff_false, true_iff, false_iff, and_self, imp_false, Classical.not_not]
  all_goals ((try simp only [true_and, and_true, false_and, and_false, true_or, or_true, false_or, or_false, not_true_eq_false, not_false_eq_true, true_implies, false_implies, implies_true, iff_true, iff_false, true_iff, false_iff, and_self, imp_false, Classical.not_not]) <;> omega)
theorem nq_44 {a b c x i R U K Z : Int32} {G : Int32 → Prop} (h : prR a b c x R) : nqS 44 a b c x i R U K Z G := by
  obtain ⟨⟨a0, a1⟩, ⟨b0, b1⟩, ⟨c0, c1⟩, ⟨x0, x1⟩, r0, r1⟩ := h
  have s7 : stC 57 44 = 82 := by decide
  have s8 : stC 58 44 = 45 := by decide
  have s9 : stC 59 44 = 45 := by decide
  have ej : i + 1 + (x - 131071) = i + 1 + x - 131071 := add_sub_as _ _ _
  have l0 : (0 : Int32).toInt = 0 := rfl
  have l1 : (1 : Int32).toInt = 1 := rfl
  have l2 : (2 : Int32).toInt = 2 := rfl
  unfold nqS nmC nmR isT lasR exT
  rw [s7, s8, s9]
  try rw [ej]
  generalize G (i + 2) = G2
  generalize G (i + 1 + x - 131071) = GJ
  generalize rkP b R K = PB
  generalize rkP c R K = PC
  generalize rkP a R K = PA
  simp (config := { decide := true }) only [i32_le, i32_lt, i32_eq, l0, l1, l2, if_true, if_false, true_and, and_true, false_and, and_false, true_or, or_true, false_or, or_false, not_true_eq_false, not_false_eq_true, true_implies, false_implies, implies_true, iff_true, iff_false, true_iff, false_iff, and_self, imp_false, Classical.not_not]
  all_goals ((try simp only [true_and, and_true, false_and, and_false, true_or, or_true, false_or, or_false, not_true_eq_false, not_false_eq_true, true_implies, false_implies, implies_true, iff_true, iff_false, true_iff, false_iff, and_self, imp_false, Classical.not_not]) <;> omega)
theorem nq_45 {a b c x i R U K Z : Int32} {G : Int32 → Prop} (h : prR a b c x R) : nqS 45 a b c x i R U K Z G := by
  obtain ⟨⟨a0, a1⟩, ⟨b0, b1⟩, ⟨c0, c1⟩, ⟨x0, x1⟩, r0, r1⟩ := h
  have s7 : stC 57 45 = 82 := by decide
  have s8 : stC 58 45 = 45 := by decide
  have s9 : stC 59 45 = 45 := by decide
  have q_ab : (a + b).toInt = a.toInt + b.toInt := by
    have z : (a + b).toInt = _ := toI_add2 ⟨by omega, by omega⟩ ⟨by omega, by omega⟩
    have lab : (0 : Int32).toInt = 0 := rfl
    omega
  have q_ab2 : (a + b - 2).toInt = a.toInt + b.toInt - 2 := by
    have z : (a + b - 2).toInt = _ := toI_sub2 ⟨by omega, by omega⟩ (by decide)
    have lab2 : (2 : Int32).toInt = 2 := rfl
    omega
  have ej : i + 1 + (x - 131071) = i + 1 + x - 131071 := add_sub_as _ _ _
  have l0 : (0 : Int32).toInt = 0 := rfl
  have l1 : (1 : Int32).toInt = 1 := rfl
  have l2 : (2 : Int32).toInt = 2 := rfl
  unfold nqS nmC nmR isT lasR exT
  rw [s7, s8, s9]
  try rw [ej]
  generalize G (i + 2) = G2
  generalize G (i + 1 + x - 131071) = GJ
  generalize rkP b R K = PB
  generalize rkP c R K = PC
  generalize rkP a R K = PA
  simp (config := { decide := true }) only [i32_le, i32_lt, i32_eq, l0, l1, l2, if_true, if_false, q_ab, q_ab2, true_and, and_true, false_and, and_false, true_or, or_true, false_or, or_false, not_true_eq_false, not_false_eq_true, true_implies, false_implies, implies_true, iff_true, iff_false, true_iff, false_iff, and_self, imp_false, Classical.not_not]
  all_goals ((try simp only [true_and, and_true, false_and, and_false, true_or, or_true, false_or, or_false, not_true_eq_false, not_false_eq_true, true_implies, false_implies, implies_true, iff_true, iff_false, true_iff, false_iff, and_self, imp_false, Classical.not_not]) <;> omega)
theorem nq_46 {a b c x i R U K Z : Int32} {G : Int32 → Prop} (h : prR a b c x R) : nqS 46 a b c x i R U K Z G := by
  unfold nqS nmR
  simp (config := { decide := true }) only [if_false, if_true, not_true_eq_false, false_and]
theorem nq_47 {a b c x i R U K Z : Int32} {G : Int32 → Prop} (h : prR a b c x R) : nqS 47 a b c x i R U K Z G := by
  unfold nqS nmR
  simp (config := { decide := true }) only [if_false, if_true, not_true_eq_false, false_and]
theorem nq_48 {a b c x i R U K Z : Int32} {G : Int32 → Prop} (h : prR a b c x R) : nqS 48 a b c x i R U K Z G := by
  unfold nqS nmR
  simp (config := { decide := true }) only [if_false, if_true, not_true_eq_false, false_and]
theorem nq_49 {a b c x i R U K Z : Int32} {G : Int32 → Prop} (h : prR a b c x R) : nqS 49 a b c x i R U K Z G := by
  unfold nqS nmR
  simp (config := { decide := true }) only [if_false, if_true, not_true_eq_false, false_and]
theorem nq_50 {a b c x i R U K Z : Int32} {G : Int32 → Prop} (h : prR a b c x R) : nqS 50 a b c x i R U K Z G := by
  unfold nqS nmR
  simp (config := { decide := true }) only [if_false, if_true, not_true_eq_false, false_and]
theorem nq_51 {a b c x i R U K Z : Int32} {G : Int32 → Prop} (h : prR a b c x R) : nqS 51 a b c x i R U K Z G := by
  unfold nqS nmR
  simp (config := { decide := true }) only [if_false, if_true, not_true_eq_false, false_and]
theorem nq_52 {a b c x i R U K Z : Int32} {G : Int32 → Prop} (h : prR a b c x R) : nqS 52 a b c x i R U K Z G := by
  unfold nqS nmR
  simp (config := { decide := true }) only [if_false, if_true, not_true_eq_false, false_and]
theorem nq_53 {a b c x i R U K Z : Int32} {G : Int32 → Prop} (h : prR a b c x R) : nqS 53 a b c x i R U K Z G := by
  unfold nqS nmR
  simp (config := { decide := true }) only [if_false, if_true, not_true_eq_false, false_and]
theorem nq_54 {a b c x i R U K Z : Int32} {G : Int32 → Prop} (h : prR a b c x R) : nqS 54 a b c x i R U K Z G := by
  unfold nqS nmR
  simp (config := { decide := true }) only [if_false, if_true, not_true_eq_false, false_and]
theorem nq_55 {a b c x i R U K Z : Int32} {G : Int32 → Prop} (h : prR a b c x R) : nqS 55 a b c x i R U K Z G := by
  unfold nqS nmR
  simp (config := { decide := true }) only [if_false, if_true, not_true_eq_false, false_and]
theorem nq_56 {a b c x i R U K Z : Int32} {G : Int32 → Prop} (h : prR a b c x R) : nqS 56 a b c x i R U K Z G := by
  unfold nqS nmR
  simp (config := { decide := true }) only [if_false, if_true, not_true_eq_false, false_and]
theorem nq_57 {a b c x i R U K Z : Int32} {G : Int32 → Prop} (h : prR a b c x R) : nqS 57 a b c x i R U K Z G := by
  unfold nqS nmR
  simp (config := { decide := true }) only [if_false, if_true, not_true_eq_false, false_and]
theorem nq_58 {a b c x i R U K Z : Int32} {G : Int32 → Prop} (h : prR a b c x R) : nqS 58 a b c x i R U K Z G := by
  unfold nqS nmR
  simp (config := { decide := true }) only [if_false, if_true, not_true_eq_false, false_and]
theorem nq_59 {a b c x i R U K Z : Int32} {G : Int32 → Prop} (h : prR a b c x R) : nqS 59 a b c x i R U K Z G := by
  unfold nqS nmR
  simp (config := { decide := true }) only [if_false, if_true, not_true_eq_false, false_and]
theorem nq_60 {a b c x i R U K Z : Int32} {G : Int32 → Prop} (h : prR a b c x R) : nqS 60 a b c x i R U K Z G := by
  unfold nqS nmR
  simp (config := { decide := true }) only [if_false, if_true, not_true_eq_false, false_and]
theorem nq_61 {a b c x i R U K Z : Int32} {G : Int32 → Prop} (h : prR a b c x R) : nqS 61 a b c x i R U K Z G := by
  unfold nqS nmR
  simp (config := { decide := true }) only [if_false, if_true, not_true_eq_false, false_and]
theorem nq_62 {a b c x i R U K Z : Int32} {G : Int32 → Prop} (h : prR a b c x R) : nqS 62 a b c x i R U K Z G := by
  unfold nqS nmR
  simp (config := { decide := true }) only [if_false, if_true, not_true_eq_false, false_and]
theorem nq_63 {a b c x i R U K Z : Int32} {G : Int32 → Prop} (h : prR a b c x R) : nqS 63 a b c x i R U K Z G := by
  unfold nqS nmR
  simp (config := { decide := true }) only [if_false, if_true, not_true_eq_false, false_and]
theorem nq_all {o a b c x i R U K Z : Int32} {G : Int32 → Prop} (ho : 0 ≤ o.toInt ∧ o.toInt ≤ 63) (h : prR a b c x R) : nqS o a b c x i R U K Z G := by
  have e : o.toInt = 0 ∨ o.toInt = 1 ∨ o.toInt = 2 ∨ o.toInt = 3 ∨ o.toInt = 4 ∨ o.toInt = 5 ∨ o.toInt = 6 ∨ o.toInt = 7 ∨ o.toInt = 8 ∨ o.toInt = 9 ∨ o.toInt = 10 ∨ o.toInt = 11 ∨ o.toInt = 12 ∨ o.toInt = 13 ∨ o.toInt = 14 ∨ o.toInt = 15 ∨ o.toInt = 16 ∨ o.toInt = 17 ∨ o.toInt = 18 ∨ o.toInt = 19 ∨ o.toInt = 20 ∨ o.toInt = 21 ∨ o.toInt = 22 ∨ o.toInt = 23 ∨ o.toInt = 24 ∨ o.toInt = 25 ∨ o.toInt = 26 ∨ o.toInt = 27 ∨ o.toInt = 28 ∨ o.toInt = 29 ∨ o.toInt = 30 ∨ o.toInt = 31 ∨ o.toInt = 32 ∨ o.toInt = 33 ∨ o.toInt = 34 ∨ o.toInt = 35 ∨ o.toInt = 36 ∨ o.toInt = 37 ∨ o.toInt = 38 ∨ o.toInt = 39 ∨ o.toInt = 40 ∨ o.toInt = 41 ∨ o.toInt = 42 ∨ o.toInt = 43 ∨ o.toInt = 44 ∨ o.toInt = 45 ∨ o.toInt = 46 ∨ o.toInt = 47 ∨ o.toInt = 48 ∨ o.toInt = 49 ∨ o.toInt = 50 ∨ o.toInt = 51 ∨ o.toInt = 52 ∨ o.toInt = 53 ∨ o.toInt = 54 ∨ o.toInt = 55 ∨ o.toInt = 56 ∨ o.toInt = 57 ∨ o.toInt = 58 ∨ o.toInt = 59 ∨ o.toInt = 60 ∨ o.toInt = 61 ∨ o.toInt = 62 ∨ o.toInt = 63 := by omega
  rcases e with e | e | e | e | e | e | e | e | e | e | e | e | e | e | e | e | e | e | e | e | e | e | e | e | e | e | e | e | e | e | e | e | e | e | e | e | e | e | e | e | e | e | e | e | e | e | e | e | e | e | e | e | e | e | e | e | e | e | e | e | e | e | e | e
  · rw [show o = (0 : Int32) from toInt_inj e]
    exact nq_0 h
  · rw [show o = (1 : Int32) from toInt_inj e]
    exact nq_1 h
  · rw [show o = (2 : Int32) from toInt_inj e]
    exact nq_2 h
  · rw [show o = (3 : Int32) from toInt_inj e]
    exact nq_3 h
  · rw [show o = (4 : Int32) from toInt_inj e]
    exact nq_4 h
  · rw [show o = (5 : Int32) from toInt_inj e]
    exact nq_5 h
  · rw [show o = (6 : Int32) from toInt_inj e]
    exact nq_6 h
  · rw [show o = (7 : Int32) from toInt_inj e]
    exact nq_7 h
  · rw [show o = (8 : Int32) from toInt_inj e]
    exact nq_8 h
  · rw [show o = (9 : Int32) from toInt_inj e]
    exact nq_9 h
  · rw [show o = (10 : Int32) from toInt_inj e]
    exact nq_10 h
  · rw [show o = (11 : Int32) from toInt_inj e]
    exact nq_11 h
  · rw [show o = (12 : Int32) from toInt_inj e]
    exact nq_12 h
  · rw [show o = (13 : Int32) from toInt_inj e]
    exact nq_13 h
  · rw [show o = (14 : Int32) from toInt_inj e]
    exact nq_14 h
  · rw [show o = (15 : Int32) from toInt_inj e]
    exact nq_15 h
  · rw [show o = (16 : Int32) from toInt_inj e]
    exact nq_16 h
  · rw [show o = (17 : Int32) from toInt_inj e]
    exact nq_17 h
  · rw [show o = (18 : Int32) from toInt_inj e]
    exact nq_18 h
  · rw [show o = (19 : Int32) from toInt_inj e]
    exact nq_19 h
  · rw [show o = (20 : Int32) from toInt_inj e]
    exact nq_20 h
  · rw [show o = (21 : Int32) from toInt_inj e]
    exact nq_21 h
  · rw [show o = (22 : Int32) from toInt_inj e]
    exact nq_22 h
  · rw [show o = (23 : Int32) from toInt_inj e]
    exact nq_23 h
  · rw [show o = (24 : Int32) from toInt_inj e]
    exact nq_24 h
  · rw [show o = (25 : Int32) from toInt_inj e]
    exact nq_25 h
  · rw [show o = (26 : Int32) from toInt_inj e]
    exact nq_26 h
  · rw [show o = (27 : Int32) from toInt_inj e]
    exact nq_27 h
  · rw [show o = (28 : Int32) from toInt_inj e]
    exact nq_28 h
  · rw [show o = (29 : Int32) from toInt_inj e]
    exact nq_29 h
  · rw [show o = (30 : Int32) from toInt_inj e]
    exact nq_30 h
  · rw [show o = (31 : Int32) from toInt_inj e]
    exact nq_31 h
  · rw [show o = (32 : Int32) from toInt_inj e]
    exact nq_32 h
  · rw [show o = (33 : Int32) from toInt_inj e]
    exact nq_33 h
  · rw [show o = (34 : Int32) from toInt_inj e]
    exact nq_34 h
  · rw [show o = (35 : Int32) from toInt_inj e]
    exact nq_35 h
  · rw [show o = (36 : Int32) from toInt_inj e]
    exact nq_36 h
  · rw [show o = (37 : Int32) from toInt_inj e]
    exact nq_37 h
  · rw [show o = (38 : Int32) from toInt_inj e]
    exact nq_38 h
  · rw [show o = (39 : Int32) from toInt_inj e]
    exact nq_39 h
  · rw [show o = (40 : Int32) from toInt_inj e]
    exact nq_40 h
  · rw [show o = (41 : Int32) from toInt_inj e]
    exact nq_41 h
  · rw [show o = (42 : Int32) from toInt_inj e]
    exact nq_42 h
  · rw [show o = (43 : Int32) from toInt_inj e]
    exact nq_43 h
  · rw [show o = (44 : Int32) from toInt_inj e]
    exact nq_44 h
  · rw [show o = (45 : Int32) from toInt_inj e]
    exact nq_45 h
  · rw [show o = (46 : Int32) from toInt_inj e]
    exact nq_46 h
  · rw [show o = (47 : Int32) from toInt_inj e]
    exact nq_47 h
  · rw [show o = (48 : Int32) from toInt_inj e]
    exact nq_48 h
  · rw [show o = (49 : Int32) from toInt_inj e]
    exact nq_49 h
  · rw [show o = (50 : Int32) from toInt_inj e]
    exact nq_50 h
  · rw [show o = (51 : Int32) from toInt_inj e]
    exact nq_51 h
  · rw [show o = (52 : Int32) from toInt_inj e]
    exact nq_52 h
  · rw [show o = (53 : Int32) from toInt_inj e]
    exact nq_53 h
  · rw [show o = (54 : Int32) from toInt_inj e]
    exact nq_54 h
  · rw [show o = (55 : Int32) from toInt_inj e]
    exact nq_55 h
  · rw [show o = (56 : Int32) from toInt_inj e]
    exact nq_56 h
  · rw [show o = (57 : Int32) from toInt_inj e]
    exact nq_57 h
  · rw [show o = (58 : Int32) from toInt_inj e]
    exact nq_58 h
  · rw [show o = (59 : Int32) from toInt_inj e]
    exact nq_59 h
  · rw [show o = (60 : Int32) from toInt_inj e]
    exact nq_60 h
  · rw [show o = (61 : Int32) from toInt_inj e]
    exact nq_61 h
  · rw [show o = (62 : Int32) from toInt_inj e]
    exact nq_62 h
  · rw [show o = (63 : Int32) from toInt_inj e]
    exact nq_63 h
