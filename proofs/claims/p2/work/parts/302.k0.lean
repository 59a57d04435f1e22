/-! Numbers: what both sides need. -/
theorem kpigeon (f : Int32 → Int32) (n u : Int32) (hn : 0 ≤ n) (hu : 0 ≤ u) (hr : ∀ i, 0 ≤ i → i < n → 0 ≤ f i ∧ f i < u)
    (hi : ∀ i j, 0 ≤ i → i < j → j < n → f i ≠ f j) : n ≤ u := by
  have h0 : (0 : Int32).toInt = 0 := rfl
  have key : ∀ (k : Nat) (m : Nat), (∃ g : Nat → Nat, (∀ i, i < k → g i < m) ∧ (∀ i j, i < j → j < k → g i ≠ g j)) → k ≤ m := by
    intro k m
    induction m generalizing k with
    | zero => intro ⟨g, h1, h2⟩; exact Nat.le_of_not_lt fun h => absurd (h1 0 h) (by omega)
    | succ m ih =>
      intro ⟨g, h1, h2⟩
      by_cases hx : ∃ i, i < k ∧ g i = m
      · obtain ⟨i0, h3, h4⟩ := hx
        have := ih (k - 1) ⟨fun i => if i < i0 then g i else g (i + 1), ?_, ?_⟩
        · omega
        · intro i hi
          have a1 := h1 i (by omega); have a2 := h1 (i + 1) (by omega)
          by_cases hc : i < i0
          · have := h2 i i0 hc h3; simp only [hc, if_true]; omega
          · have := h2 i0 (i + 1) (by omega) (by omega); simp only [hc, if_false]; omega
        · intro i j hij hj
          by_cases hc : i < i0 <;> by_cases hd : j < i0 <;> simp only [hc, hd, if_true, if_false]
          · exact h2 i j hij (by omega)
          · exact h2 i (j + 1) (by omega) (by omega)
          · omega
          · exact h2 (i + 1) (j + 1) (by omega) (by omega)
      · have := ih k ⟨g, fun i hi => by have := h1 i hi; have : g i ≠ m := fun e => hx ⟨i, hi, e⟩; omega, h2⟩
        omega
  have hk := key n.toNatClampNeg u.toNatClampNeg ⟨fun i => (f (Int32.ofNat i)).toNatClampNeg, ?_, ?_⟩
  · rw [i32_le] at *; unfold Int32.toNatClampNeg at hk; omega
  · intro i hi'
    have e : (Int32.ofNat i).toInt = i := Int32.toInt_ofNat_of_lt (by unfold Int32.toNatClampNeg at hi'; have := Int32.toInt_lt n; omega)
    have h1 := hr (Int32.ofNat i) (by rw [i32_le, e]; omega) (by rw [i32_lt, e]; unfold Int32.toNatClampNeg at hi'; omega)
    exact clamp_lt h1.1 h1.2
  · intro i j hij hj
    have ej : (Int32.ofNat j).toInt = j := Int32.toInt_ofNat_of_lt (by unfold Int32.toNatClampNeg at hj; have := Int32.toInt_lt n; omega)
    have ei : (Int32.ofNat i).toInt = i := Int32.toInt_ofNat_of_lt (by unfold Int32.toNatClampNeg at hj; have := Int32.toInt_lt n; omega)
    have a1 : 0 ≤ Int32.ofNat i := by rw [i32_le, ei]; omega
    have a2 : Int32.ofNat i < Int32.ofNat j := by rw [i32_lt, ei, ej]; omega
    have a3 : Int32.ofNat j < n := by rw [i32_lt, ej]; unfold Int32.toNatClampNeg at hj; omega
    have h1 := hr _ a1 (by grind)
    have h2 := hr (Int32.ofNat j) (by grind) a3
    intro he
    dsimp only at he
    apply hi _ _ a1 a2 a3
    have b1 := h1.1; have b2 := h2.1
    rw [i32_le] at b1 b2
    rw [← Int32.toInt_inj]
    unfold Int32.toNatClampNeg at he; omega
theorem kcountP_one (p p' : Nat → Bool) (m : Nat) (h : p m = false) (h' : p' m = true) (n : Nat) (he : ∀ i, i < n → i ≠ m → p' i = p i) : (List.range n).countP p' = (List.range n).countP p + if m < n then 1 else 0 := by
  induction n with
  | zero => simp
  | succ n ih =>
    rw [List.range_succ, List.countP_append, List.countP_append, ih (fun i hi => he i (by omega))]
    by_cases hm : n = m
    · subst hm
      simp [h, h']
    · have e := he n (by omega) hm
      have : (m < n + 1) ↔ m < n := by omega
      simp only [List.countP_cons, List.countP_nil, e, this]
      omega
theorem kclamp_succ {g : Int32} (h1 : 0 ≤ g) (h2 : g < 1000000) : (g + 1).toNatClampNeg = g.toNatClampNeg + 1 := by
  rw [i32_le] at h1
  rw [i32_lt] at h2
  have h0 : (0 : Int32).toInt = 0 := rfl
  have hm : (1000000 : Int32).toInt = 1000000 := rfl
  have h3 : (1 : Int32).toInt = 1 := rfl
  unfold Int32.toNatClampNeg
  rw [Int32.toInt_add, h3, Int.bmod_eq_of_le (by omega) (by omega)]
  omega
theorem ktI_add {a b : Int32} (h : -2147483648 ≤ a.toInt + b.toInt ∧ a.toInt + b.toInt < 2147483648) : (a + b).toInt = a.toInt + b.toInt := by
  rw [Int32.toInt_add]
  exact Int.bmod_eq_of_le (by omega) (by omega)
theorem ktI_sub {a b : Int32} (h : -2147483648 ≤ a.toInt - b.toInt ∧ a.toInt - b.toInt < 2147483648) : (a - b).toInt = a.toInt - b.toInt := by
  rw [Int32.toInt_sub]
  exact Int.bmod_eq_of_le (by omega) (by omega)
theorem kand_le (x : Int32) (n : Nat) (hn : n < 2147483648) : 0 ≤ x &&& Int32.ofNat n ∧ x &&& Int32.ofNat n ≤ Int32.ofNat n := by
  have h0 : (0 : Int32).toInt = 0 := rfl
  have e1 : (Int32.ofNat n).toInt = n := Int32.toInt_ofNat_of_lt (by omega)
  have e2 : (Int32.ofNat n).toBitVec = BitVec.ofNat 32 n := rfl
  have e3 : (x &&& Int32.ofNat n).toBitVec.toNat = x.toBitVec.toNat &&& n := by
    rw [Int32.toBitVec_and, BitVec.toNat_and, e2, BitVec.toNat_ofNat, Nat.mod_eq_of_lt (by omega)]
  have e4 : (x &&& Int32.ofNat n).toBitVec.toNat ≤ n := by
    rw [e3]
    exact Nat.and_le_right
  have e5 : (x &&& Int32.ofNat n).toInt = (x &&& Int32.ofNat n).toBitVec.toNat := by
    show (x &&& Int32.ofNat n).toBitVec.toInt = _
    rw [BitVec.toInt_eq_toNat_of_lt (by omega)]
  rw [i32_le, i32_le, h0, e1, e5]
  omega
