/-! Where a key goes; the search in a table. -/
theorem tdiv_key (x m : Int) (hm : 0 < m) : ∃ q r, x.tdiv m = q ∧ q * m + r = x ∧ (0 ≤ x → 0 ≤ r ∧ r < m ∧ 0 ≤ q ∧ q ≤ x) ∧ (x < 0 → -m < r ∧ r ≤ 0 ∧ x ≤ q ∧ q ≤ 0) := by
  have nn : ∀ y : Int, 0 ≤ y → ∃ q r, y.tdiv m = q ∧ q * m + r = y ∧ 0 ≤ r ∧ r < m ∧ 0 ≤ q ∧ q ≤ y := fun y hy => by
    refine ⟨y / m, y % m, Int.tdiv_eq_ediv_of_nonneg hy, ?_, Int.emod_nonneg y (by omega), Int.emod_lt_of_pos y hm, Int.ediv_nonneg hy (by omega), Int.ediv_le_self m hy⟩
    have := Int.mul_ediv_add_emod y m
    rw [Int.mul_comm] at this
    exact this
  by_cases h : 0 ≤ x
  · obtain ⟨q, r, h1, h2, h3, h4, h5, h6⟩ := nn x h
    exact ⟨q, r, h1, h2, fun _ => ⟨h3, h4, h5, h6⟩, fun z => by omega⟩
  · obtain ⟨q, r, h1, h2, h3, h4, h5, h6⟩ := nn (-x) (by omega)
    refine ⟨-q, -r, ?_, ?_, fun z => by omega, fun _ => ⟨by omega, by omega, by omega, by omega⟩⟩
    · rw [Int.neg_tdiv] at h1
      omega
    · rw [Int.neg_mul]
      omega
theorem xor_nn (a b : Int64) (hb : 0 < b) : (0 ≤ a ^^^ b) ↔ 0 ≤ a := by
  have h1 : ∀ c : Int64, (0 ≤ c) ↔ c.toBitVec.msb = false := fun c => by
    have h0 : (0 : Int64).toInt = 0 := rfl
    have e : c.toBitVec.toInt = c.toInt := rfl
    rw [i64_le, BitVec.msb_eq_toInt, h0, e]
    simp
  have hb' : b.toBitVec.msb = false := (h1 b).mp (Int64.le_of_lt hb)
  rw [h1, h1, Int64.toBitVec_xor, BitVec.msb_xor, hb']
  simp
theorem rem64_toInt (a b : Int64) (hb : 0 < b) : (0 ≤ a → 0 ≤ (a - a / b * b).toInt ∧ (a - a / b * b).toInt < b.toInt) ∧ (¬ 0 ≤ a → -b.toInt < (a - a / b * b).toInt ∧ (a - a / b * b).toInt ≤ 0) := by
  have h0 : (0 : Int64).toInt = 0 := rfl
  have hm : 0 < b.toInt := by
    rw [i64_lt] at hb
    omega
  have x1 := Int64.le_toInt a
  have x2 := Int64.toInt_lt a
  have m2 := Int64.toInt_lt b
  obtain ⟨q, r, k1, k2, k3, k4⟩ := tdiv_key a.toInt b.toInt hm
  have r1 : -9223372036854775808 ≤ q ∧ q < 9223372036854775808 := by
    by_cases c : 0 ≤ a.toInt
    · have := k3 c
      omega
    · have := k4 (by omega)
      omega
  have r2 : -9223372036854775808 ≤ q * b.toInt ∧ q * b.toInt < 9223372036854775808 := by
    by_cases c : 0 ≤ a.toInt
    · have := k3 c
      omega
    · have := k4 (by omega)
      omega
  have e1 : (a / b).toInt = q := by
    rw [Int64.toInt_div, k1]
    exact Int.bmod_eq_of_le (by omega) (by omega)
  have e2 : (a / b * b).toInt = q * b.toInt := by
    rw [Int64.toInt_mul, e1]
    exact Int.bmod_eq_of_le (by omega) (by omega)
  have e3 : (a - a / b * b).toInt = r := by
    rw [Int64.toInt_sub, e2]
    have : a.toInt - q * b.toInt = r := by omega
    rw [this]
    refine Int.bmod_eq_of_le ?_ ?_
    · by_cases c : 0 ≤ a.toInt
      · have := k3 c
        omega
      · have := k4 (by omega)
        omega
    · by_cases c : 0 ≤ a.toInt
      · have := k3 c
        omega
      · have := k4 (by omega)
        omega
  rw [e3, i64_le, h0]
  exact ⟨fun c => ⟨(k3 c).1, (k3 c).2.1⟩, fun c => ⟨(k4 (by omega)).1, (k4 (by omega)).2.1⟩⟩
theorem floorMod_ok (s : S1) (a b : Int64) (hb : 0 < b) : ok (M_Mth_floorMod a b) s (fun r s' => s' = s ∧ 0 ≤ r ∧ r < b) := by
  have h0 : (0 : Int64).toInt = 0 := rfl
  obtain ⟨k1, k2⟩ := rem64_toInt a b hb
  have hb' := hb
  rw [i64_lt, h0] at hb'
  have m2 := Int64.toInt_lt b
  simp only [M_Mth_floorMod, ok_B, ok_C, ok_R, ok_L, ok_K, ok_GI, ok_GL, ok_PI, ok_PL, ok_AI, ok_AL, ok_SI, ok_SL, ok_Pr, ok_CI, cmp_lt, cmp_le, cmp_gt, cmp_ge, cmp_eq, nar0, nar1, Sum.elim_inl, Sum.elim_inr, xor_nn a b hb]
  refine ⟨fun e => ?_, fun c => ⟨by trivial, ?_, ?_⟩, fun c => ⟨fun d => ⟨by trivial, ?_, ?_⟩, fun d => ⟨by trivial, ?_, ?_⟩⟩⟩
  · rw [e] at hb
    exact absurd hb (by decide)
  · rw [i64_le, h0]
    exact (k1 c).1
  · rw [i64_lt]
    exact (k1 c).2
  · rw [d]
    decide
  · rw [d]
    exact hb
  all_goals
    have q := k2 c
    have q0 : (a - a / b * b).toInt ≠ 0 := fun e => d (by rw [← Int64.toInt_inj, e, h0])
    have e : (a - a / b * b + b).toInt = (a - a / b * b).toInt + b.toInt := by
      rw [Int64.toInt_add]
      exact Int.bmod_eq_of_le (by omega) (by omega)
  · rw [i64_le, e, h0]
    omega
  · rw [i64_lt, e]
    omega
theorem slot_ok (s : S1) (n k : Int32) (v : Int64) (hn : 0 < n) : ok (M_Mo_slot n k v) s (fun r s' => s' = s ∧ 0 ≤ r ∧ r < n) := by
  have h0 : (0 : Int64).toInt = 0 := rfl
  have h0' : (0 : Int32).toInt = 0 := rfl
  have e : n.toInt64.toInt = n.toInt := Int32.toInt_toInt64 n
  have hn' := hn
  rw [i32_lt, h0'] at hn'
  have n2 := Int32.toInt_lt n
  simp only [M_Mo_slot, ok_B, ok_C, ok_R, ok_L, ok_K, ok_GI, ok_GL, ok_PI, ok_PL, ok_AI, ok_AL, ok_SI, ok_SL, ok_Pr, ok_CI, cmp_lt, cmp_le, cmp_gt, cmp_ge, cmp_eq, nar0, nar1, Sum.elim_inl, Sum.elim_inr]
  refine ok_mono (floorMod_ok s _ n.toInt64 (by rw [i64_lt, e, h0]; exact hn')) fun r s' ⟨es, h1, h2⟩ => ⟨es, ?_⟩
  rw [i64_le, h0] at h1
  rw [i64_lt, e] at h2
  have e2 : r.toInt32.toInt = r.toInt := by
    rw [Int64.toInt_toInt32]
    exact Int.bmod_eq_of_le (by omega) (by omega)
  rw [i32_le, i32_lt, e2, h0']
  exact ⟨h1, h2⟩
/-- a table, from its own side -/
def Tb (s : S1) (t : Int32) : Prop := (0 ≤ t ∧ t < 4100) ∧ (0 ≤ a_first s t ∧ a_first s t ≤ 300000) ∧ (0 ≤ a_second s t ∧ a_second s t ≤ 300000) ∧ a_first s t + a_second s t ≤ 300000 ∧ (0 ≤ a_third s t ∧ a_third s t ≤ a_second s t) ∧ Tch s t ∧ Rm s
theorem GG.tb {s : S1} {t : Int32} (h : GG s) (ht : Lv false s t 5) : Tb s t := by
  have hv := h.1.1.1
  have q := (hv.2.2 t ht.1 ht.2.1).1.1 ht.2.2.1
  have hu := h.1.1.2.2.2.2.2.2
  exact ⟨⟨ht.1, Int32.lt_trans (Int32.lt_of_lt_of_le ht.2.1 hu.2) (by decide)⟩, ⟨q.1, q.2.2.2.1⟩, ⟨Int32.le_trans q.2.1 q.2.2.1, q.2.2.2.2.1⟩, Int32.le_trans q.2.2.2.2.2 hv.2.1.2, ⟨q.2.1, q.2.2.1⟩, (h.2.2.1.2 t ht.1 ht.2.1).1 ht.2.2.1, hv.1⟩
/-- an entry of t with this key -/
def Ent (s : S1) (t k : Int32) (v : Int64) (r : Int32) : Prop := (a_first s t ≤ r ∧ r < a_first s t + a_third s t) ∧ (0 ≤ r ∧ r < 300000) ∧ a_ek s r = k ∧ a_ev s r = v
theorem entry_ok (s : S1) (t k : Int32) (v : Int64) (hT : Tb s t) : ok (M_Mo_entry t k v) s (fun r s' => s' = s ∧ (r = -1 ∨ Ent s t k v r)) := by
  obtain ⟨h1, h2, h3, h4, h5, ⟨c1, c2⟩, r1, r2, r3, r4, r5, r6⟩ := hT
  simp only [M_Mo_entry, ok_B, ok_C, ok_R, ok_L, ok_K, ok_GI, ok_GL, ok_PI, ok_PL, ok_AI, ok_AL, ok_SI, ok_SL, ok_Pr, ok_CI, cmp_lt, cmp_le, cmp_gt, cmp_ge, cmp_eq, nar0, nar1, Sum.elim_inl, Sum.elim_inr]
  simp only [p_ek, p_vk, p_ev, p_vv, p_follow, p_bucket] at r1 r2 r3 r4 r5 r6
  refine ⟨h1, fun _ => ⟨by trivial, Or.inl (by trivial)⟩, fun c => ⟨r6, h1, h1, ?_⟩⟩
  have hpos : 0 < a_second s t := Int32.lt_of_le_of_ne h3.1 (fun e => c e.symm)
  refine ok_mono (slot_ok s _ k v hpos) fun e s1 ⟨es, e1, e2⟩ => ?_
  subst es
  have b1 := add_in (a := a_first s1 t) (i := e) (n := a_second s1 t) (L := 300000) ⟨h2.1, Int32.le_trans h2.2 (by decide)⟩ e1 e2 (Int32.le_trans h3.2 (by decide)) h4
  have d1 := c1 e e1 e2
  refine ⟨⟨fun _ => r6, by decide, by decide⟩, b1, ?_⟩
  have inn : ∀ x, 0 ≤ x → x < a_third s1 t → 0 ≤ a_first s1 t + x ∧ a_first s1 t + x < 300000 := fun x p q => add_in (a := a_first s1 t) (i := x) (n := a_second s1 t) (L := 300000) ⟨h2.1, Int32.le_trans h2.2 (by decide)⟩ p (Int32.lt_of_lt_of_le q h5.2) (Int32.le_trans h3.2 (by decide)) h4
  have in2 : ∀ x, 0 ≤ x → x < a_third s1 t → a_first s1 t ≤ a_first s1 t + x ∧ a_first s1 t + x < a_first s1 t + a_third s1 t := fun x p q => by
    have z1 := h2
    have z2 := h3
    have z3 := h5
    clear c1 c2 inn d1
    grind
  refine ok_mono (ok_W (Q := fun y s' => s' = s1 ∧ Sum.elim (fun z => z.1 = t ∧ 0 ≤ z.2 ∧ z.2 < a_third s1 t ∧ a_ek s1 (a_first s1 t + z.2) = k ∧ a_ev s1 (a_first s1 t + z.2) = v) (fun _ => True) y) (fun y s' => s' = s1 ∧ y.1 = t ∧ y.2.1 = k ∧ y.2.2.1 = v ∧ -1 ≤ y.2.2.2 ∧ y.2.2.2 < a_third s1 t) (fun y _ => (y.2.2.2 + 1).toNatClampNeg) ?_ _ _ ⟨rfl, rfl, rfl, rfl, ?_, ?_⟩) ?_
  · rintro ⟨t', k', v', x⟩ s2 ⟨es, y1, y2, y3, x1, x2⟩
    dsimp only at y1 y2 y3 x1 x2
    subst es y1 y2 y3
    simp only [M_Mo_entry_L39, M_Mo_entry_j91, ok_B, ok_C, ok_R, ok_L, ok_K, ok_GI, ok_GL, ok_PI, ok_PL, ok_AI, ok_AL, ok_SI, ok_SL, ok_Pr, ok_CI, cmp_lt, cmp_le, cmp_gt, cmp_ge, cmp_eq, nar0, nar1, Sum.elim_inl, Sum.elim_inr, r1, r3, r5]
    refine ⟨fun _ => ⟨by trivial, by trivial⟩, fun c => ?_⟩
    have x0 := Int32.not_lt.mp c
    have i1 := inn x x0 x2
    have f1 := c2 x x0 x2
    have go : (-1 ≤ a_follow s2 (a_first s2 t' + x) - 1 ∧ a_follow s2 (a_first s2 t' + x) - 1 < a_third s2 t') ∧ (a_follow s2 (a_first s2 t' + x) - 1 + 1).toNatClampNeg < (x + 1).toNatClampNeg := by
      have z3 := h5
      have z4 := h3
      clear c1 c2 inn in2 d1 b1
      refine ⟨⟨by grind, by grind⟩, clamp_lt (by grind) (by grind)⟩
    refine ⟨by trivial, h1, i1, fun d => ⟨by trivial, h1, i1, fun f => ⟨by trivial, by trivial, x0, x2, d, f⟩, fun f => ⟨by trivial, h1, i1, ⟨by trivial, by trivial, by trivial, by trivial, go.1⟩, go.2⟩⟩, fun d => ⟨by trivial, h1, i1, ⟨by trivial, by trivial, by trivial, by trivial, go.1⟩, go.2⟩⟩
  · have z3 := h5
    show -1 ≤ a_bucket s1 (a_first s1 t + e) - 1
    clear c1 c2 inn in2 b1
    grind
  · have z3 := h5
    have z4 := h3
    show a_bucket s1 (a_first s1 t + e) - 1 < a_third s1 t
    clear c1 c2 inn in2 b1
    grind
  · rintro (⟨t', x⟩ | y) s2 ⟨es, hy⟩
    · subst es
      obtain ⟨q1, q2, q3, q4, q5⟩ := hy
      dsimp only at q1 q2 q3 q4 q5
      subst q1
      simp only [ok_B, ok_C, ok_R, ok_L, ok_K, ok_GI, ok_GL, ok_PI, ok_PL, ok_AI, ok_AL, ok_SI, ok_SL, ok_Pr, ok_CI, cmp_lt, cmp_le, cmp_gt, cmp_ge, cmp_eq, nar0, nar1, Sum.elim_inl, Sum.elim_inr]
      exact ⟨h1, by trivial, Or.inr ⟨in2 x q2 q3, inn x q2 q3, q4, q5⟩⟩
    · subst es
      simp only [ok_B, ok_C, ok_R, ok_L, ok_K, ok_GI, ok_GL, ok_PI, ok_PL, ok_AI, ok_AL, ok_SI, ok_SL, ok_Pr, ok_CI, cmp_lt, cmp_le, cmp_gt, cmp_ge, cmp_eq, nar0, nar1, Sum.elim_inl, Sum.elim_inr]
      exact ⟨by trivial, Or.inl (by trivial)⟩
/-- what is looked for lies in got: a value, or nothing -/
theorem raw_ok (s : S1) (t k : Int32) (v : Int64) (h : GG s) (ht : Lv false s t 5) : ok (M_Mo_raw t k v) s (fun r s' => ∃ gk gv, s' = sL (sI s 66 0 gk) 67 0 gv ∧ Vl false s gk gv ∧ (r = 0 ↔ gk = 0) ∧ (r ≠ 0 → ∃ e, Ent s t k v e) ∧ (r = 0 ∨ r = 1)) := by
  have hT := h.tb ht
  obtain ⟨r1, r2, r3, r4, r5, r6⟩ := hT.2.2.2.2.2.2
  simp only [p_ek, p_vk, p_ev, p_vv, p_follow, p_bucket] at r1 r2 r3 r4 r5 r6
  have hv := ((h.1.1.1.2.2 t ht.1 ht.2.1).2.1 ht.2.2.1).2
  have no : ok (M_Mo_raw_j15 (-1)) s (fun r s' => ∃ gk gv, s' = sL (sI s 66 0 gk) 67 0 gv ∧ Vl false s gk gv ∧ (r = 0 ↔ gk = 0) ∧ (r ≠ 0 → ∃ e, Ent s t k v e) ∧ (r = 0 ∨ r = 1)) := by
    simp only [M_Mo_raw_j15, M_Mo_raw_j34, M_Mo_raw_j54, ok_B, ok_C, ok_R, ok_L, ok_K, ok_GI, ok_GL, ok_PI, ok_PL, ok_AI, ok_AL, ok_SI, ok_SL, ok_Pr, ok_CI, cmp_lt, cmp_le, cmp_gt, cmp_ge, cmp_eq, nar0, nar1, Sum.elim_inl, Sum.elim_inr]
    simp only [gI_sI, gI_sL, gI_sA, gI_sB, gI_sAf, gI_sBf, gL_sI, gL_sL, gL_sA, gL_sB, gL_sAf, gL_sBf, gA_sI, gA_sL, gA_sA, gA_sB, gA_sAf, gA_sBf, gB_sI, gB_sL, gB_sA, gB_sB, gB_sAf, gB_sBf, Nat.reduceEqDiff, Nat.reduceMul, Nat.reduceAdd, false_and, true_and, and_true, and_false, if_true, if_false]
    refine ⟨fun c => absurd c (by decide), fun _ => ⟨fun c => absurd c (by decide), fun _ => ⟨fun _ => ⟨0, 0, rfl, Or.inl ⟨by decide, by decide⟩, by simp, fun z => absurd rfl z, Or.inl (by trivial)⟩, fun c => absurd trivial c⟩⟩⟩
  simp only [M_Mo_raw, ok_B, ok_C, ok_R, ok_L, ok_K, ok_GI, ok_GL, ok_PI, ok_PL, ok_AI, ok_AL, ok_SI, ok_SL, ok_Pr, ok_CI, cmp_lt, cmp_le, cmp_gt, cmp_ge, cmp_eq, nar0, nar1, Sum.elim_inl, Sum.elim_inr]
  refine ⟨fun _ => no, fun c => ok_mono (entry_ok s t k v hT) fun e s1 ⟨es, he⟩ => ?_⟩
  subst es
  rcases he with he | he
  · rw [he]
    exact no
  · have b := he.2.1
    have w := hv e he.1.1 he.1.2
    simp only [M_Mo_raw_j15, M_Mo_raw_j34, M_Mo_raw_j54, ok_B, ok_C, ok_R, ok_L, ok_K, ok_GI, ok_GL, ok_PI, ok_PL, ok_AI, ok_AL, ok_SI, ok_SL, ok_Pr, ok_CI, cmp_lt, cmp_le, cmp_gt, cmp_ge, cmp_eq, nar0, nar1, Sum.elim_inl, Sum.elim_inr]
    simp only [gI_sI, gI_sL, gI_sA, gI_sB, gI_sAf, gI_sBf, gL_sI, gL_sL, gL_sA, gL_sB, gL_sAf, gL_sBf, gA_sI, gA_sL, gA_sA, gA_sB, gA_sAf, gA_sBf, gB_sI, gB_sL, gB_sA, gB_sB, gB_sAf, gB_sBf, Nat.reduceEqDiff, Nat.reduceMul, Nat.reduceAdd, false_and, true_and, and_true, and_false, if_true, if_false]
    refine ⟨fun _ => ⟨r2, b, fun _ => ⟨r4, b, fun d => ?_, fun d => ?_⟩, fun d => absurd b.1 d⟩, fun d => absurd b.1 d⟩
    · exact ⟨_, _, rfl, w.2, ⟨fun _ => d, fun _ => by trivial⟩, fun z => absurd rfl z, Or.inl (by trivial)⟩
    · exact ⟨_, _, rfl, w.2, ⟨fun z => absurd z (by decide), fun z => absurd z d⟩, fun _ => ⟨e, he⟩, Or.inr (by trivial)⟩
